section
-- ===== PART A: goes FIRST, ahead of the names: the tables' words, and 'selects' of the private methods out of them =====
/-- a private method of a class that the tables say can be made, by its rows of tables_1 -/
def lw_okq (q : MethodName × Nat) : Prop := (q.1.cls ≠ "java/lang/invoke/MethodHandle" ∧ q.1.cls ≠ "java/lang/invoke/VarHandle") ∧ Cond.instantiable q.1.cls q.2 ∈ tables_1 ∧ Cond.privateMethod q.1 ∈ tables_1 ∧ Cond.instanceMethod q.1 ∈ tables_1
theorem lw_p0 : lw_okq (⟨"PrinterHouse$Fonts", "setHead", "(IIIIII)V"⟩, 10) := ⟨⟨by decide +kernel, by decide +kernel⟩, List.mem_of_getElem? (i := 165) (by decide +kernel), List.mem_of_getElem? (i := 190) (by decide +kernel), List.mem_of_getElem? (i := 191) (by decide +kernel)⟩
theorem lw_p1 : lw_okq (⟨"PrinterHouse", "feedNumber", "(I)V"⟩, 12) := ⟨⟨by decide +kernel, by decide +kernel⟩, List.mem_of_getElem? (i := 23) (by decide +kernel), List.mem_of_getElem? (i := 663) (by decide +kernel), List.mem_of_getElem? (i := 664) (by decide +kernel)⟩
theorem lw_p2 : lw_okq (⟨"PrinterHouse$Streams", "goThrough", "([BII)V"⟩, 19) := ⟨⟨by decide +kernel, by decide +kernel⟩, List.mem_of_getElem? (i := 81) (by decide +kernel), List.mem_of_getElem? (i := 792) (by decide +kernel), List.mem_of_getElem? (i := 793) (by decide +kernel)⟩
theorem lw_p3 : lw_okq (⟨"PrinterHouse$Streams", "pass", "(I)Z"⟩, 19) := ⟨⟨by decide +kernel, by decide +kernel⟩, List.mem_of_getElem? (i := 81) (by decide +kernel), List.mem_of_getElem? (i := 820) (by decide +kernel), List.mem_of_getElem? (i := 821) (by decide +kernel)⟩
theorem lw_p4 : lw_okq (⟨"PrinterHouse$Streams", "other", "(I)V"⟩, 19) := ⟨⟨by decide +kernel, by decide +kernel⟩, List.mem_of_getElem? (i := 81) (by decide +kernel), List.mem_of_getElem? (i := 824) (by decide +kernel), List.mem_of_getElem? (i := 825) (by decide +kernel)⟩
theorem lw_p5 : lw_okq (⟨"PrinterHouse$Streams", "line", "(I)V"⟩, 19) := ⟨⟨by decide +kernel, by decide +kernel⟩, List.mem_of_getElem? (i := 81) (by decide +kernel), List.mem_of_getElem? (i := 835) (by decide +kernel), List.mem_of_getElem? (i := 836) (by decide +kernel)⟩
theorem lw_p6 : lw_okq (⟨"PrinterHouse$Streams", "form", "()V"⟩, 19) := ⟨⟨by decide +kernel, by decide +kernel⟩, List.mem_of_getElem? (i := 81) (by decide +kernel), List.mem_of_getElem? (i := 840) (by decide +kernel), List.mem_of_getElem? (i := 841) (by decide +kernel)⟩
theorem lw_p7 : lw_okq (⟨"PrinterHouse$Streams", "eject", "()V"⟩, 19) := ⟨⟨by decide +kernel, by decide +kernel⟩, List.mem_of_getElem? (i := 81) (by decide +kernel), List.mem_of_getElem? (i := 844) (by decide +kernel), List.mem_of_getElem? (i := 845) (by decide +kernel)⟩
theorem lw_p8 : lw_okq (⟨"PrinterHouse$Streams", "goMacro", "(I)V"⟩, 19) := ⟨⟨by decide +kernel, by decide +kernel⟩, List.mem_of_getElem? (i := 81) (by decide +kernel), List.mem_of_getElem? (i := 872) (by decide +kernel), List.mem_of_getElem? (i := 873) (by decide +kernel)⟩
theorem lw_p9 : lw_okq (⟨"PrinterHouse$Sheaf", "putNumber", "(II)V"⟩, 10) := ⟨⟨by decide +kernel, by decide +kernel⟩, List.mem_of_getElem? (i := 31) (by decide +kernel), List.mem_of_getElem? (i := 906) (by decide +kernel), List.mem_of_getElem? (i := 907) (by decide +kernel)⟩
theorem lw_p10 : lw_okq (⟨"PrinterHouse$Sheaf", "putByte", "(I)V"⟩, 10) := ⟨⟨by decide +kernel, by decide +kernel⟩, List.mem_of_getElem? (i := 31) (by decide +kernel), List.mem_of_getElem? (i := 910) (by decide +kernel), List.mem_of_getElem? (i := 911) (by decide +kernel)⟩
theorem lw_p11 : lw_okq (⟨"PrinterHouse$Sheaf", "writeRow", "([III)V"⟩, 10) := ⟨⟨by decide +kernel, by decide +kernel⟩, List.mem_of_getElem? (i := 31) (by decide +kernel), List.mem_of_getElem? (i := 915) (by decide +kernel), List.mem_of_getElem? (i := 916) (by decide +kernel)⟩
theorem lw_p12 : lw_okq (⟨"PrinterHouse$Sheaf", "putBits", "(II)V"⟩, 10) := ⟨⟨by decide +kernel, by decide +kernel⟩, List.mem_of_getElem? (i := 31) (by decide +kernel), List.mem_of_getElem? (i := 939) (by decide +kernel), List.mem_of_getElem? (i := 940) (by decide +kernel)⟩
theorem lw_p13 : lw_okq (⟨"PrinterHouse$Sheaf", "putRun", "(II)V"⟩, 10) := ⟨⟨by decide +kernel, by decide +kernel⟩, List.mem_of_getElem? (i := 31) (by decide +kernel), List.mem_of_getElem? (i := 947) (by decide +kernel), List.mem_of_getElem? (i := 948) (by decide +kernel)⟩
theorem lw_p14 : lw_okq (⟨"PrinterHouse$Sheaf", "writeDirectory", "(IIII)V"⟩, 10) := ⟨⟨by decide +kernel, by decide +kernel⟩, List.mem_of_getElem? (i := 31) (by decide +kernel), List.mem_of_getElem? (i := 953) (by decide +kernel), List.mem_of_getElem? (i := 954) (by decide +kernel)⟩
theorem lw_p15 : lw_okq (⟨"PrinterHouse$Sheaf", "setNumber", "(II)V"⟩, 10) := ⟨⟨by decide +kernel, by decide +kernel⟩, List.mem_of_getElem? (i := 31) (by decide +kernel), List.mem_of_getElem? (i := 957) (by decide +kernel), List.mem_of_getElem? (i := 958) (by decide +kernel)⟩
def lw_privs_1 : List (MethodName × Nat) := [(⟨"PrinterHouse$Fonts", "setHead", "(IIIIII)V"⟩, 10), (⟨"PrinterHouse", "feedNumber", "(I)V"⟩, 12), (⟨"PrinterHouse$Streams", "goThrough", "([BII)V"⟩, 19), (⟨"PrinterHouse$Streams", "pass", "(I)Z"⟩, 19), (⟨"PrinterHouse$Streams", "other", "(I)V"⟩, 19), (⟨"PrinterHouse$Streams", "line", "(I)V"⟩, 19), (⟨"PrinterHouse$Streams", "form", "()V"⟩, 19), (⟨"PrinterHouse$Streams", "eject", "()V"⟩, 19), (⟨"PrinterHouse$Streams", "goMacro", "(I)V"⟩, 19), (⟨"PrinterHouse$Sheaf", "putNumber", "(II)V"⟩, 10), (⟨"PrinterHouse$Sheaf", "putByte", "(I)V"⟩, 10), (⟨"PrinterHouse$Sheaf", "writeRow", "([III)V"⟩, 10), (⟨"PrinterHouse$Sheaf", "putBits", "(II)V"⟩, 10), (⟨"PrinterHouse$Sheaf", "putRun", "(II)V"⟩, 10), (⟨"PrinterHouse$Sheaf", "writeDirectory", "(IIII)V"⟩, 10), (⟨"PrinterHouse$Sheaf", "setNumber", "(II)V"⟩, 10)]
theorem lw_r1 : ∀ q ∈ lw_privs_1, lw_okq q := List.forall_mem_cons.mpr ⟨lw_p0, List.forall_mem_cons.mpr ⟨lw_p1, List.forall_mem_cons.mpr ⟨lw_p2, List.forall_mem_cons.mpr ⟨lw_p3, List.forall_mem_cons.mpr ⟨lw_p4, List.forall_mem_cons.mpr ⟨lw_p5, List.forall_mem_cons.mpr ⟨lw_p6, List.forall_mem_cons.mpr ⟨lw_p7, List.forall_mem_cons.mpr ⟨lw_p8, List.forall_mem_cons.mpr ⟨lw_p9, List.forall_mem_cons.mpr ⟨lw_p10, List.forall_mem_cons.mpr ⟨lw_p11, List.forall_mem_cons.mpr ⟨lw_p12, List.forall_mem_cons.mpr ⟨lw_p13, List.forall_mem_cons.mpr ⟨lw_p14, List.forall_mem_cons.mpr ⟨lw_p15, fun _ h => absurd h List.not_mem_nil⟩⟩⟩⟩⟩⟩⟩⟩⟩⟩⟩⟩⟩⟩⟩⟩
theorem lw_p16 : lw_okq (⟨"PrinterHouse$Sheaf", "putEntry", "(III)V"⟩, 10) := ⟨⟨by decide +kernel, by decide +kernel⟩, List.mem_of_getElem? (i := 31) (by decide +kernel), List.mem_of_getElem? (i := 961) (by decide +kernel), List.mem_of_getElem? (i := 962) (by decide +kernel)⟩
theorem lw_p17 : lw_okq (⟨"PrinterHouse$Streams", "endWithReturn", "()V"⟩, 19) := ⟨⟨by decide +kernel, by decide +kernel⟩, List.mem_of_getElem? (i := 81) (by decide +kernel), List.mem_of_getElem? (i := 967) (by decide +kernel), List.mem_of_getElem? (i := 968) (by decide +kernel)⟩
theorem lw_p18 : lw_okq (⟨"PrinterHouse$Streams", "carriageReturn", "()V"⟩, 19) := ⟨⟨by decide +kernel, by decide +kernel⟩, List.mem_of_getElem? (i := 81) (by decide +kernel), List.mem_of_getElem? (i := 971) (by decide +kernel), List.mem_of_getElem? (i := 972) (by decide +kernel)⟩
theorem lw_p19 : lw_okq (⟨"PrinterHouse$Streams", "followPitch", "()V"⟩, 19) := ⟨⟨by decide +kernel, by decide +kernel⟩, List.mem_of_getElem? (i := 81) (by decide +kernel), List.mem_of_getElem? (i := 975) (by decide +kernel), List.mem_of_getElem? (i := 976) (by decide +kernel)⟩
theorem lw_p20 : lw_okq (⟨"PrinterHouse$Fonts", "choose", "()I"⟩, 10) := ⟨⟨by decide +kernel, by decide +kernel⟩, List.mem_of_getElem? (i := 165) (by decide +kernel), List.mem_of_getElem? (i := 992) (by decide +kernel), List.mem_of_getElem? (i := 993) (by decide +kernel)⟩
theorem lw_p21 : lw_okq (⟨"PrinterHouse$Fonts", "alike", "(III)I"⟩, 10) := ⟨⟨by decide +kernel, by decide +kernel⟩, List.mem_of_getElem? (i := 165) (by decide +kernel), List.mem_of_getElem? (i := 997) (by decide +kernel), List.mem_of_getElem? (i := 998) (by decide +kernel)⟩
theorem lw_p22 : lw_okq (⟨"PrinterHouse$Fonts", "nearest", "(II)I"⟩, 10) := ⟨⟨by decide +kernel, by decide +kernel⟩, List.mem_of_getElem? (i := 165) (by decide +kernel), List.mem_of_getElem? (i := 1001) (by decide +kernel), List.mem_of_getElem? (i := 1002) (by decide +kernel)⟩
theorem lw_p23 : lw_okq (⟨"PrinterHouse$Streams", "beginSequence", "()V"⟩, 19) := ⟨⟨by decide +kernel, by decide +kernel⟩, List.mem_of_getElem? (i := 81) (by decide +kernel), List.mem_of_getElem? (i := 1013) (by decide +kernel), List.mem_of_getElem? (i := 1014) (by decide +kernel)⟩
theorem lw_p24 : lw_okq (⟨"PrinterHouse$Streams", "twoBytes", "(I)V"⟩, 19) := ⟨⟨by decide +kernel, by decide +kernel⟩, List.mem_of_getElem? (i := 81) (by decide +kernel), List.mem_of_getElem? (i := 1017) (by decide +kernel), List.mem_of_getElem? (i := 1018) (by decide +kernel)⟩
theorem lw_p25 : lw_okq (⟨"PrinterHouse$Streams", "reset", "()V"⟩, 19) := ⟨⟨by decide +kernel, by decide +kernel⟩, List.mem_of_getElem? (i := 81) (by decide +kernel), List.mem_of_getElem? (i := 1021) (by decide +kernel), List.mem_of_getElem? (i := 1022) (by decide +kernel)⟩
theorem lw_p26 : lw_okq (⟨"PrinterHouse$Streams", "showAll", "()V"⟩, 19) := ⟨⟨by decide +kernel, by decide +kernel⟩, List.mem_of_getElem? (i := 81) (by decide +kernel), List.mem_of_getElem? (i := 1055) (by decide +kernel), List.mem_of_getElem? (i := 1056) (by decide +kernel)⟩
theorem lw_p27 : lw_okq (⟨"PrinterHouse$Streams", "passEach", "(I)Z"⟩, 19) := ⟨⟨by decide +kernel, by decide +kernel⟩, List.mem_of_getElem? (i := 81) (by decide +kernel), List.mem_of_getElem? (i := 1060) (by decide +kernel), List.mem_of_getElem? (i := 1061) (by decide +kernel)⟩
theorem lw_p28 : lw_okq (⟨"PrinterHouse$Streams", "show", "(I)V"⟩, 19) := ⟨⟨by decide +kernel, by decide +kernel⟩, List.mem_of_getElem? (i := 81) (by decide +kernel), List.mem_of_getElem? (i := 1064) (by decide +kernel), List.mem_of_getElem? (i := 1065) (by decide +kernel)⟩
theorem lw_p29 : lw_okq (⟨"PrinterHouse$Streams", "advance", "(II)I"⟩, 19) := ⟨⟨by decide +kernel, by decide +kernel⟩, List.mem_of_getElem? (i := 81) (by decide +kernel), List.mem_of_getElem? (i := 1072) (by decide +kernel), List.mem_of_getElem? (i := 1073) (by decide +kernel)⟩
theorem lw_p30 : lw_okq (⟨"PrinterHouse$Streams", "markGlyph", "(I)V"⟩, 19) := ⟨⟨by decide +kernel, by decide +kernel⟩, List.mem_of_getElem? (i := 81) (by decide +kernel), List.mem_of_getElem? (i := 1081) (by decide +kernel), List.mem_of_getElem? (i := 1082) (by decide +kernel)⟩
theorem lw_p31 : lw_okq (⟨"PrinterHouse$Streams", "readField", "()Z"⟩, 19) := ⟨⟨by decide +kernel, by decide +kernel⟩, List.mem_of_getElem? (i := 81) (by decide +kernel), List.mem_of_getElem? (i := 1126) (by decide +kernel), List.mem_of_getElem? (i := 1127) (by decide +kernel)⟩
def lw_privs_2 : List (MethodName × Nat) := [(⟨"PrinterHouse$Sheaf", "putEntry", "(III)V"⟩, 10), (⟨"PrinterHouse$Streams", "endWithReturn", "()V"⟩, 19), (⟨"PrinterHouse$Streams", "carriageReturn", "()V"⟩, 19), (⟨"PrinterHouse$Streams", "followPitch", "()V"⟩, 19), (⟨"PrinterHouse$Fonts", "choose", "()I"⟩, 10), (⟨"PrinterHouse$Fonts", "alike", "(III)I"⟩, 10), (⟨"PrinterHouse$Fonts", "nearest", "(II)I"⟩, 10), (⟨"PrinterHouse$Streams", "beginSequence", "()V"⟩, 19), (⟨"PrinterHouse$Streams", "twoBytes", "(I)V"⟩, 19), (⟨"PrinterHouse$Streams", "reset", "()V"⟩, 19), (⟨"PrinterHouse$Streams", "showAll", "()V"⟩, 19), (⟨"PrinterHouse$Streams", "passEach", "(I)Z"⟩, 19), (⟨"PrinterHouse$Streams", "show", "(I)V"⟩, 19), (⟨"PrinterHouse$Streams", "advance", "(II)I"⟩, 19), (⟨"PrinterHouse$Streams", "markGlyph", "(I)V"⟩, 19), (⟨"PrinterHouse$Streams", "readField", "()Z"⟩, 19)]
theorem lw_r2 : ∀ q ∈ lw_privs_2, lw_okq q := List.forall_mem_cons.mpr ⟨lw_p16, List.forall_mem_cons.mpr ⟨lw_p17, List.forall_mem_cons.mpr ⟨lw_p18, List.forall_mem_cons.mpr ⟨lw_p19, List.forall_mem_cons.mpr ⟨lw_p20, List.forall_mem_cons.mpr ⟨lw_p21, List.forall_mem_cons.mpr ⟨lw_p22, List.forall_mem_cons.mpr ⟨lw_p23, List.forall_mem_cons.mpr ⟨lw_p24, List.forall_mem_cons.mpr ⟨lw_p25, List.forall_mem_cons.mpr ⟨lw_p26, List.forall_mem_cons.mpr ⟨lw_p27, List.forall_mem_cons.mpr ⟨lw_p28, List.forall_mem_cons.mpr ⟨lw_p29, List.forall_mem_cons.mpr ⟨lw_p30, List.forall_mem_cons.mpr ⟨lw_p31, fun _ h => absurd h List.not_mem_nil⟩⟩⟩⟩⟩⟩⟩⟩⟩⟩⟩⟩⟩⟩⟩⟩
theorem lw_p32 : lw_okq (⟨"PrinterHouse$Reading", "isDigit", "(I)Z"⟩, 13) := ⟨⟨by decide +kernel, by decide +kernel⟩, List.mem_of_getElem? (i := 432) (by decide +kernel), List.mem_of_getElem? (i := 1134) (by decide +kernel), List.mem_of_getElem? (i := 1135) (by decide +kernel)⟩
theorem lw_p33 : lw_okq (⟨"PrinterHouse$Streams", "obey", "()V"⟩, 19) := ⟨⟨by decide +kernel, by decide +kernel⟩, List.mem_of_getElem? (i := 81) (by decide +kernel), List.mem_of_getElem? (i := 1144) (by decide +kernel), List.mem_of_getElem? (i := 1145) (by decide +kernel)⟩
theorem lw_p34 : lw_okq (⟨"PrinterHouse$Streams", "pageField", "(I)V"⟩, 19) := ⟨⟨by decide +kernel, by decide +kernel⟩, List.mem_of_getElem? (i := 81) (by decide +kernel), List.mem_of_getElem? (i := 1148) (by decide +kernel), List.mem_of_getElem? (i := 1149) (by decide +kernel)⟩
theorem lw_p35 : lw_okq (⟨"PrinterHouse$Streams", "spacing", "(II)I"⟩, 19) := ⟨⟨by decide +kernel, by decide +kernel⟩, List.mem_of_getElem? (i := 81) (by decide +kernel), List.mem_of_getElem? (i := 1154) (by decide +kernel), List.mem_of_getElem? (i := 1155) (by decide +kernel)⟩
theorem lw_p36 : lw_okq (⟨"PrinterHouse$Streams", "placeField", "(I)V"⟩, 19) := ⟨⟨by decide +kernel, by decide +kernel⟩, List.mem_of_getElem? (i := 81) (by decide +kernel), List.mem_of_getElem? (i := 1176) (by decide +kernel), List.mem_of_getElem? (i := 1177) (by decide +kernel)⟩
theorem lw_p37 : lw_okq (⟨"PrinterHouse$Streams", "moveAcross", "(J)V"⟩, 19) := ⟨⟨by decide +kernel, by decide +kernel⟩, List.mem_of_getElem? (i := 81) (by decide +kernel), List.mem_of_getElem? (i := 1180) (by decide +kernel), List.mem_of_getElem? (i := 1181) (by decide +kernel)⟩
theorem lw_p38 : lw_okq (⟨"PrinterHouse$Streams", "moveDown", "(JI)V"⟩, 19) := ⟨⟨by decide +kernel, by decide +kernel⟩, List.mem_of_getElem? (i := 81) (by decide +kernel), List.mem_of_getElem? (i := 1184) (by decide +kernel), List.mem_of_getElem? (i := 1185) (by decide +kernel)⟩
theorem lw_p39 : lw_okq (⟨"PrinterHouse$Streams", "spaceField", "(I)V"⟩, 19) := ⟨⟨by decide +kernel, by decide +kernel⟩, List.mem_of_getElem? (i := 81) (by decide +kernel), List.mem_of_getElem? (i := 1196) (by decide +kernel), List.mem_of_getElem? (i := 1197) (by decide +kernel)⟩
theorem lw_p40 : lw_okq (⟨"PrinterHouse$Streams", "wrapField", "(I)V"⟩, 19) := ⟨⟨by decide +kernel, by decide +kernel⟩, List.mem_of_getElem? (i := 81) (by decide +kernel), List.mem_of_getElem? (i := 1200) (by decide +kernel), List.mem_of_getElem? (i := 1201) (by decide +kernel)⟩
theorem lw_p41 : lw_okq (⟨"PrinterHouse$Streams", "macroField", "(I)V"⟩, 19) := ⟨⟨by decide +kernel, by decide +kernel⟩, List.mem_of_getElem? (i := 81) (by decide +kernel), List.mem_of_getElem? (i := 1204) (by decide +kernel), List.mem_of_getElem? (i := 1205) (by decide +kernel)⟩
theorem lw_p42 : lw_okq (⟨"PrinterHouse$Streams", "macroTask", "(I)V"⟩, 19) := ⟨⟨by decide +kernel, by decide +kernel⟩, List.mem_of_getElem? (i := 81) (by decide +kernel), List.mem_of_getElem? (i := 1216) (by decide +kernel), List.mem_of_getElem? (i := 1217) (by decide +kernel)⟩
theorem lw_p43 : lw_okq (⟨"PrinterHouse$Streams", "tellMacro", "(I)V"⟩, 19) := ⟨⟨by decide +kernel, by decide +kernel⟩, List.mem_of_getElem? (i := 81) (by decide +kernel), List.mem_of_getElem? (i := 1220) (by decide +kernel), List.mem_of_getElem? (i := 1221) (by decide +kernel)⟩
theorem lw_p44 : lw_okq (⟨"PrinterHouse$Streams", "isMacroEnd", "(I)Z"⟩, 19) := ⟨⟨by decide +kernel, by decide +kernel⟩, List.mem_of_getElem? (i := 81) (by decide +kernel), List.mem_of_getElem? (i := 1224) (by decide +kernel), List.mem_of_getElem? (i := 1225) (by decide +kernel)⟩
theorem lw_p45 : lw_okq (⟨"PrinterHouse$Streams", "callMacro", "(I)V"⟩, 19) := ⟨⟨by decide +kernel, by decide +kernel⟩, List.mem_of_getElem? (i := 81) (by decide +kernel), List.mem_of_getElem? (i := 1233) (by decide +kernel), List.mem_of_getElem? (i := 1234) (by decide +kernel)⟩
theorem lw_p46 : lw_okq (⟨"PrinterHouse$Streams", "showData", "()V"⟩, 19) := ⟨⟨by decide +kernel, by decide +kernel⟩, List.mem_of_getElem? (i := 81) (by decide +kernel), List.mem_of_getElem? (i := 1242) (by decide +kernel), List.mem_of_getElem? (i := 1243) (by decide +kernel)⟩
theorem lw_p47 : lw_okq (⟨"PrinterHouse$Streams", "dotPlaceField", "()V"⟩, 19) := ⟨⟨by decide +kernel, by decide +kernel⟩, List.mem_of_getElem? (i := 81) (by decide +kernel), List.mem_of_getElem? (i := 1250) (by decide +kernel), List.mem_of_getElem? (i := 1251) (by decide +kernel)⟩
def lw_privs_3 : List (MethodName × Nat) := [(⟨"PrinterHouse$Reading", "isDigit", "(I)Z"⟩, 13), (⟨"PrinterHouse$Streams", "obey", "()V"⟩, 19), (⟨"PrinterHouse$Streams", "pageField", "(I)V"⟩, 19), (⟨"PrinterHouse$Streams", "spacing", "(II)I"⟩, 19), (⟨"PrinterHouse$Streams", "placeField", "(I)V"⟩, 19), (⟨"PrinterHouse$Streams", "moveAcross", "(J)V"⟩, 19), (⟨"PrinterHouse$Streams", "moveDown", "(JI)V"⟩, 19), (⟨"PrinterHouse$Streams", "spaceField", "(I)V"⟩, 19), (⟨"PrinterHouse$Streams", "wrapField", "(I)V"⟩, 19), (⟨"PrinterHouse$Streams", "macroField", "(I)V"⟩, 19), (⟨"PrinterHouse$Streams", "macroTask", "(I)V"⟩, 19), (⟨"PrinterHouse$Streams", "tellMacro", "(I)V"⟩, 19), (⟨"PrinterHouse$Streams", "isMacroEnd", "(I)Z"⟩, 19), (⟨"PrinterHouse$Streams", "callMacro", "(I)V"⟩, 19), (⟨"PrinterHouse$Streams", "showData", "()V"⟩, 19), (⟨"PrinterHouse$Streams", "dotPlaceField", "()V"⟩, 19)]
theorem lw_r3 : ∀ q ∈ lw_privs_3, lw_okq q := List.forall_mem_cons.mpr ⟨lw_p32, List.forall_mem_cons.mpr ⟨lw_p33, List.forall_mem_cons.mpr ⟨lw_p34, List.forall_mem_cons.mpr ⟨lw_p35, List.forall_mem_cons.mpr ⟨lw_p36, List.forall_mem_cons.mpr ⟨lw_p37, List.forall_mem_cons.mpr ⟨lw_p38, List.forall_mem_cons.mpr ⟨lw_p39, List.forall_mem_cons.mpr ⟨lw_p40, List.forall_mem_cons.mpr ⟨lw_p41, List.forall_mem_cons.mpr ⟨lw_p42, List.forall_mem_cons.mpr ⟨lw_p43, List.forall_mem_cons.mpr ⟨lw_p44, List.forall_mem_cons.mpr ⟨lw_p45, List.forall_mem_cons.mpr ⟨lw_p46, List.forall_mem_cons.mpr ⟨lw_p47, fun _ h => absurd h List.not_mem_nil⟩⟩⟩⟩⟩⟩⟩⟩⟩⟩⟩⟩⟩⟩⟩⟩
theorem lw_p48 : lw_okq (⟨"PrinterHouse$Streams", "controlField", "(I)V"⟩, 19) := ⟨⟨by decide +kernel, by decide +kernel⟩, List.mem_of_getElem? (i := 81) (by decide +kernel), List.mem_of_getElem? (i := 1254) (by decide +kernel), List.mem_of_getElem? (i := 1255) (by decide +kernel)⟩
theorem lw_p49 : lw_okq (⟨"PrinterHouse$Streams", "fontTask", "(I)V"⟩, 19) := ⟨⟨by decide +kernel, by decide +kernel⟩, List.mem_of_getElem? (i := 81) (by decide +kernel), List.mem_of_getElem? (i := 1258) (by decide +kernel), List.mem_of_getElem? (i := 1259) (by decide +kernel)⟩
theorem lw_p50 : lw_okq (⟨"PrinterHouse$Streams", "tellTile", "(I)V"⟩, 19) := ⟨⟨by decide +kernel, by decide +kernel⟩, List.mem_of_getElem? (i := 81) (by decide +kernel), List.mem_of_getElem? (i := 1264) (by decide +kernel), List.mem_of_getElem? (i := 1265) (by decide +kernel)⟩
theorem lw_p51 : lw_okq (⟨"PrinterHouse$Streams", "tileTask", "(I)V"⟩, 19) := ⟨⟨by decide +kernel, by decide +kernel⟩, List.mem_of_getElem? (i := 81) (by decide +kernel), List.mem_of_getElem? (i := 1270) (by decide +kernel), List.mem_of_getElem? (i := 1271) (by decide +kernel)⟩
theorem lw_p52 : lw_okq (⟨"PrinterHouse$Streams", "boxSide", "(I)I"⟩, 19) := ⟨⟨by decide +kernel, by decide +kernel⟩, List.mem_of_getElem? (i := 81) (by decide +kernel), List.mem_of_getElem? (i := 1274) (by decide +kernel), List.mem_of_getElem? (i := 1275) (by decide +kernel)⟩
theorem lw_p53 : lw_okq (⟨"PrinterHouse$Streams", "box", "(I)V"⟩, 19) := ⟨⟨by decide +kernel, by decide +kernel⟩, List.mem_of_getElem? (i := 81) (by decide +kernel), List.mem_of_getElem? (i := 1279) (by decide +kernel), List.mem_of_getElem? (i := 1280) (by decide +kernel)⟩
theorem lw_p54 : lw_okq (⟨"PrinterHouse$Streams", "setTile", "(LPrinterHouse$Tile;I)Z"⟩, 19) := ⟨⟨by decide +kernel, by decide +kernel⟩, List.mem_of_getElem? (i := 81) (by decide +kernel), List.mem_of_getElem? (i := 1283) (by decide +kernel), List.mem_of_getElem? (i := 1284) (by decide +kernel)⟩
theorem lw_p55 : lw_okq (⟨"PrinterHouse$Streams", "markBox", "(IIIILPrinterHouse$Tile;)V"⟩, 19) := ⟨⟨by decide +kernel, by decide +kernel⟩, List.mem_of_getElem? (i := 81) (by decide +kernel), List.mem_of_getElem? (i := 1310) (by decide +kernel), List.mem_of_getElem? (i := 1311) (by decide +kernel)⟩
theorem lw_p56 : lw_okq (⟨"PrinterHouse$Streams", "inkField", "(I)V"⟩, 19) := ⟨⟨by decide +kernel, by decide +kernel⟩, List.mem_of_getElem? (i := 81) (by decide +kernel), List.mem_of_getElem? (i := 1314) (by decide +kernel), List.mem_of_getElem? (i := 1315) (by decide +kernel)⟩
theorem lw_p57 : lw_okq (⟨"PrinterHouse$Streams", "scaleField", "(I)V"⟩, 19) := ⟨⟨by decide +kernel, by decide +kernel⟩, List.mem_of_getElem? (i := 81) (by decide +kernel), List.mem_of_getElem? (i := 1318) (by decide +kernel), List.mem_of_getElem? (i := 1319) (by decide +kernel)⟩
theorem lw_p58 : lw_okq (⟨"PrinterHouse$Streams", "rasterField", "(I)V"⟩, 19) := ⟨⟨by decide +kernel, by decide +kernel⟩, List.mem_of_getElem? (i := 81) (by decide +kernel), List.mem_of_getElem? (i := 1322) (by decide +kernel), List.mem_of_getElem? (i := 1323) (by decide +kernel)⟩
theorem lw_p59 : lw_okq (⟨"PrinterHouse$Streams", "beginRaster", "(I)V"⟩, 19) := ⟨⟨by decide +kernel, by decide +kernel⟩, List.mem_of_getElem? (i := 81) (by decide +kernel), List.mem_of_getElem? (i := 1326) (by decide +kernel), List.mem_of_getElem? (i := 1327) (by decide +kernel)⟩
theorem lw_p60 : lw_okq (⟨"PrinterHouse$Streams", "rowField", "(I)V"⟩, 19) := ⟨⟨by decide +kernel, by decide +kernel⟩, List.mem_of_getElem? (i := 81) (by decide +kernel), List.mem_of_getElem? (i := 1335) (by decide +kernel), List.mem_of_getElem? (i := 1336) (by decide +kernel)⟩
theorem lw_p61 : lw_okq (⟨"PrinterHouse$Streams", "growRows", "(I)V"⟩, 19) := ⟨⟨by decide +kernel, by decide +kernel⟩, List.mem_of_getElem? (i := 81) (by decide +kernel), List.mem_of_getElem? (i := 1340) (by decide +kernel), List.mem_of_getElem? (i := 1341) (by decide +kernel)⟩
theorem lw_p62 : lw_okq (⟨"PrinterHouse$Streams", "rasterRow", "()V"⟩, 19) := ⟨⟨by decide +kernel, by decide +kernel⟩, List.mem_of_getElem? (i := 81) (by decide +kernel), List.mem_of_getElem? (i := 1344) (by decide +kernel), List.mem_of_getElem? (i := 1345) (by decide +kernel)⟩
theorem lw_p63 : lw_okq (⟨"PrinterHouse$Raster", "unpackPairs", "(LPrinterHouse$Reading;)V"⟩, 8) := ⟨⟨by decide +kernel, by decide +kernel⟩, List.mem_of_getElem? (i := 298) (by decide +kernel), List.mem_of_getElem? (i := 1356) (by decide +kernel), List.mem_of_getElem? (i := 1357) (by decide +kernel)⟩
def lw_privs_4 : List (MethodName × Nat) := [(⟨"PrinterHouse$Streams", "controlField", "(I)V"⟩, 19), (⟨"PrinterHouse$Streams", "fontTask", "(I)V"⟩, 19), (⟨"PrinterHouse$Streams", "tellTile", "(I)V"⟩, 19), (⟨"PrinterHouse$Streams", "tileTask", "(I)V"⟩, 19), (⟨"PrinterHouse$Streams", "boxSide", "(I)I"⟩, 19), (⟨"PrinterHouse$Streams", "box", "(I)V"⟩, 19), (⟨"PrinterHouse$Streams", "setTile", "(LPrinterHouse$Tile;I)Z"⟩, 19), (⟨"PrinterHouse$Streams", "markBox", "(IIIILPrinterHouse$Tile;)V"⟩, 19), (⟨"PrinterHouse$Streams", "inkField", "(I)V"⟩, 19), (⟨"PrinterHouse$Streams", "scaleField", "(I)V"⟩, 19), (⟨"PrinterHouse$Streams", "rasterField", "(I)V"⟩, 19), (⟨"PrinterHouse$Streams", "beginRaster", "(I)V"⟩, 19), (⟨"PrinterHouse$Streams", "rowField", "(I)V"⟩, 19), (⟨"PrinterHouse$Streams", "growRows", "(I)V"⟩, 19), (⟨"PrinterHouse$Streams", "rasterRow", "()V"⟩, 19), (⟨"PrinterHouse$Raster", "unpackPairs", "(LPrinterHouse$Reading;)V"⟩, 8)]
theorem lw_r4 : ∀ q ∈ lw_privs_4, lw_okq q := List.forall_mem_cons.mpr ⟨lw_p48, List.forall_mem_cons.mpr ⟨lw_p49, List.forall_mem_cons.mpr ⟨lw_p50, List.forall_mem_cons.mpr ⟨lw_p51, List.forall_mem_cons.mpr ⟨lw_p52, List.forall_mem_cons.mpr ⟨lw_p53, List.forall_mem_cons.mpr ⟨lw_p54, List.forall_mem_cons.mpr ⟨lw_p55, List.forall_mem_cons.mpr ⟨lw_p56, List.forall_mem_cons.mpr ⟨lw_p57, List.forall_mem_cons.mpr ⟨lw_p58, List.forall_mem_cons.mpr ⟨lw_p59, List.forall_mem_cons.mpr ⟨lw_p60, List.forall_mem_cons.mpr ⟨lw_p61, List.forall_mem_cons.mpr ⟨lw_p62, List.forall_mem_cons.mpr ⟨lw_p63, fun _ h => absurd h List.not_mem_nil⟩⟩⟩⟩⟩⟩⟩⟩⟩⟩⟩⟩⟩⟩⟩⟩
theorem lw_p64 : lw_okq (⟨"PrinterHouse$Raster", "put", "(III)V"⟩, 8) := ⟨⟨by decide +kernel, by decide +kernel⟩, List.mem_of_getElem? (i := 298) (by decide +kernel), List.mem_of_getElem? (i := 1361) (by decide +kernel), List.mem_of_getElem? (i := 1362) (by decide +kernel)⟩
theorem lw_p65 : lw_okq (⟨"PrinterHouse$Raster", "unpackMixed", "(LPrinterHouse$Reading;)V"⟩, 8) := ⟨⟨by decide +kernel, by decide +kernel⟩, List.mem_of_getElem? (i := 298) (by decide +kernel), List.mem_of_getElem? (i := 1365) (by decide +kernel), List.mem_of_getElem? (i := 1366) (by decide +kernel)⟩
theorem lw_p66 : lw_okq (⟨"PrinterHouse$Raster", "unpackChanges", "(LPrinterHouse$Reading;)V"⟩, 8) := ⟨⟨by decide +kernel, by decide +kernel⟩, List.mem_of_getElem? (i := 298) (by decide +kernel), List.mem_of_getElem? (i := 1369) (by decide +kernel), List.mem_of_getElem? (i := 1370) (by decide +kernel)⟩
theorem lw_p67 : lw_okq (⟨"PrinterHouse$Streams", "obeyFont", "()V"⟩, 19) := ⟨⟨by decide +kernel, by decide +kernel⟩, List.mem_of_getElem? (i := 81) (by decide +kernel), List.mem_of_getElem? (i := 1388) (by decide +kernel), List.mem_of_getElem? (i := 1389) (by decide +kernel)⟩
theorem lw_p68 : lw_okq (⟨"PrinterHouse$Streams", "fontField", "([II)Z"⟩, 19) := ⟨⟨by decide +kernel, by decide +kernel⟩, List.mem_of_getElem? (i := 81) (by decide +kernel), List.mem_of_getElem? (i := 1392) (by decide +kernel), List.mem_of_getElem? (i := 1393) (by decide +kernel)⟩
theorem lw_p69 : lw_okq (⟨"PrinterHouse$Streams", "styleField", "([II)Z"⟩, 19) := ⟨⟨by decide +kernel, by decide +kernel⟩, List.mem_of_getElem? (i := 81) (by decide +kernel), List.mem_of_getElem? (i := 1403) (by decide +kernel), List.mem_of_getElem? (i := 1404) (by decide +kernel)⟩
theorem lw_p70 : lw_okq (⟨"PrinterHouse$Streams", "wishPitch", "([I)Z"⟩, 19) := ⟨⟨by decide +kernel, by decide +kernel⟩, List.mem_of_getElem? (i := 81) (by decide +kernel), List.mem_of_getElem? (i := 1407) (by decide +kernel), List.mem_of_getElem? (i := 1408) (by decide +kernel)⟩
theorem lw_p71 : lw_okq (⟨"PrinterHouse$Fonts", "slotFor", "(II)I"⟩, 10) := ⟨⟨by decide +kernel, by decide +kernel⟩, List.mem_of_getElem? (i := 165) (by decide +kernel), List.mem_of_getElem? (i := 1424) (by decide +kernel), List.mem_of_getElem? (i := 1425) (by decide +kernel)⟩
theorem lw_p72 : lw_okq (⟨"PrinterHouse$Fonts", "setNumber", "(III)V"⟩, 10) := ⟨⟨by decide +kernel, by decide +kernel⟩, List.mem_of_getElem? (i := 165) (by decide +kernel), List.mem_of_getElem? (i := 1433) (by decide +kernel), List.mem_of_getElem? (i := 1434) (by decide +kernel)⟩
theorem lw_p73 : lw_okq (⟨"PrinterHouse$Streams", "keepStates", "()V"⟩, 19) := ⟨⟨by decide +kernel, by decide +kernel⟩, List.mem_of_getElem? (i := 81) (by decide +kernel), List.mem_of_getElem? (i := 1437) (by decide +kernel), List.mem_of_getElem? (i := 1438) (by decide +kernel)⟩
theorem lw_p74 : lw_okq (⟨"PrinterHouse$Pictures", "readHeader", "()V"⟩, 21) := ⟨⟨by decide +kernel, by decide +kernel⟩, List.mem_of_getElem? (i := 545) (by decide +kernel), List.mem_of_getElem? (i := 1446) (by decide +kernel), List.mem_of_getElem? (i := 1447) (by decide +kernel)⟩
theorem lw_p75 : lw_okq (⟨"PrinterHouse$Pictures", "byteAt", "(J)I"⟩, 21) := ⟨⟨by decide +kernel, by decide +kernel⟩, List.mem_of_getElem? (i := 545) (by decide +kernel), List.mem_of_getElem? (i := 1450) (by decide +kernel), List.mem_of_getElem? (i := 1451) (by decide +kernel)⟩
theorem lw_p76 : lw_okq (⟨"PrinterHouse$Pictures", "fail", "(IJ)V"⟩, 21) := ⟨⟨by decide +kernel, by decide +kernel⟩, List.mem_of_getElem? (i := 545) (by decide +kernel), List.mem_of_getElem? (i := 1454) (by decide +kernel), List.mem_of_getElem? (i := 1455) (by decide +kernel)⟩
theorem lw_p77 : lw_okq (⟨"PrinterHouse$Pictures", "number", "(JI)J"⟩, 21) := ⟨⟨by decide +kernel, by decide +kernel⟩, List.mem_of_getElem? (i := 545) (by decide +kernel), List.mem_of_getElem? (i := 1460) (by decide +kernel), List.mem_of_getElem? (i := 1461) (by decide +kernel)⟩
theorem lw_p78 : lw_okq (⟨"PrinterHouse$Pictures", "readDirectory", "(J)J"⟩, 21) := ⟨⟨by decide +kernel, by decide +kernel⟩, List.mem_of_getElem? (i := 545) (by decide +kernel), List.mem_of_getElem? (i := 1464) (by decide +kernel), List.mem_of_getElem? (i := 1465) (by decide +kernel)⟩
theorem lw_p79 : lw_okq (⟨"PrinterHouse$Pictures", "isDirectory", "(JI)Z"⟩, 21) := ⟨⟨by decide +kernel, by decide +kernel⟩, List.mem_of_getElem? (i := 545) (by decide +kernel), List.mem_of_getElem? (i := 1470) (by decide +kernel), List.mem_of_getElem? (i := 1471) (by decide +kernel)⟩
def lw_privs_5 : List (MethodName × Nat) := [(⟨"PrinterHouse$Raster", "put", "(III)V"⟩, 8), (⟨"PrinterHouse$Raster", "unpackMixed", "(LPrinterHouse$Reading;)V"⟩, 8), (⟨"PrinterHouse$Raster", "unpackChanges", "(LPrinterHouse$Reading;)V"⟩, 8), (⟨"PrinterHouse$Streams", "obeyFont", "()V"⟩, 19), (⟨"PrinterHouse$Streams", "fontField", "([II)Z"⟩, 19), (⟨"PrinterHouse$Streams", "styleField", "([II)Z"⟩, 19), (⟨"PrinterHouse$Streams", "wishPitch", "([I)Z"⟩, 19), (⟨"PrinterHouse$Fonts", "slotFor", "(II)I"⟩, 10), (⟨"PrinterHouse$Fonts", "setNumber", "(III)V"⟩, 10), (⟨"PrinterHouse$Streams", "keepStates", "()V"⟩, 19), (⟨"PrinterHouse$Pictures", "readHeader", "()V"⟩, 21), (⟨"PrinterHouse$Pictures", "byteAt", "(J)I"⟩, 21), (⟨"PrinterHouse$Pictures", "fail", "(IJ)V"⟩, 21), (⟨"PrinterHouse$Pictures", "number", "(JI)J"⟩, 21), (⟨"PrinterHouse$Pictures", "readDirectory", "(J)J"⟩, 21), (⟨"PrinterHouse$Pictures", "isDirectory", "(JI)Z"⟩, 21)]
theorem lw_r5 : ∀ q ∈ lw_privs_5, lw_okq q := List.forall_mem_cons.mpr ⟨lw_p64, List.forall_mem_cons.mpr ⟨lw_p65, List.forall_mem_cons.mpr ⟨lw_p66, List.forall_mem_cons.mpr ⟨lw_p67, List.forall_mem_cons.mpr ⟨lw_p68, List.forall_mem_cons.mpr ⟨lw_p69, List.forall_mem_cons.mpr ⟨lw_p70, List.forall_mem_cons.mpr ⟨lw_p71, List.forall_mem_cons.mpr ⟨lw_p72, List.forall_mem_cons.mpr ⟨lw_p73, List.forall_mem_cons.mpr ⟨lw_p74, List.forall_mem_cons.mpr ⟨lw_p75, List.forall_mem_cons.mpr ⟨lw_p76, List.forall_mem_cons.mpr ⟨lw_p77, List.forall_mem_cons.mpr ⟨lw_p78, List.forall_mem_cons.mpr ⟨lw_p79, fun _ h => absurd h List.not_mem_nil⟩⟩⟩⟩⟩⟩⟩⟩⟩⟩⟩⟩⟩⟩⟩⟩
theorem lw_p80 : lw_okq (⟨"PrinterHouse$Pictures", "startEntries", "()V"⟩, 21) := ⟨⟨by decide +kernel, by decide +kernel⟩, List.mem_of_getElem? (i := 545) (by decide +kernel), List.mem_of_getElem? (i := 1474) (by decide +kernel), List.mem_of_getElem? (i := 1475) (by decide +kernel)⟩
theorem lw_p81 : lw_okq (⟨"PrinterHouse$Pictures", "readEntry", "(J)V"⟩, 21) := ⟨⟨by decide +kernel, by decide +kernel⟩, List.mem_of_getElem? (i := 545) (by decide +kernel), List.mem_of_getElem? (i := 1479) (by decide +kernel), List.mem_of_getElem? (i := 1480) (by decide +kernel)⟩
theorem lw_p82 : lw_okq (⟨"PrinterHouse$Pictures", "tell", "(IJ)Z"⟩, 21) := ⟨⟨by decide +kernel, by decide +kernel⟩, List.mem_of_getElem? (i := 545) (by decide +kernel), List.mem_of_getElem? (i := 1487) (by decide +kernel), List.mem_of_getElem? (i := 1488) (by decide +kernel)⟩
theorem lw_p83 : lw_okq (⟨"PrinterHouse$Pictures", "checkEntries", "(J)V"⟩, 21) := ⟨⟨by decide +kernel, by decide +kernel⟩, List.mem_of_getElem? (i := 545) (by decide +kernel), List.mem_of_getElem? (i := 1493) (by decide +kernel), List.mem_of_getElem? (i := 1494) (by decide +kernel)⟩
theorem lw_p84 : lw_okq (⟨"PrinterHouse$Pictures", "isList", "(J)Z"⟩, 21) := ⟨⟨by decide +kernel, by decide +kernel⟩, List.mem_of_getElem? (i := 545) (by decide +kernel), List.mem_of_getElem? (i := 1497) (by decide +kernel), List.mem_of_getElem? (i := 1498) (by decide +kernel)⟩
theorem lw_p85 : lw_okq (⟨"PrinterHouse$Pictures", "strips", "()J"⟩, 21) := ⟨⟨by decide +kernel, by decide +kernel⟩, List.mem_of_getElem? (i := 545) (by decide +kernel), List.mem_of_getElem? (i := 1502) (by decide +kernel), List.mem_of_getElem? (i := 1503) (by decide +kernel)⟩
theorem lw_p86 : lw_okq (⟨"PrinterHouse$Pictures", "readStrips", "()V"⟩, 21) := ⟨⟨by decide +kernel, by decide +kernel⟩, List.mem_of_getElem? (i := 545) (by decide +kernel), List.mem_of_getElem? (i := 1508) (by decide +kernel), List.mem_of_getElem? (i := 1509) (by decide +kernel)⟩
theorem lw_p87 : lw_okq (⟨"PrinterHouse$Pictures", "listed", "(JI)J"⟩, 21) := ⟨⟨by decide +kernel, by decide +kernel⟩, List.mem_of_getElem? (i := 545) (by decide +kernel), List.mem_of_getElem? (i := 1514) (by decide +kernel), List.mem_of_getElem? (i := 1515) (by decide +kernel)⟩
theorem lw_p88 : lw_okq (⟨"PrinterHouse$Pictures", "openStrip", "(II)V"⟩, 21) := ⟨⟨by decide +kernel, by decide +kernel⟩, List.mem_of_getElem? (i := 545) (by decide +kernel), List.mem_of_getElem? (i := 1518) (by decide +kernel), List.mem_of_getElem? (i := 1519) (by decide +kernel)⟩
theorem lw_p89 : lw_okq (⟨"PrinterHouse$Pictures", "readRow", "([III)Z"⟩, 21) := ⟨⟨by decide +kernel, by decide +kernel⟩, List.mem_of_getElem? (i := 545) (by decide +kernel), List.mem_of_getElem? (i := 1523) (by decide +kernel), List.mem_of_getElem? (i := 1524) (by decide +kernel)⟩
theorem lw_p90 : lw_okq (⟨"PrinterHouse$Pictures", "readMode", "()I"⟩, 21) := ⟨⟨by decide +kernel, by decide +kernel⟩, List.mem_of_getElem? (i := 545) (by decide +kernel), List.mem_of_getElem? (i := 1530) (by decide +kernel), List.mem_of_getElem? (i := 1531) (by decide +kernel)⟩
theorem lw_p91 : lw_okq (⟨"PrinterHouse$Pictures", "peek", "(I)I"⟩, 21) := ⟨⟨by decide +kernel, by decide +kernel⟩, List.mem_of_getElem? (i := 545) (by decide +kernel), List.mem_of_getElem? (i := 1534) (by decide +kernel), List.mem_of_getElem? (i := 1535) (by decide +kernel)⟩
theorem lw_p92 : lw_okq (⟨"PrinterHouse$Pictures", "skipBits", "(I)Z"⟩, 21) := ⟨⟨by decide +kernel, by decide +kernel⟩, List.mem_of_getElem? (i := 545) (by decide +kernel), List.mem_of_getElem? (i := 1538) (by decide +kernel), List.mem_of_getElem? (i := 1539) (by decide +kernel)⟩
theorem lw_p93 : lw_okq (⟨"PrinterHouse$Pictures", "readRun", "(I)I"⟩, 21) := ⟨⟨by decide +kernel, by decide +kernel⟩, List.mem_of_getElem? (i := 545) (by decide +kernel), List.mem_of_getElem? (i := 1545) (by decide +kernel), List.mem_of_getElem? (i := 1546) (by decide +kernel)⟩
theorem lw_p94 : lw_okq (⟨"PrinterHouse$Pictures", "invert", "([I)V"⟩, 21) := ⟨⟨by decide +kernel, by decide +kernel⟩, List.mem_of_getElem? (i := 545) (by decide +kernel), List.mem_of_getElem? (i := 1550) (by decide +kernel), List.mem_of_getElem? (i := 1551) (by decide +kernel)⟩
theorem lw_p95 : lw_okq (⟨"PrinterHouse$Streams", "bytesOfMacros", "()I"⟩, 19) := ⟨⟨by decide +kernel, by decide +kernel⟩, List.mem_of_getElem? (i := 81) (by decide +kernel), List.mem_of_getElem? (i := 1639) (by decide +kernel), List.mem_of_getElem? (i := 1640) (by decide +kernel)⟩
def lw_privs_6 : List (MethodName × Nat) := [(⟨"PrinterHouse$Pictures", "startEntries", "()V"⟩, 21), (⟨"PrinterHouse$Pictures", "readEntry", "(J)V"⟩, 21), (⟨"PrinterHouse$Pictures", "tell", "(IJ)Z"⟩, 21), (⟨"PrinterHouse$Pictures", "checkEntries", "(J)V"⟩, 21), (⟨"PrinterHouse$Pictures", "isList", "(J)Z"⟩, 21), (⟨"PrinterHouse$Pictures", "strips", "()J"⟩, 21), (⟨"PrinterHouse$Pictures", "readStrips", "()V"⟩, 21), (⟨"PrinterHouse$Pictures", "listed", "(JI)J"⟩, 21), (⟨"PrinterHouse$Pictures", "openStrip", "(II)V"⟩, 21), (⟨"PrinterHouse$Pictures", "readRow", "([III)Z"⟩, 21), (⟨"PrinterHouse$Pictures", "readMode", "()I"⟩, 21), (⟨"PrinterHouse$Pictures", "peek", "(I)I"⟩, 21), (⟨"PrinterHouse$Pictures", "skipBits", "(I)Z"⟩, 21), (⟨"PrinterHouse$Pictures", "readRun", "(I)I"⟩, 21), (⟨"PrinterHouse$Pictures", "invert", "([I)V"⟩, 21), (⟨"PrinterHouse$Streams", "bytesOfMacros", "()I"⟩, 19)]
theorem lw_r6 : ∀ q ∈ lw_privs_6, lw_okq q := List.forall_mem_cons.mpr ⟨lw_p80, List.forall_mem_cons.mpr ⟨lw_p81, List.forall_mem_cons.mpr ⟨lw_p82, List.forall_mem_cons.mpr ⟨lw_p83, List.forall_mem_cons.mpr ⟨lw_p84, List.forall_mem_cons.mpr ⟨lw_p85, List.forall_mem_cons.mpr ⟨lw_p86, List.forall_mem_cons.mpr ⟨lw_p87, List.forall_mem_cons.mpr ⟨lw_p88, List.forall_mem_cons.mpr ⟨lw_p89, List.forall_mem_cons.mpr ⟨lw_p90, List.forall_mem_cons.mpr ⟨lw_p91, List.forall_mem_cons.mpr ⟨lw_p92, List.forall_mem_cons.mpr ⟨lw_p93, List.forall_mem_cons.mpr ⟨lw_p94, List.forall_mem_cons.mpr ⟨lw_p95, fun _ h => absurd h List.not_mem_nil⟩⟩⟩⟩⟩⟩⟩⟩⟩⟩⟩⟩⟩⟩⟩⟩
theorem lw_p96 : lw_okq (⟨"PrinterHouseModel", "readCodes", "()V"⟩, 80) := ⟨⟨by decide +kernel, by decide +kernel⟩, List.mem_of_getElem? (i := 1651) (by decide +kernel), List.mem_of_getElem? (i := 1660) (by decide +kernel), List.mem_of_getElem? (i := 1661) (by decide +kernel)⟩
theorem lw_p97 : lw_okq (⟨"PrinterHouseModel", "readRow", "(Ljava/lang/String;I)V"⟩, 80) := ⟨⟨by decide +kernel, by decide +kernel⟩, List.mem_of_getElem? (i := 1651) (by decide +kernel), List.mem_of_getElem? (i := 1665) (by decide +kernel), List.mem_of_getElem? (i := 1666) (by decide +kernel)⟩
theorem lw_p98 : lw_okq (⟨"PrinterHouseModel", "lay", "(I)V"⟩, 80) := ⟨⟨by decide +kernel, by decide +kernel⟩, List.mem_of_getElem? (i := 1651) (by decide +kernel), List.mem_of_getElem? (i := 1963) (by decide +kernel), List.mem_of_getElem? (i := 1964) (by decide +kernel)⟩
theorem lw_p99 : lw_okq (⟨"PrinterHouseModel", "white", "()V"⟩, 80) := ⟨⟨by decide +kernel, by decide +kernel⟩, List.mem_of_getElem? (i := 1651) (by decide +kernel), List.mem_of_getElem? (i := 1983) (by decide +kernel), List.mem_of_getElem? (i := 1984) (by decide +kernel)⟩
theorem lw_p100 : lw_okq (⟨"PrinterHouseModel", "stream", "(I)V"⟩, 80) := ⟨⟨by decide +kernel, by decide +kernel⟩, List.mem_of_getElem? (i := 1651) (by decide +kernel), List.mem_of_getElem? (i := 1987) (by decide +kernel), List.mem_of_getElem? (i := 1988) (by decide +kernel)⟩
theorem lw_p101 : lw_okq (⟨"PrinterHouseModel", "reset", "(II)V"⟩, 80) := ⟨⟨by decide +kernel, by decide +kernel⟩, List.mem_of_getElem? (i := 1651) (by decide +kernel), List.mem_of_getElem? (i := 1991) (by decide +kernel), List.mem_of_getElem? (i := 1992) (by decide +kernel)⟩
theorem lw_p102 : lw_okq (⟨"PrinterHouseModel", "pagesOwn", "()V"⟩, 80) := ⟨⟨by decide +kernel, by decide +kernel⟩, List.mem_of_getElem? (i := 1651) (by decide +kernel), List.mem_of_getElem? (i := 1995) (by decide +kernel), List.mem_of_getElem? (i := 1996) (by decide +kernel)⟩
theorem lw_p103 : lw_okq (⟨"PrinterHouseModel", "wide", "()I"⟩, 80) := ⟨⟨by decide +kernel, by decide +kernel⟩, List.mem_of_getElem? (i := 1651) (by decide +kernel), List.mem_of_getElem? (i := 1999) (by decide +kernel), List.mem_of_getElem? (i := 2000) (by decide +kernel)⟩
theorem lw_p104 : lw_okq (⟨"PrinterHouseModel", "high", "()I"⟩, 80) := ⟨⟨by decide +kernel, by decide +kernel⟩, List.mem_of_getElem? (i := 1651) (by decide +kernel), List.mem_of_getElem? (i := 2009) (by decide +kernel), List.mem_of_getElem? (i := 2010) (by decide +kernel)⟩
theorem lw_p105 : lw_okq (⟨"PrinterHouseModel", "setX", "(J)V"⟩, 80) := ⟨⟨by decide +kernel, by decide +kernel⟩, List.mem_of_getElem? (i := 1651) (by decide +kernel), List.mem_of_getElem? (i := 2013) (by decide +kernel), List.mem_of_getElem? (i := 2014) (by decide +kernel)⟩
theorem lw_p106 : lw_okq (⟨"PrinterHouseModel", "homeY", "()V"⟩, 80) := ⟨⟨by decide +kernel, by decide +kernel⟩, List.mem_of_getElem? (i := 1651) (by decide +kernel), List.mem_of_getElem? (i := 2018) (by decide +kernel), List.mem_of_getElem? (i := 2019) (by decide +kernel)⟩
theorem lw_p107 : lw_okq (⟨"PrinterHouseModel", "setY", "(J)V"⟩, 80) := ⟨⟨by decide +kernel, by decide +kernel⟩, List.mem_of_getElem? (i := 1651) (by decide +kernel), List.mem_of_getElem? (i := 2022) (by decide +kernel), List.mem_of_getElem? (i := 2023) (by decide +kernel)⟩
theorem lw_p108 : lw_okq (⟨"PrinterHouseModel", "run", "()V"⟩, 80) := ⟨⟨by decide +kernel, by decide +kernel⟩, List.mem_of_getElem? (i := 1651) (by decide +kernel), List.mem_of_getElem? (i := 2026) (by decide +kernel), List.mem_of_getElem? (i := 2027) (by decide +kernel)⟩
theorem lw_p109 : lw_okq (⟨"PrinterHouseModel", "hasMore", "()Z"⟩, 80) := ⟨⟨by decide +kernel, by decide +kernel⟩, List.mem_of_getElem? (i := 1651) (by decide +kernel), List.mem_of_getElem? (i := 2030) (by decide +kernel), List.mem_of_getElem? (i := 2031) (by decide +kernel)⟩
theorem lw_p110 : lw_okq (⟨"PrinterHouseModel", "next", "()I"⟩, 80) := ⟨⟨by decide +kernel, by decide +kernel⟩, List.mem_of_getElem? (i := 1651) (by decide +kernel), List.mem_of_getElem? (i := 2034) (by decide +kernel), List.mem_of_getElem? (i := 2035) (by decide +kernel)⟩
theorem lw_p111 : lw_okq (⟨"PrinterHouseModel", "count", "(I)V"⟩, 80) := ⟨⟨by decide +kernel, by decide +kernel⟩, List.mem_of_getElem? (i := 1651) (by decide +kernel), List.mem_of_getElem? (i := 2038) (by decide +kernel), List.mem_of_getElem? (i := 2039) (by decide +kernel)⟩
def lw_privs_7 : List (MethodName × Nat) := [(⟨"PrinterHouseModel", "readCodes", "()V"⟩, 80), (⟨"PrinterHouseModel", "readRow", "(Ljava/lang/String;I)V"⟩, 80), (⟨"PrinterHouseModel", "lay", "(I)V"⟩, 80), (⟨"PrinterHouseModel", "white", "()V"⟩, 80), (⟨"PrinterHouseModel", "stream", "(I)V"⟩, 80), (⟨"PrinterHouseModel", "reset", "(II)V"⟩, 80), (⟨"PrinterHouseModel", "pagesOwn", "()V"⟩, 80), (⟨"PrinterHouseModel", "wide", "()I"⟩, 80), (⟨"PrinterHouseModel", "high", "()I"⟩, 80), (⟨"PrinterHouseModel", "setX", "(J)V"⟩, 80), (⟨"PrinterHouseModel", "homeY", "()V"⟩, 80), (⟨"PrinterHouseModel", "setY", "(J)V"⟩, 80), (⟨"PrinterHouseModel", "run", "()V"⟩, 80), (⟨"PrinterHouseModel", "hasMore", "()Z"⟩, 80), (⟨"PrinterHouseModel", "next", "()I"⟩, 80), (⟨"PrinterHouseModel", "count", "(I)V"⟩, 80)]
theorem lw_r7 : ∀ q ∈ lw_privs_7, lw_okq q := List.forall_mem_cons.mpr ⟨lw_p96, List.forall_mem_cons.mpr ⟨lw_p97, List.forall_mem_cons.mpr ⟨lw_p98, List.forall_mem_cons.mpr ⟨lw_p99, List.forall_mem_cons.mpr ⟨lw_p100, List.forall_mem_cons.mpr ⟨lw_p101, List.forall_mem_cons.mpr ⟨lw_p102, List.forall_mem_cons.mpr ⟨lw_p103, List.forall_mem_cons.mpr ⟨lw_p104, List.forall_mem_cons.mpr ⟨lw_p105, List.forall_mem_cons.mpr ⟨lw_p106, List.forall_mem_cons.mpr ⟨lw_p107, List.forall_mem_cons.mpr ⟨lw_p108, List.forall_mem_cons.mpr ⟨lw_p109, List.forall_mem_cons.mpr ⟨lw_p110, List.forall_mem_cons.mpr ⟨lw_p111, fun _ h => absurd h List.not_mem_nil⟩⟩⟩⟩⟩⟩⟩⟩⟩⟩⟩⟩⟩⟩⟩⟩
theorem lw_p112 : lw_okq (⟨"PrinterHouseModel", "escape", "()V"⟩, 80) := ⟨⟨by decide +kernel, by decide +kernel⟩, List.mem_of_getElem? (i := 1651) (by decide +kernel), List.mem_of_getElem? (i := 2043) (by decide +kernel), List.mem_of_getElem? (i := 2044) (by decide +kernel)⟩
theorem lw_p113 : lw_okq (⟨"PrinterHouseModel", "peek", "()I"⟩, 80) := ⟨⟨by decide +kernel, by decide +kernel⟩, List.mem_of_getElem? (i := 1651) (by decide +kernel), List.mem_of_getElem? (i := 2047) (by decide +kernel), List.mem_of_getElem? (i := 2048) (by decide +kernel)⟩
theorem lw_p114 : lw_okq (⟨"PrinterHouseModel", "pair", "(I)V"⟩, 80) := ⟨⟨by decide +kernel, by decide +kernel⟩, List.mem_of_getElem? (i := 1651) (by decide +kernel), List.mem_of_getElem? (i := 2051) (by decide +kernel), List.mem_of_getElem? (i := 2052) (by decide +kernel)⟩
theorem lw_p115 : lw_okq (⟨"PrinterHouseModel", "eject", "()V"⟩, 80) := ⟨⟨by decide +kernel, by decide +kernel⟩, List.mem_of_getElem? (i := 1651) (by decide +kernel), List.mem_of_getElem? (i := 2055) (by decide +kernel), List.mem_of_getElem? (i := 2056) (by decide +kernel)⟩
theorem lw_p116 : lw_okq (⟨"PrinterHouseModel", "save", "(I)V"⟩, 80) := ⟨⟨by decide +kernel, by decide +kernel⟩, List.mem_of_getElem? (i := 1651) (by decide +kernel), List.mem_of_getElem? (i := 2059) (by decide +kernel), List.mem_of_getElem? (i := 2060) (by decide +kernel)⟩
theorem lw_p117 : lw_okq (⟨"PrinterHouseModel", "through", "(I)V"⟩, 80) := ⟨⟨by decide +kernel, by decide +kernel⟩, List.mem_of_getElem? (i := 1651) (by decide +kernel), List.mem_of_getElem? (i := 2063) (by decide +kernel), List.mem_of_getElem? (i := 2064) (by decide +kernel)⟩
theorem lw_p118 : lw_okq (⟨"PrinterHouseModel", "back", "(I)V"⟩, 80) := ⟨⟨by decide +kernel, by decide +kernel⟩, List.mem_of_getElem? (i := 1651) (by decide +kernel), List.mem_of_getElem? (i := 2067) (by decide +kernel), List.mem_of_getElem? (i := 2068) (by decide +kernel)⟩
theorem lw_p119 : lw_okq (⟨"PrinterHouseModel", "comes", "(II)V"⟩, 80) := ⟨⟨by decide +kernel, by decide +kernel⟩, List.mem_of_getElem? (i := 1651) (by decide +kernel), List.mem_of_getElem? (i := 2071) (by decide +kernel), List.mem_of_getElem? (i := 2072) (by decide +kernel)⟩
theorem lw_p120 : lw_okq (⟨"PrinterHouseModel", "written", "(I)V"⟩, 80) := ⟨⟨by decide +kernel, by decide +kernel⟩, List.mem_of_getElem? (i := 1651) (by decide +kernel), List.mem_of_getElem? (i := 2075) (by decide +kernel), List.mem_of_getElem? (i := 2076) (by decide +kernel)⟩
theorem lw_p121 : lw_okq (⟨"PrinterHouseModel", "outByte", "(I)V"⟩, 80) := ⟨⟨by decide +kernel, by decide +kernel⟩, List.mem_of_getElem? (i := 1651) (by decide +kernel), List.mem_of_getElem? (i := 2079) (by decide +kernel), List.mem_of_getElem? (i := 2080) (by decide +kernel)⟩
theorem lw_p122 : lw_okq (⟨"PrinterHouseModel", "outNumber", "(IJ)V"⟩, 80) := ⟨⟨by decide +kernel, by decide +kernel⟩, List.mem_of_getElem? (i := 1651) (by decide +kernel), List.mem_of_getElem? (i := 2084) (by decide +kernel), List.mem_of_getElem? (i := 2085) (by decide +kernel)⟩
theorem lw_p123 : lw_okq (⟨"PrinterHouseModel", "writeRow", "()V"⟩, 80) := ⟨⟨by decide +kernel, by decide +kernel⟩, List.mem_of_getElem? (i := 1651) (by decide +kernel), List.mem_of_getElem? (i := 2088) (by decide +kernel), List.mem_of_getElem? (i := 2089) (by decide +kernel)⟩
theorem lw_p124 : lw_okq (⟨"PrinterHouseModel", "change", "(II)I"⟩, 80) := ⟨⟨by decide +kernel, by decide +kernel⟩, List.mem_of_getElem? (i := 1651) (by decide +kernel), List.mem_of_getElem? (i := 2092) (by decide +kernel), List.mem_of_getElem? (i := 2093) (by decide +kernel)⟩
theorem lw_p125 : lw_okq (⟨"PrinterHouseModel", "b1", "()I"⟩, 80) := ⟨⟨by decide +kernel, by decide +kernel⟩, List.mem_of_getElem? (i := 1651) (by decide +kernel), List.mem_of_getElem? (i := 2096) (by decide +kernel), List.mem_of_getElem? (i := 2097) (by decide +kernel)⟩
theorem lw_p126 : lw_okq (⟨"PrinterHouseModel", "b2", "(I)I"⟩, 80) := ⟨⟨by decide +kernel, by decide +kernel⟩, List.mem_of_getElem? (i := 1651) (by decide +kernel), List.mem_of_getElem? (i := 2100) (by decide +kernel), List.mem_of_getElem? (i := 2101) (by decide +kernel)⟩
theorem lw_p127 : lw_okq (⟨"PrinterHouseModel", "bits", "(II)V"⟩, 80) := ⟨⟨by decide +kernel, by decide +kernel⟩, List.mem_of_getElem? (i := 1651) (by decide +kernel), List.mem_of_getElem? (i := 2104) (by decide +kernel), List.mem_of_getElem? (i := 2105) (by decide +kernel)⟩
def lw_privs_8 : List (MethodName × Nat) := [(⟨"PrinterHouseModel", "escape", "()V"⟩, 80), (⟨"PrinterHouseModel", "peek", "()I"⟩, 80), (⟨"PrinterHouseModel", "pair", "(I)V"⟩, 80), (⟨"PrinterHouseModel", "eject", "()V"⟩, 80), (⟨"PrinterHouseModel", "save", "(I)V"⟩, 80), (⟨"PrinterHouseModel", "through", "(I)V"⟩, 80), (⟨"PrinterHouseModel", "back", "(I)V"⟩, 80), (⟨"PrinterHouseModel", "comes", "(II)V"⟩, 80), (⟨"PrinterHouseModel", "written", "(I)V"⟩, 80), (⟨"PrinterHouseModel", "outByte", "(I)V"⟩, 80), (⟨"PrinterHouseModel", "outNumber", "(IJ)V"⟩, 80), (⟨"PrinterHouseModel", "writeRow", "()V"⟩, 80), (⟨"PrinterHouseModel", "change", "(II)I"⟩, 80), (⟨"PrinterHouseModel", "b1", "()I"⟩, 80), (⟨"PrinterHouseModel", "b2", "(I)I"⟩, 80), (⟨"PrinterHouseModel", "bits", "(II)V"⟩, 80)]
theorem lw_r8 : ∀ q ∈ lw_privs_8, lw_okq q := List.forall_mem_cons.mpr ⟨lw_p112, List.forall_mem_cons.mpr ⟨lw_p113, List.forall_mem_cons.mpr ⟨lw_p114, List.forall_mem_cons.mpr ⟨lw_p115, List.forall_mem_cons.mpr ⟨lw_p116, List.forall_mem_cons.mpr ⟨lw_p117, List.forall_mem_cons.mpr ⟨lw_p118, List.forall_mem_cons.mpr ⟨lw_p119, List.forall_mem_cons.mpr ⟨lw_p120, List.forall_mem_cons.mpr ⟨lw_p121, List.forall_mem_cons.mpr ⟨lw_p122, List.forall_mem_cons.mpr ⟨lw_p123, List.forall_mem_cons.mpr ⟨lw_p124, List.forall_mem_cons.mpr ⟨lw_p125, List.forall_mem_cons.mpr ⟨lw_p126, List.forall_mem_cons.mpr ⟨lw_p127, fun _ h => absurd h List.not_mem_nil⟩⟩⟩⟩⟩⟩⟩⟩⟩⟩⟩⟩⟩⟩⟩⟩
theorem lw_p128 : lw_okq (⟨"PrinterHouseModel", "writeRun", "(II)V"⟩, 80) := ⟨⟨by decide +kernel, by decide +kernel⟩, List.mem_of_getElem? (i := 1651) (by decide +kernel), List.mem_of_getElem? (i := 2108) (by decide +kernel), List.mem_of_getElem? (i := 2109) (by decide +kernel)⟩
theorem lw_p129 : lw_okq (⟨"PrinterHouseModel", "entry", "(III)V"⟩, 80) := ⟨⟨by decide +kernel, by decide +kernel⟩, List.mem_of_getElem? (i := 1651) (by decide +kernel), List.mem_of_getElem? (i := 2113) (by decide +kernel), List.mem_of_getElem? (i := 2114) (by decide +kernel)⟩
theorem lw_p130 : lw_okq (⟨"PrinterHouseModel", "temporaryGo", "()V"⟩, 80) := ⟨⟨by decide +kernel, by decide +kernel⟩, List.mem_of_getElem? (i := 1651) (by decide +kernel), List.mem_of_getElem? (i := 2118) (by decide +kernel), List.mem_of_getElem? (i := 2119) (by decide +kernel)⟩
theorem lw_p131 : lw_okq (⟨"PrinterHouseModel", "fontsGo", "(Z)V"⟩, 80) := ⟨⟨by decide +kernel, by decide +kernel⟩, List.mem_of_getElem? (i := 1651) (by decide +kernel), List.mem_of_getElem? (i := 2122) (by decide +kernel), List.mem_of_getElem? (i := 2123) (by decide +kernel)⟩
theorem lw_p132 : lw_okq (⟨"PrinterHouseModel", "fontGoes", "(I)V"⟩, 80) := ⟨⟨by decide +kernel, by decide +kernel⟩, List.mem_of_getElem? (i := 1651) (by decide +kernel), List.mem_of_getElem? (i := 2126) (by decide +kernel), List.mem_of_getElem? (i := 2127) (by decide +kernel)⟩
theorem lw_p133 : lw_okq (⟨"PrinterHouseModel", "glyphGoes", "(II)V"⟩, 80) := ⟨⟨by decide +kernel, by decide +kernel⟩, List.mem_of_getElem? (i := 1651) (by decide +kernel), List.mem_of_getElem? (i := 2130) (by decide +kernel), List.mem_of_getElem? (i := 2131) (by decide +kernel)⟩
theorem lw_p134 : lw_okq (⟨"PrinterHouseModel", "usersGo", "(Z)V"⟩, 80) := ⟨⟨by decide +kernel, by decide +kernel⟩, List.mem_of_getElem? (i := 1651) (by decide +kernel), List.mem_of_getElem? (i := 2134) (by decide +kernel), List.mem_of_getElem? (i := 2135) (by decide +kernel)⟩
theorem lw_p135 : lw_okq (⟨"PrinterHouseModel", "macrosGo", "(Z)V"⟩, 80) := ⟨⟨by decide +kernel, by decide +kernel⟩, List.mem_of_getElem? (i := 1651) (by decide +kernel), List.mem_of_getElem? (i := 2138) (by decide +kernel), List.mem_of_getElem? (i := 2139) (by decide +kernel)⟩
theorem lw_p136 : lw_okq (⟨"PrinterHouseModel", "line", "(I)V"⟩, 80) := ⟨⟨by decide +kernel, by decide +kernel⟩, List.mem_of_getElem? (i := 1651) (by decide +kernel), List.mem_of_getElem? (i := 2142) (by decide +kernel), List.mem_of_getElem? (i := 2143) (by decide +kernel)⟩
theorem lw_p137 : lw_okq (⟨"PrinterHouseModel", "transparent", "()V"⟩, 80) := ⟨⟨by decide +kernel, by decide +kernel⟩, List.mem_of_getElem? (i := 1651) (by decide +kernel), List.mem_of_getElem? (i := 2146) (by decide +kernel), List.mem_of_getElem? (i := 2147) (by decide +kernel)⟩
theorem lw_p138 : lw_okq (⟨"PrinterHouseModel", "shown", "(I)V"⟩, 80) := ⟨⟨by decide +kernel, by decide +kernel⟩, List.mem_of_getElem? (i := 1651) (by decide +kernel), List.mem_of_getElem? (i := 2150) (by decide +kernel), List.mem_of_getElem? (i := 2151) (by decide +kernel)⟩
theorem lw_p139 : lw_okq (⟨"PrinterHouseModel", "show", "(I)V"⟩, 80) := ⟨⟨by decide +kernel, by decide +kernel⟩, List.mem_of_getElem? (i := 1651) (by decide +kernel), List.mem_of_getElem? (i := 2154) (by decide +kernel), List.mem_of_getElem? (i := 2155) (by decide +kernel)⟩
theorem lw_p140 : lw_okq (⟨"PrinterHouseModel", "fontInUse", "()I"⟩, 80) := ⟨⟨by decide +kernel, by decide +kernel⟩, List.mem_of_getElem? (i := 1651) (by decide +kernel), List.mem_of_getElem? (i := 2158) (by decide +kernel), List.mem_of_getElem? (i := 2159) (by decide +kernel)⟩
theorem lw_p141 : lw_okq (⟨"PrinterHouseModel", "wish", "(I)I"⟩, 80) := ⟨⟨by decide +kernel, by decide +kernel⟩, List.mem_of_getElem? (i := 1651) (by decide +kernel), List.mem_of_getElem? (i := 2162) (by decide +kernel), List.mem_of_getElem? (i := 2163) (by decide +kernel)⟩
theorem lw_p142 : lw_okq (⟨"PrinterHouseModel", "keep", "(II)V"⟩, 80) := ⟨⟨by decide +kernel, by decide +kernel⟩, List.mem_of_getElem? (i := 1651) (by decide +kernel), List.mem_of_getElem? (i := 2166) (by decide +kernel), List.mem_of_getElem? (i := 2167) (by decide +kernel)⟩
theorem lw_p143 : lw_okq (⟨"PrinterHouseModel", "nearest", "(II)V"⟩, 80) := ⟨⟨by decide +kernel, by decide +kernel⟩, List.mem_of_getElem? (i := 1651) (by decide +kernel), List.mem_of_getElem? (i := 2170) (by decide +kernel), List.mem_of_getElem? (i := 2171) (by decide +kernel)⟩
def lw_privs_9 : List (MethodName × Nat) := [(⟨"PrinterHouseModel", "writeRun", "(II)V"⟩, 80), (⟨"PrinterHouseModel", "entry", "(III)V"⟩, 80), (⟨"PrinterHouseModel", "temporaryGo", "()V"⟩, 80), (⟨"PrinterHouseModel", "fontsGo", "(Z)V"⟩, 80), (⟨"PrinterHouseModel", "fontGoes", "(I)V"⟩, 80), (⟨"PrinterHouseModel", "glyphGoes", "(II)V"⟩, 80), (⟨"PrinterHouseModel", "usersGo", "(Z)V"⟩, 80), (⟨"PrinterHouseModel", "macrosGo", "(Z)V"⟩, 80), (⟨"PrinterHouseModel", "line", "(I)V"⟩, 80), (⟨"PrinterHouseModel", "transparent", "()V"⟩, 80), (⟨"PrinterHouseModel", "shown", "(I)V"⟩, 80), (⟨"PrinterHouseModel", "show", "(I)V"⟩, 80), (⟨"PrinterHouseModel", "fontInUse", "()I"⟩, 80), (⟨"PrinterHouseModel", "wish", "(I)I"⟩, 80), (⟨"PrinterHouseModel", "keep", "(II)V"⟩, 80), (⟨"PrinterHouseModel", "nearest", "(II)V"⟩, 80)]
theorem lw_r9 : ∀ q ∈ lw_privs_9, lw_okq q := List.forall_mem_cons.mpr ⟨lw_p128, List.forall_mem_cons.mpr ⟨lw_p129, List.forall_mem_cons.mpr ⟨lw_p130, List.forall_mem_cons.mpr ⟨lw_p131, List.forall_mem_cons.mpr ⟨lw_p132, List.forall_mem_cons.mpr ⟨lw_p133, List.forall_mem_cons.mpr ⟨lw_p134, List.forall_mem_cons.mpr ⟨lw_p135, List.forall_mem_cons.mpr ⟨lw_p136, List.forall_mem_cons.mpr ⟨lw_p137, List.forall_mem_cons.mpr ⟨lw_p138, List.forall_mem_cons.mpr ⟨lw_p139, List.forall_mem_cons.mpr ⟨lw_p140, List.forall_mem_cons.mpr ⟨lw_p141, List.forall_mem_cons.mpr ⟨lw_p142, List.forall_mem_cons.mpr ⟨lw_p143, fun _ h => absurd h List.not_mem_nil⟩⟩⟩⟩⟩⟩⟩⟩⟩⟩⟩⟩⟩⟩⟩⟩
theorem lw_p144 : lw_okq (⟨"PrinterHouseModel", "mark", "(JJJJ)Z"⟩, 80) := ⟨⟨by decide +kernel, by decide +kernel⟩, List.mem_of_getElem? (i := 1651) (by decide +kernel), List.mem_of_getElem? (i := 2185) (by decide +kernel), List.mem_of_getElem? (i := 2186) (by decide +kernel)⟩
theorem lw_p145 : lw_okq (⟨"PrinterHouseModel", "useAtHand", "()V"⟩, 80) := ⟨⟨by decide +kernel, by decide +kernel⟩, List.mem_of_getElem? (i := 1651) (by decide +kernel), List.mem_of_getElem? (i := 2190) (by decide +kernel), List.mem_of_getElem? (i := 2191) (by decide +kernel)⟩
theorem lw_p146 : lw_okq (⟨"PrinterHouseModel", "residentGlyph", "(III)V"⟩, 80) := ⟨⟨by decide +kernel, by decide +kernel⟩, List.mem_of_getElem? (i := 1651) (by decide +kernel), List.mem_of_getElem? (i := 2194) (by decide +kernel), List.mem_of_getElem? (i := 2195) (by decide +kernel)⟩
theorem lw_p147 : lw_okq (⟨"PrinterHouseModel", "lay", "(III)V"⟩, 80) := ⟨⟨by decide +kernel, by decide +kernel⟩, List.mem_of_getElem? (i := 1651) (by decide +kernel), List.mem_of_getElem? (i := 2198) (by decide +kernel), List.mem_of_getElem? (i := 2199) (by decide +kernel)⟩
theorem lw_p148 : lw_okq (⟨"PrinterHouseModel", "patternAt", "(II)I"⟩, 80) := ⟨⟨by decide +kernel, by decide +kernel⟩, List.mem_of_getElem? (i := 1651) (by decide +kernel), List.mem_of_getElem? (i := 2202) (by decide +kernel), List.mem_of_getElem? (i := 2203) (by decide +kernel)⟩
theorem lw_p149 : lw_okq (⟨"PrinterHouseModel", "glyph", "(III)V"⟩, 80) := ⟨⟨by decide +kernel, by decide +kernel⟩, List.mem_of_getElem? (i := 1651) (by decide +kernel), List.mem_of_getElem? (i := 2213) (by decide +kernel), List.mem_of_getElem? (i := 2214) (by decide +kernel)⟩
theorem lw_p150 : lw_okq (⟨"PrinterHouseModel", "readValue", "()V"⟩, 80) := ⟨⟨by decide +kernel, by decide +kernel⟩, List.mem_of_getElem? (i := 1651) (by decide +kernel), List.mem_of_getElem? (i := 2217) (by decide +kernel), List.mem_of_getElem? (i := 2218) (by decide +kernel)⟩
theorem lw_p151 : lw_okq (⟨"PrinterHouseModel", "withData", "(III)V"⟩, 80) := ⟨⟨by decide +kernel, by decide +kernel⟩, List.mem_of_getElem? (i := 1651) (by decide +kernel), List.mem_of_getElem? (i := 2222) (by decide +kernel), List.mem_of_getElem? (i := 2223) (by decide +kernel)⟩
theorem lw_p152 : lw_okq (⟨"PrinterHouseModel", "fontData", "(I)V"⟩, 80) := ⟨⟨by decide +kernel, by decide +kernel⟩, List.mem_of_getElem? (i := 1651) (by decide +kernel), List.mem_of_getElem? (i := 2226) (by decide +kernel), List.mem_of_getElem? (i := 2227) (by decide +kernel)⟩
theorem lw_p153 : lw_okq (⟨"PrinterHouseModel", "dataAt", "(I)I"⟩, 80) := ⟨⟨by decide +kernel, by decide +kernel⟩, List.mem_of_getElem? (i := 1651) (by decide +kernel), List.mem_of_getElem? (i := 2230) (by decide +kernel), List.mem_of_getElem? (i := 2231) (by decide +kernel)⟩
theorem lw_p154 : lw_okq (⟨"PrinterHouseModel", "signedAt", "(I)I"⟩, 80) := ⟨⟨by decide +kernel, by decide +kernel⟩, List.mem_of_getElem? (i := 1651) (by decide +kernel), List.mem_of_getElem? (i := 2234) (by decide +kernel), List.mem_of_getElem? (i := 2235) (by decide +kernel)⟩
theorem lw_p155 : lw_okq (⟨"PrinterHouseModel", "glyphData", "(I)V"⟩, 80) := ⟨⟨by decide +kernel, by decide +kernel⟩, List.mem_of_getElem? (i := 1651) (by decide +kernel), List.mem_of_getElem? (i := 2238) (by decide +kernel), List.mem_of_getElem? (i := 2239) (by decide +kernel)⟩
theorem lw_p156 : lw_okq (⟨"PrinterHouseModel", "userData", "(I)V"⟩, 80) := ⟨⟨by decide +kernel, by decide +kernel⟩, List.mem_of_getElem? (i := 1651) (by decide +kernel), List.mem_of_getElem? (i := 2242) (by decide +kernel), List.mem_of_getElem? (i := 2243) (by decide +kernel)⟩
theorem lw_p157 : lw_okq (⟨"PrinterHouseModel", "rowData", "(I)V"⟩, 80) := ⟨⟨by decide +kernel, by decide +kernel⟩, List.mem_of_getElem? (i := 1651) (by decide +kernel), List.mem_of_getElem? (i := 2246) (by decide +kernel), List.mem_of_getElem? (i := 2247) (by decide +kernel)⟩
theorem lw_p158 : lw_okq (⟨"PrinterHouseModel", "begin", "(Z)V"⟩, 80) := ⟨⟨by decide +kernel, by decide +kernel⟩, List.mem_of_getElem? (i := 1651) (by decide +kernel), List.mem_of_getElem? (i := 2250) (by decide +kernel), List.mem_of_getElem? (i := 2251) (by decide +kernel)⟩
theorem lw_p159 : lw_okq (⟨"PrinterHouseModel", "unpack", "(I)V"⟩, 80) := ⟨⟨by decide +kernel, by decide +kernel⟩, List.mem_of_getElem? (i := 1651) (by decide +kernel), List.mem_of_getElem? (i := 2254) (by decide +kernel), List.mem_of_getElem? (i := 2255) (by decide +kernel)⟩
def lw_privs_10 : List (MethodName × Nat) := [(⟨"PrinterHouseModel", "mark", "(JJJJ)Z"⟩, 80), (⟨"PrinterHouseModel", "useAtHand", "()V"⟩, 80), (⟨"PrinterHouseModel", "residentGlyph", "(III)V"⟩, 80), (⟨"PrinterHouseModel", "lay", "(III)V"⟩, 80), (⟨"PrinterHouseModel", "patternAt", "(II)I"⟩, 80), (⟨"PrinterHouseModel", "glyph", "(III)V"⟩, 80), (⟨"PrinterHouseModel", "readValue", "()V"⟩, 80), (⟨"PrinterHouseModel", "withData", "(III)V"⟩, 80), (⟨"PrinterHouseModel", "fontData", "(I)V"⟩, 80), (⟨"PrinterHouseModel", "dataAt", "(I)I"⟩, 80), (⟨"PrinterHouseModel", "signedAt", "(I)I"⟩, 80), (⟨"PrinterHouseModel", "glyphData", "(I)V"⟩, 80), (⟨"PrinterHouseModel", "userData", "(I)V"⟩, 80), (⟨"PrinterHouseModel", "rowData", "(I)V"⟩, 80), (⟨"PrinterHouseModel", "begin", "(Z)V"⟩, 80), (⟨"PrinterHouseModel", "unpack", "(I)V"⟩, 80)]
theorem lw_r10 : ∀ q ∈ lw_privs_10, lw_okq q := List.forall_mem_cons.mpr ⟨lw_p144, List.forall_mem_cons.mpr ⟨lw_p145, List.forall_mem_cons.mpr ⟨lw_p146, List.forall_mem_cons.mpr ⟨lw_p147, List.forall_mem_cons.mpr ⟨lw_p148, List.forall_mem_cons.mpr ⟨lw_p149, List.forall_mem_cons.mpr ⟨lw_p150, List.forall_mem_cons.mpr ⟨lw_p151, List.forall_mem_cons.mpr ⟨lw_p152, List.forall_mem_cons.mpr ⟨lw_p153, List.forall_mem_cons.mpr ⟨lw_p154, List.forall_mem_cons.mpr ⟨lw_p155, List.forall_mem_cons.mpr ⟨lw_p156, List.forall_mem_cons.mpr ⟨lw_p157, List.forall_mem_cons.mpr ⟨lw_p158, List.forall_mem_cons.mpr ⟨lw_p159, fun _ h => absurd h List.not_mem_nil⟩⟩⟩⟩⟩⟩⟩⟩⟩⟩⟩⟩⟩⟩⟩⟩
theorem lw_p160 : lw_okq (⟨"PrinterHouseModel", "changed", "(I)V"⟩, 80) := ⟨⟨by decide +kernel, by decide +kernel⟩, List.mem_of_getElem? (i := 1651) (by decide +kernel), List.mem_of_getElem? (i := 2258) (by decide +kernel), List.mem_of_getElem? (i := 2259) (by decide +kernel)⟩
theorem lw_p161 : lw_okq (⟨"PrinterHouseModel", "fill", "(I)V"⟩, 80) := ⟨⟨by decide +kernel, by decide +kernel⟩, List.mem_of_getElem? (i := 1651) (by decide +kernel), List.mem_of_getElem? (i := 2262) (by decide +kernel), List.mem_of_getElem? (i := 2263) (by decide +kernel)⟩
theorem lw_p162 : lw_okq (⟨"PrinterHouseModel", "field", "(III)V"⟩, 80) := ⟨⟨by decide +kernel, by decide +kernel⟩, List.mem_of_getElem? (i := 1651) (by decide +kernel), List.mem_of_getElem? (i := 2266) (by decide +kernel), List.mem_of_getElem? (i := 2267) (by decide +kernel)⟩
theorem lw_p163 : lw_okq (⟨"PrinterHouseModel", "pageField", "(I)V"⟩, 80) := ⟨⟨by decide +kernel, by decide +kernel⟩, List.mem_of_getElem? (i := 1651) (by decide +kernel), List.mem_of_getElem? (i := 2270) (by decide +kernel), List.mem_of_getElem? (i := 2271) (by decide +kernel)⟩
theorem lw_p164 : lw_okq (⟨"PrinterHouseModel", "units", "(J)J"⟩, 80) := ⟨⟨by decide +kernel, by decide +kernel⟩, List.mem_of_getElem? (i := 1651) (by decide +kernel), List.mem_of_getElem? (i := 2275) (by decide +kernel), List.mem_of_getElem? (i := 2276) (by decide +kernel)⟩
theorem lw_p165 : lw_okq (⟨"PrinterHouseModel", "placeField", "(I)V"⟩, 80) := ⟨⟨by decide +kernel, by decide +kernel⟩, List.mem_of_getElem? (i := 1651) (by decide +kernel), List.mem_of_getElem? (i := 2280) (by decide +kernel), List.mem_of_getElem? (i := 2281) (by decide +kernel)⟩
theorem lw_p166 : lw_okq (⟨"PrinterHouseModel", "macroField", "(I)V"⟩, 80) := ⟨⟨by decide +kernel, by decide +kernel⟩, List.mem_of_getElem? (i := 1651) (by decide +kernel), List.mem_of_getElem? (i := 2286) (by decide +kernel), List.mem_of_getElem? (i := 2287) (by decide +kernel)⟩
theorem lw_p167 : lw_okq (⟨"PrinterHouseModel", "macroAct", "()V"⟩, 80) := ⟨⟨by decide +kernel, by decide +kernel⟩, List.mem_of_getElem? (i := 1651) (by decide +kernel), List.mem_of_getElem? (i := 2290) (by decide +kernel), List.mem_of_getElem? (i := 2291) (by decide +kernel)⟩
theorem lw_p168 : lw_okq (⟨"PrinterHouseModel", "define", "(I)V"⟩, 80) := ⟨⟨by decide +kernel, by decide +kernel⟩, List.mem_of_getElem? (i := 1651) (by decide +kernel), List.mem_of_getElem? (i := 2294) (by decide +kernel), List.mem_of_getElem? (i := 2295) (by decide +kernel)⟩
theorem lw_p169 : lw_okq (⟨"PrinterHouseModel", "endsMacro", "(I)Z"⟩, 80) := ⟨⟨by decide +kernel, by decide +kernel⟩, List.mem_of_getElem? (i := 1651) (by decide +kernel), List.mem_of_getElem? (i := 2298) (by decide +kernel), List.mem_of_getElem? (i := 2299) (by decide +kernel)⟩
theorem lw_p170 : lw_okq (⟨"PrinterHouseModel", "dotField", "(I)V"⟩, 80) := ⟨⟨by decide +kernel, by decide +kernel⟩, List.mem_of_getElem? (i := 1651) (by decide +kernel), List.mem_of_getElem? (i := 2302) (by decide +kernel), List.mem_of_getElem? (i := 2303) (by decide +kernel)⟩
theorem lw_p171 : lw_okq (⟨"PrinterHouseModel", "modelField", "(I)V"⟩, 80) := ⟨⟨by decide +kernel, by decide +kernel⟩, List.mem_of_getElem? (i := 1651) (by decide +kernel), List.mem_of_getElem? (i := 2306) (by decide +kernel), List.mem_of_getElem? (i := 2307) (by decide +kernel)⟩
theorem lw_p172 : lw_okq (⟨"PrinterHouseModel", "hasPattern", "(II)Z"⟩, 80) := ⟨⟨by decide +kernel, by decide +kernel⟩, List.mem_of_getElem? (i := 1651) (by decide +kernel), List.mem_of_getElem? (i := 2310) (by decide +kernel), List.mem_of_getElem? (i := 2311) (by decide +kernel)⟩
theorem lw_p173 : lw_okq (⟨"PrinterHouseModel", "putPattern", "([IIII)V"⟩, 80) := ⟨⟨by decide +kernel, by decide +kernel⟩, List.mem_of_getElem? (i := 1651) (by decide +kernel), List.mem_of_getElem? (i := 2314) (by decide +kernel), List.mem_of_getElem? (i := 2315) (by decide +kernel)⟩
theorem lw_p174 : lw_okq (⟨"PrinterHouseModel", "thingField", "(I)V"⟩, 80) := ⟨⟨by decide +kernel, by decide +kernel⟩, List.mem_of_getElem? (i := 1651) (by decide +kernel), List.mem_of_getElem? (i := 2318) (by decide +kernel), List.mem_of_getElem? (i := 2319) (by decide +kernel)⟩
theorem lw_p175 : lw_okq (⟨"PrinterHouseModel", "rectangle", "()V"⟩, 80) := ⟨⟨by decide +kernel, by decide +kernel⟩, List.mem_of_getElem? (i := 1651) (by decide +kernel), List.mem_of_getElem? (i := 2326) (by decide +kernel), List.mem_of_getElem? (i := 2327) (by decide +kernel)⟩
def lw_privs_11 : List (MethodName × Nat) := [(⟨"PrinterHouseModel", "changed", "(I)V"⟩, 80), (⟨"PrinterHouseModel", "fill", "(I)V"⟩, 80), (⟨"PrinterHouseModel", "field", "(III)V"⟩, 80), (⟨"PrinterHouseModel", "pageField", "(I)V"⟩, 80), (⟨"PrinterHouseModel", "units", "(J)J"⟩, 80), (⟨"PrinterHouseModel", "placeField", "(I)V"⟩, 80), (⟨"PrinterHouseModel", "macroField", "(I)V"⟩, 80), (⟨"PrinterHouseModel", "macroAct", "()V"⟩, 80), (⟨"PrinterHouseModel", "define", "(I)V"⟩, 80), (⟨"PrinterHouseModel", "endsMacro", "(I)Z"⟩, 80), (⟨"PrinterHouseModel", "dotField", "(I)V"⟩, 80), (⟨"PrinterHouseModel", "modelField", "(I)V"⟩, 80), (⟨"PrinterHouseModel", "hasPattern", "(II)Z"⟩, 80), (⟨"PrinterHouseModel", "putPattern", "([IIII)V"⟩, 80), (⟨"PrinterHouseModel", "thingField", "(I)V"⟩, 80), (⟨"PrinterHouseModel", "rectangle", "()V"⟩, 80)]
theorem lw_r11 : ∀ q ∈ lw_privs_11, lw_okq q := List.forall_mem_cons.mpr ⟨lw_p160, List.forall_mem_cons.mpr ⟨lw_p161, List.forall_mem_cons.mpr ⟨lw_p162, List.forall_mem_cons.mpr ⟨lw_p163, List.forall_mem_cons.mpr ⟨lw_p164, List.forall_mem_cons.mpr ⟨lw_p165, List.forall_mem_cons.mpr ⟨lw_p166, List.forall_mem_cons.mpr ⟨lw_p167, List.forall_mem_cons.mpr ⟨lw_p168, List.forall_mem_cons.mpr ⟨lw_p169, List.forall_mem_cons.mpr ⟨lw_p170, List.forall_mem_cons.mpr ⟨lw_p171, List.forall_mem_cons.mpr ⟨lw_p172, List.forall_mem_cons.mpr ⟨lw_p173, List.forall_mem_cons.mpr ⟨lw_p174, List.forall_mem_cons.mpr ⟨lw_p175, fun _ h => absurd h List.not_mem_nil⟩⟩⟩⟩⟩⟩⟩⟩⟩⟩⟩⟩⟩⟩⟩⟩
theorem lw_p176 : lw_okq (⟨"PrinterHouseModel", "fontAct", "()V"⟩, 80) := ⟨⟨by decide +kernel, by decide +kernel⟩, List.mem_of_getElem? (i := 1651) (by decide +kernel), List.mem_of_getElem? (i := 2330) (by decide +kernel), List.mem_of_getElem? (i := 2331) (by decide +kernel)⟩
theorem lw_p177 : lw_okq (⟨"PrinterHouseModel", "userAct", "()V"⟩, 80) := ⟨⟨by decide +kernel, by decide +kernel⟩, List.mem_of_getElem? (i := 1651) (by decide +kernel), List.mem_of_getElem? (i := 2334) (by decide +kernel), List.mem_of_getElem? (i := 2335) (by decide +kernel)⟩
theorem lw_p178 : lw_okq (⟨"PrinterHouseModel", "rasterField", "(I)V"⟩, 80) := ⟨⟨by decide +kernel, by decide +kernel⟩, List.mem_of_getElem? (i := 1651) (by decide +kernel), List.mem_of_getElem? (i := 2338) (by decide +kernel), List.mem_of_getElem? (i := 2339) (by decide +kernel)⟩
theorem lw_p179 : lw_okq (⟨"PrinterHouseModel", "rowField", "(I)V"⟩, 80) := ⟨⟨by decide +kernel, by decide +kernel⟩, List.mem_of_getElem? (i := 1651) (by decide +kernel), List.mem_of_getElem? (i := 2342) (by decide +kernel), List.mem_of_getElem? (i := 2343) (by decide +kernel)⟩
theorem lw_p180 : lw_okq (⟨"PrinterHouseModel", "fontField", "(III)V"⟩, 80) := ⟨⟨by decide +kernel, by decide +kernel⟩, List.mem_of_getElem? (i := 1651) (by decide +kernel), List.mem_of_getElem? (i := 2346) (by decide +kernel), List.mem_of_getElem? (i := 2347) (by decide +kernel)⟩
theorem lw_p181 : lw_okq (⟨"PrinterHouseModel", "plain", "(I)V"⟩, 80) := ⟨⟨by decide +kernel, by decide +kernel⟩, List.mem_of_getElem? (i := 1651) (by decide +kernel), List.mem_of_getElem? (i := 2352) (by decide +kernel), List.mem_of_getElem? (i := 2353) (by decide +kernel)⟩
theorem lw_p182 : lw_okq (⟨"PrinterHouseModel", "tab", "()V"⟩, 80) := ⟨⟨by decide +kernel, by decide +kernel⟩, List.mem_of_getElem? (i := 1651) (by decide +kernel), List.mem_of_getElem? (i := 2356) (by decide +kernel), List.mem_of_getElem? (i := 2357) (by decide +kernel)⟩
theorem lw_p183 : lw_okq (⟨"PrinterHouseModel", "pictures", "(I)Z"⟩, 80) := ⟨⟨by decide +kernel, by decide +kernel⟩, List.mem_of_getElem? (i := 1651) (by decide +kernel), List.mem_of_getElem? (i := 2360) (by decide +kernel), List.mem_of_getElem? (i := 2361) (by decide +kernel)⟩
theorem lw_p184 : lw_okq (⟨"PrinterHouseModel", "wrong", "(II)Z"⟩, 80) := ⟨⟨by decide +kernel, by decide +kernel⟩, List.mem_of_getElem? (i := 1651) (by decide +kernel), List.mem_of_getElem? (i := 2364) (by decide +kernel), List.mem_of_getElem? (i := 2365) (by decide +kernel)⟩
theorem lw_p185 : lw_okq (⟨"PrinterHouseModel", "picture", "(II)J"⟩, 80) := ⟨⟨by decide +kernel, by decide +kernel⟩, List.mem_of_getElem? (i := 1651) (by decide +kernel), List.mem_of_getElem? (i := 2368) (by decide +kernel), List.mem_of_getElem? (i := 2369) (by decide +kernel)⟩
theorem lw_p186 : lw_okq (⟨"PrinterHouseModel", "directory", "(II)Z"⟩, 80) := ⟨⟨by decide +kernel, by decide +kernel⟩, List.mem_of_getElem? (i := 1651) (by decide +kernel), List.mem_of_getElem? (i := 2375) (by decide +kernel), List.mem_of_getElem? (i := 2376) (by decide +kernel)⟩
theorem lw_p187 : lw_okq (⟨"PrinterHouseModel", "valueOf", "(II)J"⟩, 80) := ⟨⟨by decide +kernel, by decide +kernel⟩, List.mem_of_getElem? (i := 1651) (by decide +kernel), List.mem_of_getElem? (i := 2383) (by decide +kernel), List.mem_of_getElem? (i := 2384) (by decide +kernel)⟩
theorem lw_p188 : lw_okq (⟨"PrinterHouseModel", "readRow", "()Z"⟩, 80) := ⟨⟨by decide +kernel, by decide +kernel⟩, List.mem_of_getElem? (i := 1651) (by decide +kernel), List.mem_of_getElem? (i := 2392) (by decide +kernel), List.mem_of_getElem? (i := 2393) (by decide +kernel)⟩
theorem lw_p189 : lw_okq (⟨"PrinterHouseModel", "mode", "()I"⟩, 80) := ⟨⟨by decide +kernel, by decide +kernel⟩, List.mem_of_getElem? (i := 1651) (by decide +kernel), List.mem_of_getElem? (i := 2396) (by decide +kernel), List.mem_of_getElem? (i := 2397) (by decide +kernel)⟩
theorem lw_p190 : lw_okq (⟨"PrinterHouseModel", "bit", "()I"⟩, 80) := ⟨⟨by decide +kernel, by decide +kernel⟩, List.mem_of_getElem? (i := 1651) (by decide +kernel), List.mem_of_getElem? (i := 2400) (by decide +kernel), List.mem_of_getElem? (i := 2401) (by decide +kernel)⟩
theorem lw_p191 : lw_okq (⟨"PrinterHouseModel", "readRun", "(I)I"⟩, 80) := ⟨⟨by decide +kernel, by decide +kernel⟩, List.mem_of_getElem? (i := 1651) (by decide +kernel), List.mem_of_getElem? (i := 2404) (by decide +kernel), List.mem_of_getElem? (i := 2405) (by decide +kernel)⟩
def lw_privs_12 : List (MethodName × Nat) := [(⟨"PrinterHouseModel", "fontAct", "()V"⟩, 80), (⟨"PrinterHouseModel", "userAct", "()V"⟩, 80), (⟨"PrinterHouseModel", "rasterField", "(I)V"⟩, 80), (⟨"PrinterHouseModel", "rowField", "(I)V"⟩, 80), (⟨"PrinterHouseModel", "fontField", "(III)V"⟩, 80), (⟨"PrinterHouseModel", "plain", "(I)V"⟩, 80), (⟨"PrinterHouseModel", "tab", "()V"⟩, 80), (⟨"PrinterHouseModel", "pictures", "(I)Z"⟩, 80), (⟨"PrinterHouseModel", "wrong", "(II)Z"⟩, 80), (⟨"PrinterHouseModel", "picture", "(II)J"⟩, 80), (⟨"PrinterHouseModel", "directory", "(II)Z"⟩, 80), (⟨"PrinterHouseModel", "valueOf", "(II)J"⟩, 80), (⟨"PrinterHouseModel", "readRow", "()Z"⟩, 80), (⟨"PrinterHouseModel", "mode", "()I"⟩, 80), (⟨"PrinterHouseModel", "bit", "()I"⟩, 80), (⟨"PrinterHouseModel", "readRun", "(I)I"⟩, 80)]
theorem lw_r12 : ∀ q ∈ lw_privs_12, lw_okq q := List.forall_mem_cons.mpr ⟨lw_p176, List.forall_mem_cons.mpr ⟨lw_p177, List.forall_mem_cons.mpr ⟨lw_p178, List.forall_mem_cons.mpr ⟨lw_p179, List.forall_mem_cons.mpr ⟨lw_p180, List.forall_mem_cons.mpr ⟨lw_p181, List.forall_mem_cons.mpr ⟨lw_p182, List.forall_mem_cons.mpr ⟨lw_p183, List.forall_mem_cons.mpr ⟨lw_p184, List.forall_mem_cons.mpr ⟨lw_p185, List.forall_mem_cons.mpr ⟨lw_p186, List.forall_mem_cons.mpr ⟨lw_p187, List.forall_mem_cons.mpr ⟨lw_p188, List.forall_mem_cons.mpr ⟨lw_p189, List.forall_mem_cons.mpr ⟨lw_p190, List.forall_mem_cons.mpr ⟨lw_p191, fun _ h => absurd h List.not_mem_nil⟩⟩⟩⟩⟩⟩⟩⟩⟩⟩⟩⟩⟩⟩⟩⟩
theorem lw_p192 : lw_okq (⟨"PrinterHouseModel", "oneRun", "(I)I"⟩, 80) := ⟨⟨by decide +kernel, by decide +kernel⟩, List.mem_of_getElem? (i := 1651) (by decide +kernel), List.mem_of_getElem? (i := 2408) (by decide +kernel), List.mem_of_getElem? (i := 2409) (by decide +kernel)⟩
theorem lw_p193 : lw_okq (⟨"PrinterHouseModel", "paint", "(II)V"⟩, 80) := ⟨⟨by decide +kernel, by decide +kernel⟩, List.mem_of_getElem? (i := 1651) (by decide +kernel), List.mem_of_getElem? (i := 2412) (by decide +kernel), List.mem_of_getElem? (i := 2413) (by decide +kernel)⟩
def lw_privs_13 : List (MethodName × Nat) := [(⟨"PrinterHouseModel", "oneRun", "(I)I"⟩, 80), (⟨"PrinterHouseModel", "paint", "(II)V"⟩, 80)]
theorem lw_r13 : ∀ q ∈ lw_privs_13, lw_okq q := List.forall_mem_cons.mpr ⟨lw_p192, List.forall_mem_cons.mpr ⟨lw_p193, fun _ h => absurd h List.not_mem_nil⟩⟩
def lw_privs : List (MethodName × Nat) := lw_privs_1 ++ (lw_privs_2 ++ (lw_privs_3 ++ (lw_privs_4 ++ (lw_privs_5 ++ (lw_privs_6 ++ (lw_privs_7 ++ (lw_privs_8 ++ (lw_privs_9 ++ (lw_privs_10 ++ (lw_privs_11 ++ (lw_privs_12 ++ (lw_privs_13))))))))))))
def lw_tbl : List Cond := k2_sels lw_privs ++ tables_1
theorem lw_privs_ok : ∀ q ∈ lw_privs, lw_okq q := by
  show ∀ q ∈ lw_privs_1 ++ (lw_privs_2 ++ (lw_privs_3 ++ (lw_privs_4 ++ (lw_privs_5 ++ (lw_privs_6 ++ (lw_privs_7 ++ (lw_privs_8 ++ (lw_privs_9 ++ (lw_privs_10 ++ (lw_privs_11 ++ (lw_privs_12 ++ (lw_privs_13)))))))))))), lw_okq q
  exact List.forall_mem_append.mpr ⟨lw_r1, List.forall_mem_append.mpr ⟨lw_r2, List.forall_mem_append.mpr ⟨lw_r3, List.forall_mem_append.mpr ⟨lw_r4, List.forall_mem_append.mpr ⟨lw_r5, List.forall_mem_append.mpr ⟨lw_r6, List.forall_mem_append.mpr ⟨lw_r7, List.forall_mem_append.mpr ⟨lw_r8, List.forall_mem_append.mpr ⟨lw_r9, List.forall_mem_append.mpr ⟨lw_r10, List.forall_mem_append.mpr ⟨lw_r11, List.forall_mem_append.mpr ⟨lw_r12, lw_r13⟩⟩⟩⟩⟩⟩⟩⟩⟩⟩⟩⟩
end
section
/-- the printed names use va_AOA and do not give it -/
def va_AOA (ty : FieldType) (U : State) : Prop := (Cond.arrayOver (.array ty)).before #[] U = true
theorem va_AOA.use {ty : FieldType} {A : Array Value} {U : State} (h : va_AOA ty U) : (Cond.arrayOver (.array ty)).before A U = true := h
/-! ===== BEGIN words of one list among another's, by their places ===== -/
theorem goodIn_r {big : List Cond} (ws : List Cond) (ps : List Nat) (hp : ws = ps.filterMap (fun i => big[i]?)) (h : ws.all goodWord = true) : GoodIn big ws := by
  intro w hw
  have h1 := List.all_eq_true.mp h w hw
  rw [hp] at hw
  obtain ⟨i, -, hi⟩ := List.mem_filterMap.mp hw
  have hm : w ∈ big := by first | exact List.mem_of_getElem? hi | exact List.getElem?_mem hi
  exact ⟨hm, good_of_word h1⟩
theorem goodIn_app {big a b : List Cond} (ha : GoodIn big a) (hb : GoodIn big b) : GoodIn big (a ++ b) := fun w h => (List.mem_append.mp h).elim (ha w) (hb w)
theorem goodIn_ca {big a b : List Cond} {c : Cond} (ha : GoodIn big (c :: a)) (hb : GoodIn big b) : GoodIn big (c :: (a ++ b)) := fun w h => (List.mem_cons.mp h).elim (fun e => ha w (List.mem_cons.mpr (Or.inl e))) (fun h => (List.mem_append.mp h).elim (fun h => ha w (List.mem_cons.mpr (Or.inr h))) (hb w))
theorem goodIn_sub {big ws : List Cond} (hm : ∀ w ∈ ws, w ∈ big) (h : ws.all goodWord = true) : GoodIn big ws := fun w hw => ⟨hm w hw, good_of_word (List.all_eq_true.mp h w hw)⟩
/-! ===== BEGIN new T[n][m]: the outer array a place, the inner ones among the pooled ===== -/
/-- f, but v at every address of l -/
def vr_up {α : Type} (f : Nat → α) (l : List Nat) (v : α) : Nat → α := fun a => if a ∈ l then v else f a
theorem vr_up_in {α : Type} {f : Nat → α} {l : List Nat} {v : α} {a : Nat} (h : a ∈ l) : vr_up f l v a = v := if_pos h
theorem vr_up_ne {α : Type} {f : Nat → α} {l : List Nat} {v : α} {a : Nat} (h : a ∉ l) : vr_up f l v a = f a := if_neg h
theorem vr_rows {L l : List Nat} {f : Nat → va_E} {e : va_E} (h : ∀ a, a ∈ l → a ∉ L) : va_pl L f ++ l.map (fun a => (a, e)) = va_pl (L ++ l) (vr_up f l e) := by
  unfold va_pl
  rw [List.map_append]
  congr 1
  · apply List.map_congr_left
    intro a ha
    rw [vr_up_ne (fun q => h a q ha)]
  · apply List.map_congr_left
    intro a ha
    rw [vr_up_in ha]
theorem vr_lay {X rows : va_W} {x : Nat × va_E} {pl : va_W} {D : va_G} {cl : List vw_C} {H : Heap} (hP : va_P D cl (((X ++ pl) ++ [x]) ++ rows) H) : va_P D cl ((X ++ [x]) ++ (pl ++ rows)) H := by
  rw [List.append_assoc (X ++ pl)] at hP
  have h := va_P.swap hP
  rw [← List.append_assoc X] at h
  have h2 := va_P.swap h
  rw [List.append_assoc (X ++ [x])] at h2
  exact h2
theorem vr_layD {X rows : va_W} {x : Nat × va_E} {pl : va_W} {A : Nat → Prop} (hD : va_D A (((X ++ pl) ++ [x]) ++ rows)) : va_D A ((X ++ [x]) ++ (pl ++ rows)) := by
  rw [List.append_assoc (X ++ pl)] at hD
  have h := va_D.swap hD
  rw [← List.append_assoc X] at h
  have h2 := va_D.swap h
  rw [List.append_assoc (X ++ [x])] at h2
  exact h2
theorem vr_outer (c : ClassId) (N h0 : Nat) : ∀ i : Nat, Jvm.Free.Multi.outerC c N h0 i = arrV c N (fun j => va_rf (if j < i then some (h0 + 1 + j) else none))
  | 0 => by
    show ({ cls := c, slots := Array.replicate N .null, vm := .none } : Cell) = _
    rw [arrV_new]
    refine congrArg (arrV c N) (funext fun j => ?_)
    simp [va_rf]
  | i + 1 => by
    show (Jvm.Free.Multi.outerC c N h0 i).setSlot i (.ref (h0 + 1 + i)) = _
    rw [vr_outer c N h0 i, arrV_store]
    refine congrArg (arrV c N) (funext fun j => ?_)
    by_cases e : j = i
    · subst e
      simp [updV, va_rf]
    · by_cases h : j < i
      · simp [updV, e, h, Nat.lt_succ_of_lt h]
      · simp [updV, e, h, show ¬ j < i + 1 by omega]
section VGM
variable {p : Program} {l : Launch} {e : Env} {R : Room} {s : State} {m : MethodId} {args : Array Value} {below : List Frame} {meth : Method} {c : Code} {H : Heap} {locs : List Loc} {cells slots : Nat} {Q : State → Prop}
variable {cc : ByteArray} {pc : Nat} {ls : Array Slot} {rest : List Value} {D : va_G} {cl : List vw_C} {A : Nat → Prop} {a : Nat} {tys : List (ClassId × FieldType)} {ws : va_W} {H0 : Heap}
theorem va_mna {X : va_W} {L : List Nat} {f : Nat → va_E} {cc : ByteArray} (hexec : p.tables.exec = Jvm.exec) (hb : c.code = cc) {own : String} {index : Nat} {ty : FieldType} {cy : ClassId} (hown : s.vm.findClass own = some m.cls) (hclink : (Cond.classLink own index ("[" ++ (FieldType.array ty).toString)).before args s = true) (hover : va_AOA ty s) (harr : (Cond.arrayClass ty).before args s = true) (hcy : s.vm.findClass (FieldType.array ty).toString = some cy)
    (hK : va_K D cl tys s) (hP : va_P D cl (X ++ va_pl L f) H) (hD : va_D A (X ++ va_pl L f)) (hS : va_S A H0 H locs) (hA : ∀ q, H0.size ≤ q → A q) {n k : Int32} {N' K' : Nat} {z : vp_A} (hn : ¬ n < 0) (hk : ¬ k < 0) (hN : n.toNatClampNeg = N') (hM : k.toNatClampNeg = K')
    (hb1 : N' * 4 ≤ 536870912) (hb2 : K' * componentBytes ty ≤ 536870912) (hb3 : K' ≤ 536870912) (hdf : fits ty (defaultValue ty) = true) (hdd : (defaultValue ty).isDefault = true) (hcells : cells + (1 + N') ≤ R.cells) (hslots : slots + (N' + N' * K') ≤ R.slots) (hz : ∀ c : ClassId, Jvm.Free.Multi.innerC c K' (defaultValue ty) = vp_cell c z) (hdg : decode cc pc = .ok (.multianewarray index 2, 4))
    (kk : ∀ (q : Nat) (r : Nat → Nat) (cA : ClassId) (H1 : Heap), (∀ i j : Nat, i < N' → j < N' → r i = r j → i = j) → (∀ i : Nat, i < N' → r i ∉ L) → va_K D cl (tys ++ [(cA, .array ty)]) s →
      va_P D cl ((X ++ [(q, .inl (cA, N', .inr (.inr (.inr (.inr (fun i => if i < N' then some (r i) else none))))))]) ++ va_pl (L ++ (List.range N').map r) (vr_up f ((List.range N').map r) (.inl (cy, z)))) H1 → va_D A ((X ++ [(q, .inl (cA, N', .inr (.inr (.inr (.inr (fun i => if i < N' then some (r i) else none))))))]) ++ va_pl (L ++ (List.range N').map r) (vr_up f ((List.range N').map r) (.inl (cy, z)))) → va_S A H0 H1 locs →
      W p l e R s m args below meth c H1 locs (cells + 1 + N') (slots + N' + N' * K') Q (F0 m (pc + 4) ls (.ref q :: rest))) : W p l e R s m args below meth c H locs cells slots Q (F0 m pc ls (.int k :: .int n :: rest)) := by
  subst hN
  subst hM
  intro T hT Xs
  obtain ⟨vm₁, cA, comp, -, fA, fC, hO, -, X', step⟩ := Xs.multianewarray2F hexec hown hclink (va_AOA.use hover) harr (g := F0 m pc ls (.int k :: .int n :: rest)) rfl (by rw [hb]; exact hdg) rfl hn hk hb1 hb2 hb3 hdf hdd hcells hslots
  have ec : some cy = some comp := hcy.symm.trans fC
  cases ec
  generalize hF : Jvm.Free.Multi.fill (T.setVm vm₁) cA cy n.toNatClampNeg k.toNatClampNeg (defaultValue ty) n.toNatClampNeg = F at X' step
  have hTh : (T.setVm vm₁).heap = H := hT
  obtain ⟨f1, f2, -, -⟩ := Jvm.Free.Multi.fill_facts (T.setVm vm₁) cA cy n.toNatClampNeg k.toNatClampNeg (defaultValue ty) n.toNatClampNeg
  rw [hF, hTh] at f1 f2
  have hold : ∀ x : Nat, x < H.size → F.heap[x]? = H[x]? := fun x hx => by
    have := Jvm.Free.Multi.fill_old (T.setVm vm₁) cA cy n.toNatClampNeg k.toNatClampNeg (defaultValue ty) (a := x) (by rw [hTh]; exact hx) n.toNatClampNeg
    rw [hF, hTh] at this
    exact this
  have hrow : ∀ j : Nat, j < n.toNatClampNeg → F.heap[H.size + 1 + j]? = some (vp_cell cy z) := fun j hj => by
    have := Jvm.Free.Multi.fill_inner (T.setVm vm₁) cA cy n.toNatClampNeg k.toNatClampNeg (defaultValue ty) n.toNatClampNeg j hj
    rw [hF, hTh, hz] at this
    exact this
  have hout : Jvm.Free.Multi.outerC cA n.toNatClampNeg H.size n.toNatClampNeg = vp_cell cA (n.toNatClampNeg, .inr (.inr (.inr (.inr (fun i => if i < n.toNatClampNeg then some (H.size + 1 + i) else none))))) := by
    rw [vp_cell_q]
    exact vr_outer cA n.toNatClampNeg H.size n.toNatClampNeg
  rw [hout] at f2
  have hlt : ∀ a, a ∈ L → a < H.size := fun a ha => by
    obtain ⟨k9, hk9⟩ := va_pl_get (X := X) (f := f) ha
    exact (hP k9 _ hk9).lt
  have hnl : ∀ i : Nat, i < n.toNatClampNeg → H.size + 1 + i ∉ L := fun i _ h => by
    have := hlt _ h
    omega
  have hnm : ∀ a, a ∈ (List.range n.toNatClampNeg).map (fun i => H.size + 1 + i) → a ∉ L := fun a ha h => by
    obtain ⟨i, -, rfl⟩ := List.mem_map.mp ha
    have := hlt _ h
    omega
  have hP0 : va_P D cl (X ++ va_pl L f) F.heap := hP.kept (fun k9 x hx => hold x.1 ((hP k9 x hx).lt))
  have hP1 : va_P D cl ((X ++ va_pl L f) ++ [(H.size, .inl (cA, n.toNatClampNeg, .inr (.inr (.inr (.inr (fun i => if i < n.toNatClampNeg then some (H.size + 1 + i) else none))))))]) F.heap := hP0.app (fun k9 x hx => by
    have h0 : k9 < 1 := (List.getElem?_eq_some_iff.mp hx).1
    rw [show k9 = 0 by omega] at hx
    cases hx
    exact f2)
  have hP2 : va_P D cl (((X ++ va_pl L f) ++ [(H.size, .inl (cA, n.toNatClampNeg, .inr (.inr (.inr (.inr (fun i => if i < n.toNatClampNeg then some (H.size + 1 + i) else none))))))]) ++ ((List.range n.toNatClampNeg).map (fun i => H.size + 1 + i)).map (fun a => (a, .inl (cy, z)))) F.heap := hP1.app (fun k9 x hx => by
    obtain ⟨a, ha, rfl⟩ := List.mem_map.mp (List.mem_of_getElem? hx)
    obtain ⟨i, hi, rfl⟩ := List.mem_map.mp ha
    exact hrow i (List.mem_range.mp hi))
  have hD2 : va_D A (((X ++ va_pl L f) ++ [(H.size, .inl (cA, n.toNatClampNeg, .inr (.inr (.inr (.inr (fun i => if i < n.toNatClampNeg then some (H.size + 1 + i) else none))))))]) ++ ((List.range n.toNatClampNeg).map (fun i => H.size + 1 + i)).map (fun a => (a, .inl (cy, z)))) := by
    have hD1 := hD.push (e := .inl (cA, n.toNatClampNeg, .inr (.inr (.inr (.inr (fun i => if i < n.toNatClampNeg then some (H.size + 1 + i) else none)))))) hP rfl (hA _ hS.1)
    generalize hW1 : (X ++ va_pl L f) ++ [(H.size, .inl (cA, n.toNatClampNeg, .inr (.inr (.inr (.inr (fun i => if i < n.toNatClampNeg then some (H.size + 1 + i) else none))))))] = W1 at hD1 hP1 ⊢
    have hle : ∀ (k9 : Nat) (x : Nat × va_E), W1[k9]? = some x → x.1 ≤ H.size := fun k9 x hx => by
      rw [← hW1] at hx
      by_cases hl : k9 < (X ++ va_pl L f).length
      · rw [List.getElem?_append_left hl] at hx
        exact Nat.le_of_lt ((hP k9 x hx).lt)
      · rw [List.getElem?_append_right (by omega)] at hx
        have h0 : k9 - (X ++ va_pl L f).length < 1 := (List.getElem?_eq_some_iff.mp hx).1
        rw [show k9 - (X ++ va_pl L f).length = 0 by omega] at hx
        cases hx
        exact Nat.le_refl _
    have hr : ∀ (k9 : Nat) (x : Nat × va_E), (((List.range n.toNatClampNeg).map (fun i => H.size + 1 + i)).map (fun a => ((a, .inl (cy, z)) : Nat × va_E)))[k9]? = some x → x.1 = H.size + 1 + k9 := fun k9 x hx => by
      rw [List.getElem?_map, List.getElem?_map] at hx
      by_cases h9 : k9 < n.toNatClampNeg
      · rw [List.getElem?_range h9] at hx
        cases hx
        rfl
      · have hn0 : (List.range n.toNatClampNeg)[k9]? = none := List.getElem?_eq_none (by rw [List.length_range]; omega)
        rw [hn0] at hx
        cases hx
    refine ⟨fun i j x y hi hj hxy => ?_, fun k9 x hx => ?_⟩
    · by_cases h1 : i < W1.length <;> by_cases h2 : j < W1.length
      · rw [List.getElem?_append_left h1] at hi
        rw [List.getElem?_append_left h2] at hj
        exact hD1.1 i j x y hi hj hxy
      · rw [List.getElem?_append_left h1] at hi
        rw [List.getElem?_append_right (by omega)] at hj
        have := hle _ _ hi
        have := hr _ _ hj
        omega
      · rw [List.getElem?_append_right (by omega)] at hi
        rw [List.getElem?_append_left h2] at hj
        have := hle _ _ hj
        have := hr _ _ hi
        omega
      · rw [List.getElem?_append_right (by omega)] at hi hj
        have := hr _ _ hi
        have := hr _ _ hj
        omega
    · by_cases h1 : k9 < W1.length
      · rw [List.getElem?_append_left h1] at hx
        exact hD1.2 k9 x hx
      · rw [List.getElem?_append_right (by omega)] at hx
        have := hr _ _ hx
        exact hA _ (by have := hS.1; omega)
  have hAr : ArrOfT s cA (.array ty) := fun N9 z9 => by
    obtain ⟨-, k9, hk9, cm9, hkk9⟩ := (hO 0 0 0).1
    exact ⟨(fun q hq => by cases hq), k9, hk9, cm9, hkk9⟩
  have hK2 : va_K D cl (tys ++ [(cA, .array ty)]) s := ⟨hK.1, fun k9 x hx => by
    by_cases hl : k9 < tys.length
    · rw [List.getElem?_append_left hl] at hx
      exact hK.2 k9 x hx
    · rw [List.getElem?_append_right (by omega)] at hx
      have h0 : k9 - tys.length < 1 := (List.getElem?_eq_some_iff.mp hx).1
      rw [show k9 - tys.length = 0 by omega] at hx
      cases hx
      exact ⟨hAr, fA⟩⟩
  obtain ⟨t, a1, b1⟩ := kk H.size (fun i => H.size + 1 + i) cA F.heap (fun i j _ _ h => by have h9 : H.size + 1 + i = H.size + 1 + j := h; omega) hnl hK2 (by rw [← vr_rows hnm]; exact vr_lay hP2) (by rw [← vr_rows hnm]; exact vr_layD hD2) ⟨by rw [f1]; have := hS.1; omega, fun x h1 h2 => (hold x (Nat.lt_of_lt_of_le h1 hS.1)).trans (hS.2.1 x h1 h2), hS.2.2⟩ F rfl X'
  refine ⟨t, step t ?_, b1⟩
  have e : T.heap.size = H.size := by rw [hT]
  rw [e]
  exact a1
end VGM
/-! ===== BEGIN printed: names, fields, word lists, decode rows ===== -/
def RX0 : String := "PrinterHouse$Canvas"
def TX0 : u_T := fun k => match k with
  | 0 => ("PrinterHouse$Canvas", "dots", "[I", true)
  | 1 => ("PrinterHouse$Canvas", "line", "[I", true)
  | 2 => ("PrinterHouse$Canvas", "marks", "I", false)
  | 3 => ("PrinterHouse$Canvas", "made", "I", false)
  | 4 => ("PrinterHouse$Canvas", "covered", "I", false)
  | 5 => ("PrinterHouse$Canvas", "isMuch", "Z", false)
  | 6 => ("PrinterHouse$Canvas", "fromX", "I", false)
  | 7 => ("PrinterHouse$Canvas", "toX", "I", false)
  | 8 => ("PrinterHouse$Canvas", "fromY", "I", false)
  | 9 => ("PrinterHouse$Canvas", "toY", "I", false)
  | 10 => ("PrinterHouse$Canvas", "tile", "LPrinterHouse$Tile;", false)
  | 11 => ("PrinterHouse$Canvas", "originX", "I", false)
  | 12 => ("PrinterHouse$Canvas", "originY", "I", false)
  | 13 => ("PrinterHouse$Canvas", "sourceWhitens", "I", false)
  | _ => ("PrinterHouse$Canvas", "patternWhitens", "I", false)
def tyX0 : Nat → FieldType := fun k => match k with
  | 0 => .array .int
  | 1 => .array .int
  | 2 => .int
  | 3 => .int
  | 4 => .int
  | 5 => .boolean
  | 6 => .int
  | 7 => .int
  | 8 => .int
  | 9 => .int
  | 10 => .object "PrinterHouse$Tile"
  | 11 => .int
  | 12 => .int
  | 13 => .int
  | _ => .int
abbrev wsX00 : List Cond := u_ws RX0 TX0 15
theorem nmX0 : ∀ a, a < 15 → ∀ b, b < 15 → a ≠ b → (TX0 a).2.1 ≠ (TX0 b).2.1 := by decide +kernel
theorem tyX0_ok : ∀ k, k < 15 → parseFieldDescriptor (TX0 k).2.2.1 = some (tyX0 k) := by decide +kernel
abbrev cX0_init : ByteArray := prog_2_method_1_code
def yX0_init : MethodName := ⟨RX0, "<init>", "()V"⟩
abbrev cX0_startJob : ByteArray := prog_2_method_2_code
def yX0_startJob : MethodName := ⟨RX0, "startJob", "()V"⟩
abbrev cX0_clear : ByteArray := prog_2_method_3_code
def yX0_clear : MethodName := ⟨RX0, "clear", "()V"⟩
abbrev cX0_ink : ByteArray := prog_2_method_4_code
def yX0_ink : MethodName := ⟨RX0, "ink", "(LPrinterHouse$Tile;LPrinterHouse$Environment;)V"⟩
abbrev cX0_mark : ByteArray := prog_2_method_5_code
def yX0_mark : MethodName := ⟨RX0, "mark", "(LPrinterHouse$Sheet;IIII)Z"⟩
abbrev cX0_layBlack : ByteArray := prog_2_method_6_code
def yX0_layBlack : MethodName := ⟨RX0, "layBlack", "()V"⟩
abbrev cX0_layWord : ByteArray := prog_2_method_7_code
def yX0_layWord : MethodName := ⟨RX0, "layWord", "(II)V"⟩
abbrev cX0_layRow : ByteArray := prog_2_method_8_code
def yX0_layRow : MethodName := ⟨RX0, "layRow", "(LPrinterHouse$Raster;)V"⟩
abbrev cX0_paintRow : ByteArray := prog_2_method_9_code
def yX0_paintRow : MethodName := ⟨RX0, "paintRow", "(I)V"⟩
abbrev cX0_copyTo : ByteArray := prog_2_method_10_code
def yX0_copyTo : MethodName := ⟨RX0, "copyTo", "([ILPrinterHouse$Sheet;)V"⟩
abbrev cX0_turnWord : ByteArray := prog_2_method_11_code
def yX0_turnWord : MethodName := ⟨RX0, "turnWord", "([IIII)V"⟩
def RX1 : String := "PrinterHouse$Environment"
def TX1 : u_T := fun k => match k with
  | 0 => ("PrinterHouse$Environment", "sheet", "LPrinterHouse$Sheet;", true)
  | 1 => ("PrinterHouse$Environment", "raster", "LPrinterHouse$Raster;", true)
  | 2 => ("PrinterHouse$Environment", "pattern", "LPrinterHouse$Tile;", true)
  | 3 => ("PrinterHouse$Environment", "primary", "[I", true)
  | 4 => ("PrinterHouse$Environment", "secondary", "[I", true)
  | 5 => ("PrinterHouse$Environment", "isSecondary", "Z", false)
  | 6 => ("PrinterHouse$Environment", "copies", "I", false)
  | 7 => ("PrinterHouse$Environment", "isSkipping", "Z", false)
  | 8 => ("PrinterHouse$Environment", "ends", "I", false)
  | 9 => ("PrinterHouse$Environment", "isWrapping", "Z", false)
  | 10 => ("PrinterHouse$Environment", "sourceOpaque", "Z", false)
  | 11 => ("PrinterHouse$Environment", "patternOpaque", "Z", false)
  | 12 => ("PrinterHouse$Environment", "patternX", "I", false)
  | 13 => ("PrinterHouse$Environment", "patternY", "I", false)
  | 14 => ("PrinterHouse$Environment", "boxWide", "I", false)
  | 15 => ("PrinterHouse$Environment", "boxHigh", "I", false)
  | 16 => ("PrinterHouse$Environment", "fontId", "I", false)
  | 17 => ("PrinterHouse$Environment", "code", "I", false)
  | 18 => ("PrinterHouse$Environment", "patternNumber", "I", false)
  | 19 => ("PrinterHouse$Environment", "macroId", "I", false)
  | _ => ("PrinterHouse$Environment", "overlay", "I", false)
def tyX1 : Nat → FieldType := fun k => match k with
  | 0 => .object "PrinterHouse$Sheet"
  | 1 => .object "PrinterHouse$Raster"
  | 2 => .object "PrinterHouse$Tile"
  | 3 => .array .int
  | 4 => .array .int
  | 5 => .boolean
  | 6 => .int
  | 7 => .boolean
  | 8 => .int
  | 9 => .boolean
  | 10 => .boolean
  | 11 => .boolean
  | 12 => .int
  | 13 => .int
  | 14 => .int
  | 15 => .int
  | 16 => .int
  | 17 => .int
  | 18 => .int
  | 19 => .int
  | _ => .int
abbrev wsX10 : List Cond := u_ws RX1 TX1 21
theorem nmX1 : ∀ a, a < 21 → ∀ b, b < 21 → a ≠ b → (TX1 a).2.1 ≠ (TX1 b).2.1 := by decide +kernel
theorem tyX1_ok : ∀ k, k < 21 → parseFieldDescriptor (TX1 k).2.2.1 = some (tyX1 k) := by decide +kernel
abbrev cX1_init : ByteArray := prog_3_method_1_code
def yX1_init : MethodName := ⟨RX1, "<init>", "()V"⟩
abbrev cX1_copy : ByteArray := prog_3_method_2_code
def yX1_copy : MethodName := ⟨RX1, "copy", "(LPrinterHouse$Environment;)V"⟩
abbrev cX1_reset : ByteArray := prog_3_method_3_code
def yX1_reset : MethodName := ⟨RX1, "reset", "(II)V"⟩
abbrev cX1_wishes : ByteArray := prog_3_method_4_code
def yX1_wishes : MethodName := ⟨RX1, "wishes", "()[I"⟩
def RX2 : String := "PrinterHouse$Fonts"
def TX2 : u_T := fun k => match k with
  | 0 => ("PrinterHouse$Fonts", "shelf", "LPrinterHouse$Shelf;", true)
  | 1 => ("PrinterHouse$Fonts", "numbers", "[I", true)
  | 2 => ("PrinterHouse$Fonts", "slots", "[I", true)
  | 3 => ("PrinterHouse$Fonts", "taken", "[Z", true)
  | 4 => ("PrinterHouse$Fonts", "heads", "[I", true)
  | 5 => ("PrinterHouse$Fonts", "rows", "[I", true)
  | 6 => ("PrinterHouse$Fonts", "glyphs", "I", false)
  | 7 => ("PrinterHouse$Fonts", "asked", "[I", true)
  | 8 => ("PrinterHouse$Fonts", "answer", "I", false)
  | _ => ("PrinterHouse$Fonts", "isAnswered", "Z", false)
def tyX2 : Nat → FieldType := fun k => match k with
  | 0 => .object "PrinterHouse$Shelf"
  | 1 => .array .int
  | 2 => .array .int
  | 3 => .array .boolean
  | 4 => .array .int
  | 5 => .array .int
  | 6 => .int
  | 7 => .array .int
  | 8 => .int
  | _ => .boolean
abbrev wsX20 : List Cond := u_ws RX2 TX2 10
theorem nmX2 : ∀ a, a < 10 → ∀ b, b < 10 → a ≠ b → (TX2 a).2.1 ≠ (TX2 b).2.1 := by decide +kernel
theorem tyX2_ok : ∀ k, k < 10 → parseFieldDescriptor (TX2 k).2.2.1 = some (tyX2 k) := by decide +kernel
abbrev cX2_init : ByteArray := prog_4_method_1_code
def yX2_init : MethodName := ⟨RX2, "<init>", "()V"⟩
abbrev cX2_firstWishes : ByteArray := prog_4_method_2_code
def yX2_firstWishes : MethodName := ⟨RX2, "firstWishes", "([I)V"⟩
abbrev cX2_setHead : ByteArray := prog_4_method_3_code
def yX2_setHead : MethodName := ⟨RX2, "setHead", "(IIIIII)V"⟩
abbrev cX2_has : ByteArray := prog_4_method_4_code
def yX2_has : MethodName := ⟨RX2, "has", "(I)Z"⟩
abbrev cX2_number : ByteArray := prog_4_method_5_code
def yX2_number : MethodName := ⟨RX2, "number", "(II)I"⟩
abbrev cX2_setNumber : ByteArray := prog_4_method_6_code
def yX2_setNumber : MethodName := ⟨RX2, "setNumber", "(III)V"⟩
abbrev cX2_wishFor : ByteArray := prog_4_method_7_code
def yX2_wishFor : MethodName := ⟨RX2, "wishFor", "(I[I)Z"⟩
abbrev cX2_glyphOf : ByteArray := prog_4_method_8_code
def yX2_glyphOf : MethodName := ⟨RX2, "glyphOf", "(II)I"⟩
abbrev cX2_head : ByteArray := prog_4_method_9_code
def yX2_head : MethodName := ⟨RX2, "head", "(II)I"⟩
abbrev cX2_rowOf : ByteArray := prog_4_method_10_code
def yX2_rowOf : MethodName := ⟨RX2, "rowOf", "(II)I"⟩
abbrev cX2_send : ByteArray := prog_4_method_11_code
def yX2_send : MethodName := ⟨RX2, "send", "(ILPrinterHouse$Reading;)V"⟩
abbrev cX2_sendGlyph : ByteArray := prog_4_method_12_code
def yX2_sendGlyph : MethodName := ⟨RX2, "sendGlyph", "(IILPrinterHouse$Reading;)V"⟩
abbrev cX2_slotFor : ByteArray := prog_4_method_13_code
def yX2_slotFor : MethodName := ⟨RX2, "slotFor", "(II)I"⟩
abbrev cX2_removeGlyph : ByteArray := prog_4_method_14_code
def yX2_removeGlyph : MethodName := ⟨RX2, "removeGlyph", "(II)V"⟩
abbrev cX2_remove : ByteArray := prog_4_method_15_code
def yX2_remove : MethodName := ⟨RX2, "remove", "(I)V"⟩
abbrev cX2_removeMany : ByteArray := prog_4_method_16_code
def yX2_removeMany : MethodName := ⟨RX2, "removeMany", "(Z)V"⟩
abbrev cX2_inUse : ByteArray := prog_4_method_17_code
def yX2_inUse : MethodName := ⟨RX2, "inUse", "([I)I"⟩
abbrev cX2_choose : ByteArray := prog_4_method_18_code
def yX2_choose : MethodName := ⟨RX2, "choose", "()I"⟩
abbrev cX2_alike : ByteArray := prog_4_method_19_code
def yX2_alike : MethodName := ⟨RX2, "alike", "(III)I"⟩
abbrev cX2_nearest : ByteArray := prog_4_method_20_code
def yX2_nearest : MethodName := ⟨RX2, "nearest", "(II)I"⟩
def RX3 : String := "PrinterHouse$Pictures"
def TX3 : u_T := fun k => match k with
  | 0 => ("PrinterHouse$Pictures", "sheaf", "LPrinterHouse$Sheaf;", true)
  | 1 => ("PrinterHouse$Pictures", "bytes", "[B", false)
  | 2 => ("PrinterHouse$Pictures", "start", "I", false)
  | 3 => ("PrinterHouse$Pictures", "size", "I", false)
  | 4 => ("PrinterHouse$Pictures", "fault", "I", false)
  | 5 => ("PrinterHouse$Pictures", "faultPlace", "I", false)
  | 6 => ("PrinterHouse$Pictures", "lowestFirst", "Z", false)
  | 7 => ("PrinterHouse$Pictures", "seen", "[J", true)
  | 8 => ("PrinterHouse$Pictures", "directories", "I", false)
  | 9 => ("PrinterHouse$Pictures", "wide", "J", false)
  | 10 => ("PrinterHouse$Pictures", "high", "J", false)
  | 11 => ("PrinterHouse$Pictures", "code", "J", false)
  | 12 => ("PrinterHouse$Pictures", "colours", "J", false)
  | 13 => ("PrinterHouse$Pictures", "bitOrder", "J", false)
  | 14 => ("PrinterHouse$Pictures", "stripRows", "J", false)
  | 15 => ("PrinterHouse$Pictures", "placesEntry", "J", false)
  | 16 => ("PrinterHouse$Pictures", "lengthsEntry", "J", false)
  | 17 => ("PrinterHouse$Pictures", "strip", "[B", true)
  | 18 => ("PrinterHouse$Pictures", "bit", "I", false)
  | 19 => ("PrinterHouse$Pictures", "bitEnd", "I", false)
  | _ => ("PrinterHouse$Pictures", "runs", "[S", true)
def tyX3 : Nat → FieldType := fun k => match k with
  | 0 => .object "PrinterHouse$Sheaf"
  | 1 => .array .byte
  | 2 => .int
  | 3 => .int
  | 4 => .int
  | 5 => .int
  | 6 => .boolean
  | 7 => .array .long
  | 8 => .int
  | 9 => .long
  | 10 => .long
  | 11 => .long
  | 12 => .long
  | 13 => .long
  | 14 => .long
  | 15 => .long
  | 16 => .long
  | 17 => .array .byte
  | 18 => .int
  | 19 => .int
  | _ => .array .short
abbrev wsX30 : List Cond := u_ws RX3 TX3 21
theorem nmX3 : ∀ a, a < 21 → ∀ b, b < 21 → a ≠ b → (TX3 a).2.1 ≠ (TX3 b).2.1 := by decide +kernel
theorem tyX3_ok : ∀ k, k < 21 → parseFieldDescriptor (TX3 k).2.2.1 = some (tyX3 k) := by decide +kernel
abbrev cX3_init : ByteArray := prog_5_method_1_code
def yX3_init : MethodName := ⟨RX3, "<init>", "(LPrinterHouse$Sheaf;)V"⟩
abbrev cX3_read : ByteArray := prog_5_method_2_code
def yX3_read : MethodName := ⟨RX3, "read", "([BII)V"⟩
abbrev cX3_fail : ByteArray := prog_5_method_3_code
def yX3_fail : MethodName := ⟨RX3, "fail", "(IJ)V"⟩
abbrev cX3_byteAt : ByteArray := prog_5_method_4_code
def yX3_byteAt : MethodName := ⟨RX3, "byteAt", "(J)I"⟩
abbrev cX3_number : ByteArray := prog_5_method_5_code
def yX3_number : MethodName := ⟨RX3, "number", "(JI)J"⟩
abbrev cX3_readHeader : ByteArray := prog_5_method_6_code
def yX3_readHeader : MethodName := ⟨RX3, "readHeader", "()V"⟩
abbrev cX3_readDirectory : ByteArray := prog_5_method_7_code
def yX3_readDirectory : MethodName := ⟨RX3, "readDirectory", "(J)J"⟩
abbrev cX3_isDirectory : ByteArray := prog_5_method_8_code
def yX3_isDirectory : MethodName := ⟨RX3, "isDirectory", "(JI)Z"⟩
abbrev cX3_startEntries : ByteArray := prog_5_method_9_code
def yX3_startEntries : MethodName := ⟨RX3, "startEntries", "()V"⟩
abbrev cX3_readEntry : ByteArray := prog_5_method_10_code
def yX3_readEntry : MethodName := ⟨RX3, "readEntry", "(J)V"⟩
abbrev cX3_isOfOne : ByteArray := prog_5_method_11_code
def yX3_isOfOne : MethodName := ⟨RX3, "isOfOne", "(I)Z"⟩
abbrev cX3_tell : ByteArray := prog_5_method_12_code
def yX3_tell : MethodName := ⟨RX3, "tell", "(IJ)Z"⟩
abbrev cX3_checkEntries : ByteArray := prog_5_method_13_code
def yX3_checkEntries : MethodName := ⟨RX3, "checkEntries", "(J)V"⟩
abbrev cX3_strips : ByteArray := prog_5_method_14_code
def yX3_strips : MethodName := ⟨RX3, "strips", "()J"⟩
abbrev cX3_isList : ByteArray := prog_5_method_15_code
def yX3_isList : MethodName := ⟨RX3, "isList", "(J)Z"⟩
abbrev cX3_listed : ByteArray := prog_5_method_16_code
def yX3_listed : MethodName := ⟨RX3, "listed", "(JI)J"⟩
abbrev cX3_readStrips : ByteArray := prog_5_method_17_code
def yX3_readStrips : MethodName := ⟨RX3, "readStrips", "()V"⟩
abbrev cX3_invert : ByteArray := prog_5_method_18_code
def yX3_invert : MethodName := ⟨RX3, "invert", "([I)V"⟩
abbrev cX3_openStrip : ByteArray := prog_5_method_19_code
def yX3_openStrip : MethodName := ⟨RX3, "openStrip", "(II)V"⟩
abbrev cX3_peek : ByteArray := prog_5_method_20_code
def yX3_peek : MethodName := ⟨RX3, "peek", "(I)I"⟩
abbrev cX3_skipBits : ByteArray := prog_5_method_21_code
def yX3_skipBits : MethodName := ⟨RX3, "skipBits", "(I)Z"⟩
abbrev cX3_readMode : ByteArray := prog_5_method_22_code
def yX3_readMode : MethodName := ⟨RX3, "readMode", "()I"⟩
abbrev cX3_readRun : ByteArray := prog_5_method_23_code
def yX3_readRun : MethodName := ⟨RX3, "readRun", "(I)I"⟩
abbrev cX3_readRow : ByteArray := prog_5_method_24_code
def yX3_readRow : MethodName := ⟨RX3, "readRow", "([III)Z"⟩
def RX4 : String := "PrinterHouse$Raster"
def TX4 : u_T := fun k => match k with
  | 0 => ("PrinterHouse$Raster", "scale", "I", false)
  | 1 => ("PrinterHouse$Raster", "packing", "I", false)
  | 2 => ("PrinterHouse$Raster", "wide", "I", false)
  | 3 => ("PrinterHouse$Raster", "high", "I", false)
  | 4 => ("PrinterHouse$Raster", "isOn", "Z", false)
  | 5 => ("PrinterHouse$Raster", "start", "I", false)
  | 6 => ("PrinterHouse$Raster", "rows", "I", false)
  | _ => ("PrinterHouse$Raster", "row", "[I", true)
def tyX4 : Nat → FieldType := fun k => match k with
  | 0 => .int
  | 1 => .int
  | 2 => .int
  | 3 => .int
  | 4 => .boolean
  | 5 => .int
  | 6 => .int
  | _ => .array .int
abbrev wsX40 : List Cond := u_ws RX4 TX4 8
theorem nmX4 : ∀ a, a < 8 → ∀ b, b < 8 → a ≠ b → (TX4 a).2.1 ≠ (TX4 b).2.1 := by decide +kernel
theorem tyX4_ok : ∀ k, k < 8 → parseFieldDescriptor (TX4 k).2.2.1 = some (tyX4 k) := by decide +kernel
abbrev cX4_init : ByteArray := prog_6_method_1_code
def yX4_init : MethodName := ⟨RX4, "<init>", "()V"⟩
abbrev cX4_copy : ByteArray := prog_6_method_2_code
def yX4_copy : MethodName := ⟨RX4, "copy", "(LPrinterHouse$Raster;)V"⟩
abbrev cX4_reset : ByteArray := prog_6_method_3_code
def yX4_reset : MethodName := ⟨RX4, "reset", "()V"⟩
abbrev cX4_begin : ByteArray := prog_6_method_4_code
def yX4_begin : MethodName := ⟨RX4, "begin", "(I)V"⟩
abbrev cX4_end : ByteArray := prog_6_method_5_code
def yX4_end : MethodName := ⟨RX4, "end", "(Z)V"⟩
abbrev cX4_clearRow : ByteArray := prog_6_method_6_code
def yX4_clearRow : MethodName := ⟨RX4, "clearRow", "()V"⟩
abbrev cX4_isFull : ByteArray := prog_6_method_7_code
def yX4_isFull : MethodName := ⟨RX4, "isFull", "()Z"⟩
abbrev cX4_dotsInRow : ByteArray := prog_6_method_8_code
def yX4_dotsInRow : MethodName := ⟨RX4, "dotsInRow", "()I"⟩
abbrev cX4_put : ByteArray := prog_6_method_9_code
def yX4_put : MethodName := ⟨RX4, "put", "(III)V"⟩
abbrev cX4_unpack : ByteArray := prog_6_method_10_code
def yX4_unpack : MethodName := ⟨RX4, "unpack", "(LPrinterHouse$Reading;)V"⟩
abbrev cX4_unpackPairs : ByteArray := prog_6_method_11_code
def yX4_unpackPairs : MethodName := ⟨RX4, "unpackPairs", "(LPrinterHouse$Reading;)V"⟩
abbrev cX4_unpackMixed : ByteArray := prog_6_method_12_code
def yX4_unpackMixed : MethodName := ⟨RX4, "unpackMixed", "(LPrinterHouse$Reading;)V"⟩
abbrev cX4_unpackChanges : ByteArray := prog_6_method_13_code
def yX4_unpackChanges : MethodName := ⟨RX4, "unpackChanges", "(LPrinterHouse$Reading;)V"⟩
def RX5 : String := "PrinterHouse$Reading"
def TX5 : u_T := fun k => match k with
  | 0 => ("PrinterHouse$Reading", "bytes", "[B", false)
  | 1 => ("PrinterHouse$Reading", "at", "I", false)
  | 2 => ("PrinterHouse$Reading", "end", "I", false)
  | 3 => ("PrinterHouse$Reading", "kind", "I", false)
  | 4 => ("PrinterHouse$Reading", "group", "I", false)
  | 5 => ("PrinterHouse$Reading", "letter", "I", false)
  | 6 => ("PrinterHouse$Reading", "closing", "Z", false)
  | 7 => ("PrinterHouse$Reading", "signed", "Z", false)
  | 8 => ("PrinterHouse$Reading", "negative", "Z", false)
  | 9 => ("PrinterHouse$Reading", "whole", "I", false)
  | 10 => ("PrinterHouse$Reading", "behindPoint", "I", false)
  | 11 => ("PrinterHouse$Reading", "dataFrom", "I", false)
  | _ => ("PrinterHouse$Reading", "dataSize", "I", false)
def tyX5 : Nat → FieldType := fun k => match k with
  | 0 => .array .byte
  | 1 => .int
  | 2 => .int
  | 3 => .int
  | 4 => .int
  | 5 => .int
  | 6 => .boolean
  | 7 => .boolean
  | 8 => .boolean
  | 9 => .int
  | 10 => .int
  | 11 => .int
  | _ => .int
abbrev wsX50 : List Cond := u_ws RX5 TX5 13
theorem nmX5 : ∀ a, a < 13 → ∀ b, b < 13 → a ≠ b → (TX5 a).2.1 ≠ (TX5 b).2.1 := by decide +kernel
theorem tyX5_ok : ∀ k, k < 13 → parseFieldDescriptor (TX5 k).2.2.1 = some (tyX5 k) := by decide +kernel
abbrev cX5_init : ByteArray := prog_7_method_1_code
def yX5_init : MethodName := ⟨RX5, "<init>", "()V"⟩
abbrev cX5_open : ByteArray := prog_7_method_2_code
def yX5_open : MethodName := ⟨RX5, "open", "([BII)V"⟩
abbrev cX5_hasMore : ByteArray := prog_7_method_3_code
def yX5_hasMore : MethodName := ⟨RX5, "hasMore", "()Z"⟩
abbrev cX5_byteAt : ByteArray := prog_7_method_4_code
def yX5_byteAt : MethodName := ⟨RX5, "byteAt", "(I)I"⟩
abbrev cX5_next : ByteArray := prog_7_method_5_code
def yX5_next : MethodName := ⟨RX5, "next", "()I"⟩
abbrev cX5_isDigit : ByteArray := prog_7_method_6_code
def yX5_isDigit : MethodName := ⟨RX5, "isDigit", "(I)Z"⟩
abbrev cX5_readValue : ByteArray := prog_7_method_7_code
def yX5_readValue : MethodName := ⟨RX5, "readValue", "()I"⟩
abbrev cX5_n : ByteArray := prog_7_method_8_code
def yX5_n : MethodName := ⟨RX5, "n", "()I"⟩
abbrev cX5_exact : ByteArray := prog_7_method_9_code
def yX5_exact : MethodName := ⟨RX5, "exact", "()J"⟩
abbrev cX5_units : ByteArray := prog_7_method_10_code
def yX5_units : MethodName := ⟨RX5, "units", "(I)J"⟩
abbrev cX5_dataByte : ByteArray := prog_7_method_11_code
def yX5_dataByte : MethodName := ⟨RX5, "dataByte", "(I)I"⟩
abbrev cX5_dataTwo : ByteArray := prog_7_method_12_code
def yX5_dataTwo : MethodName := ⟨RX5, "dataTwo", "(I)I"⟩
def RX6 : String := "PrinterHouse$Sheaf"
def TX6 : u_T := fun k => match k with
  | 0 => ("PrinterHouse$Sheaf", "bytes", "[B", true)
  | 1 => ("PrinterHouse$Sheaf", "size", "I", false)
  | 2 => ("PrinterHouse$Sheaf", "pages", "I", false)
  | 3 => ("PrinterHouse$Sheaf", "isMuch", "Z", false)
  | 4 => ("PrinterHouse$Sheaf", "wides", "[I", true)
  | 5 => ("PrinterHouse$Sheaf", "highs", "[I", true)
  | 6 => ("PrinterHouse$Sheaf", "dots", "[[I", true)
  | 7 => ("PrinterHouse$Sheaf", "link", "I", false)
  | 8 => ("PrinterHouse$Sheaf", "waiting", "I", false)
  | _ => ("PrinterHouse$Sheaf", "waitingBits", "I", false)
def tyX6 : Nat → FieldType := fun k => match k with
  | 0 => .array .byte
  | 1 => .int
  | 2 => .int
  | 3 => .boolean
  | 4 => .array .int
  | 5 => .array .int
  | 6 => .array (.array .int)
  | 7 => .int
  | 8 => .int
  | _ => .int
abbrev wsX60 : List Cond := u_ws RX6 TX6 10
theorem nmX6 : ∀ a, a < 10 → ∀ b, b < 10 → a ≠ b → (TX6 a).2.1 ≠ (TX6 b).2.1 := by decide +kernel
theorem tyX6_ok : ∀ k, k < 10 → parseFieldDescriptor (TX6 k).2.2.1 = some (tyX6 k) := by decide +kernel
abbrev cX6_init : ByteArray := prog_8_method_1_code
def yX6_init : MethodName := ⟨RX6, "<init>", "()V"⟩
abbrev cX6_clear : ByteArray := prog_8_method_2_code
def yX6_clear : MethodName := ⟨RX6, "clear", "()V"⟩
abbrev cX6_hasPage : ByteArray := prog_8_method_3_code
def yX6_hasPage : MethodName := ⟨RX6, "hasPage", "(I)Z"⟩
abbrev cX6_hasRow : ByteArray := prog_8_method_4_code
def yX6_hasRow : MethodName := ⟨RX6, "hasRow", "(II)Z"⟩
abbrev cX6_byteAt : ByteArray := prog_8_method_5_code
def yX6_byteAt : MethodName := ⟨RX6, "byteAt", "(I)I"⟩
abbrev cX6_sumOfBytes : ByteArray := prog_8_method_6_code
def yX6_sumOfBytes : MethodName := ⟨RX6, "sumOfBytes", "()I"⟩
abbrev cX6_blackDots : ByteArray := prog_8_method_7_code
def yX6_blackDots : MethodName := ⟨RX6, "blackDots", "(II)I"⟩
abbrev cX6_nextPage : ByteArray := prog_8_method_8_code
def yX6_nextPage : MethodName := ⟨RX6, "nextPage", "()[I"⟩
abbrev cX6_come : ByteArray := prog_8_method_9_code
def yX6_come : MethodName := ⟨RX6, "come", "(II)V"⟩
abbrev cX6_writeDirectory : ByteArray := prog_8_method_10_code
def yX6_writeDirectory : MethodName := ⟨RX6, "writeDirectory", "(IIII)V"⟩
abbrev cX6_putEntry : ByteArray := prog_8_method_11_code
def yX6_putEntry : MethodName := ⟨RX6, "putEntry", "(III)V"⟩
abbrev cX6_putNumber : ByteArray := prog_8_method_12_code
def yX6_putNumber : MethodName := ⟨RX6, "putNumber", "(II)V"⟩
abbrev cX6_setNumber : ByteArray := prog_8_method_13_code
def yX6_setNumber : MethodName := ⟨RX6, "setNumber", "(II)V"⟩
abbrev cX6_putByte : ByteArray := prog_8_method_14_code
def yX6_putByte : MethodName := ⟨RX6, "putByte", "(I)V"⟩
abbrev cX6_putBits : ByteArray := prog_8_method_15_code
def yX6_putBits : MethodName := ⟨RX6, "putBits", "(II)V"⟩
abbrev cX6_putRun : ByteArray := prog_8_method_16_code
def yX6_putRun : MethodName := ⟨RX6, "putRun", "(II)V"⟩
abbrev cX6_writeRow : ByteArray := prog_8_method_17_code
def yX6_writeRow : MethodName := ⟨RX6, "writeRow", "([III)V"⟩
def RX7 : String := "PrinterHouse$Sheet"
def TX7 : u_T := fun k => match k with
  | 0 => ("PrinterHouse$Sheet", "format", "I", false)
  | 1 => ("PrinterHouse$Sheet", "orientation", "I", false)
  | 2 => ("PrinterHouse$Sheet", "left", "I", false)
  | 3 => ("PrinterHouse$Sheet", "right", "I", false)
  | 4 => ("PrinterHouse$Sheet", "top", "I", false)
  | 5 => ("PrinterHouse$Sheet", "bottom", "I", false)
  | 6 => ("PrinterHouse$Sheet", "x", "I", false)
  | 7 => ("PrinterHouse$Sheet", "y", "I", false)
  | 8 => ("PrinterHouse$Sheet", "vmi", "I", false)
  | 9 => ("PrinterHouse$Sheet", "hmi", "I", false)
  | 10 => ("PrinterHouse$Sheet", "back", "I", false)
  | 11 => ("PrinterHouse$Sheet", "kept", "I", false)
  | _ => ("PrinterHouse$Sheet", "places", "[I", true)
def tyX7 : Nat → FieldType := fun k => match k with
  | 0 => .int
  | 1 => .int
  | 2 => .int
  | 3 => .int
  | 4 => .int
  | 5 => .int
  | 6 => .int
  | 7 => .int
  | 8 => .int
  | 9 => .int
  | 10 => .int
  | 11 => .int
  | _ => .array .int
abbrev wsX70 : List Cond := u_ws RX7 TX7 13
theorem nmX7 : ∀ a, a < 13 → ∀ b, b < 13 → a ≠ b → (TX7 a).2.1 ≠ (TX7 b).2.1 := by decide +kernel
theorem tyX7_ok : ∀ k, k < 13 → parseFieldDescriptor (TX7 k).2.2.1 = some (tyX7 k) := by decide +kernel
abbrev cX7_init : ByteArray := prog_9_method_1_code
def yX7_init : MethodName := ⟨RX7, "<init>", "()V"⟩
abbrev cX7_copy : ByteArray := prog_9_method_2_code
def yX7_copy : MethodName := ⟨RX7, "copy", "(LPrinterHouse$Sheet;)V"⟩
abbrev cX7_reset : ByteArray := prog_9_method_3_code
def yX7_reset : MethodName := ⟨RX7, "reset", "()V"⟩
abbrev cX7_turn : ByteArray := prog_9_method_4_code
def yX7_turn : MethodName := ⟨RX7, "turn", "(II)V"⟩
abbrev cX7_clearMargins : ByteArray := prog_9_method_5_code
def yX7_clearMargins : MethodName := ⟨RX7, "clearMargins", "()V"⟩
abbrev cX7_pageWide : ByteArray := prog_9_method_6_code
def yX7_pageWide : MethodName := ⟨RX7, "pageWide", "()I"⟩
abbrev cX7_pageHigh : ByteArray := prog_9_method_7_code
def yX7_pageHigh : MethodName := ⟨RX7, "pageHigh", "()I"⟩
abbrev cX7_dotsAcross : ByteArray := prog_9_method_8_code
def yX7_dotsAcross : MethodName := ⟨RX7, "dotsAcross", "()I"⟩
abbrev cX7_dotsDown : ByteArray := prog_9_method_9_code
def yX7_dotsDown : MethodName := ⟨RX7, "dotsDown", "()I"⟩
abbrev cX7_across : ByteArray := prog_9_method_10_code
def yX7_across : MethodName := ⟨RX7, "across", "()I"⟩
abbrev cX7_down : ByteArray := prog_9_method_11_code
def yX7_down : MethodName := ⟨RX7, "down", "()I"⟩
abbrev cX7_homeY : ByteArray := prog_9_method_12_code
def yX7_homeY : MethodName := ⟨RX7, "homeY", "()V"⟩
abbrev cX7_moveX : ByteArray := prog_9_method_13_code
def yX7_moveX : MethodName := ⟨RX7, "moveX", "(J)V"⟩
abbrev cX7_moveY : ByteArray := prog_9_method_14_code
def yX7_moveY : MethodName := ⟨RX7, "moveY", "(J)V"⟩
abbrev cX7_keepPlace : ByteArray := prog_9_method_15_code
def yX7_keepPlace : MethodName := ⟨RX7, "keepPlace", "()V"⟩
abbrev cX7_recallPlace : ByteArray := prog_9_method_16_code
def yX7_recallPlace : MethodName := ⟨RX7, "recallPlace", "()V"⟩
abbrev cX7_tab : ByteArray := prog_9_method_17_code
def yX7_tab : MethodName := ⟨RX7, "tab", "()V"⟩
abbrev cX7_leftMargin : ByteArray := prog_9_method_18_code
def yX7_leftMargin : MethodName := ⟨RX7, "leftMargin", "(I)V"⟩
abbrev cX7_rightMargin : ByteArray := prog_9_method_19_code
def yX7_rightMargin : MethodName := ⟨RX7, "rightMargin", "(I)V"⟩
abbrev cX7_topMargin : ByteArray := prog_9_method_20_code
def yX7_topMargin : MethodName := ⟨RX7, "topMargin", "(I)V"⟩
abbrev cX7_bottomMargin : ByteArray := prog_9_method_21_code
def yX7_bottomMargin : MethodName := ⟨RX7, "bottomMargin", "(I)V"⟩
def RX8 : String := "PrinterHouse$Shelf"
def TX8 : u_T := fun k => match k with
  | _ => ("PrinterHouse$Shelf", "sorts", "[I", true)
def tyX8 : Nat → FieldType := fun k => match k with
  | _ => .array .int
abbrev wsX80 : List Cond := u_ws RX8 TX8 1
theorem nmX8 : ∀ a, a < 1 → ∀ b, b < 1 → a ≠ b → (TX8 a).2.1 ≠ (TX8 b).2.1 := by decide +kernel
theorem tyX8_ok : ∀ k, k < 1 → parseFieldDescriptor (TX8 k).2.2.1 = some (tyX8 k) := by decide +kernel
abbrev cX8_init : ByteArray := prog_10_method_1_code
def yX8_init : MethodName := ⟨RX8, "<init>", "()V"⟩
abbrev cX8_has : ByteArray := prog_10_method_2_code
def yX8_has : MethodName := ⟨RX8, "has", "(I)Z"⟩
abbrev cX8_isTemporary : ByteArray := prog_10_method_3_code
def yX8_isTemporary : MethodName := ⟨RX8, "isTemporary", "(I)Z"⟩
abbrev cX8_put : ByteArray := prog_10_method_4_code
def yX8_put : MethodName := ⟨RX8, "put", "(I)V"⟩
abbrev cX8_remove : ByteArray := prog_10_method_5_code
def yX8_remove : MethodName := ⟨RX8, "remove", "(I)V"⟩
abbrev cX8_removeMany : ByteArray := prog_10_method_6_code
def yX8_removeMany : MethodName := ⟨RX8, "removeMany", "(Z)V"⟩
abbrev cX8_mark : ByteArray := prog_10_method_7_code
def yX8_mark : MethodName := ⟨RX8, "mark", "(IZ)V"⟩
abbrev cX8_count : ByteArray := prog_10_method_8_code
def yX8_count : MethodName := ⟨RX8, "count", "()I"⟩
def RX9 : String := "PrinterHouse$Streams"
def TX9 : u_T := fun k => match k with
  | 0 => ("PrinterHouse$Streams", "sheaf", "LPrinterHouse$Sheaf;", true)
  | 1 => ("PrinterHouse$Streams", "canvas", "LPrinterHouse$Canvas;", true)
  | 2 => ("PrinterHouse$Streams", "fonts", "LPrinterHouse$Fonts;", true)
  | 3 => ("PrinterHouse$Streams", "tileShelf", "LPrinterHouse$Shelf;", true)
  | 4 => ("PrinterHouse$Streams", "tiles", "[LPrinterHouse$Tile;", true)
  | 5 => ("PrinterHouse$Streams", "boxTile", "LPrinterHouse$Tile;", true)
  | 6 => ("PrinterHouse$Streams", "macroShelf", "LPrinterHouse$Shelf;", true)
  | 7 => ("PrinterHouse$Streams", "macroBytes", "[B", true)
  | 8 => ("PrinterHouse$Streams", "macroSizes", "[I", true)
  | 9 => ("PrinterHouse$Streams", "env", "LPrinterHouse$Environment;", true)
  | 10 => ("PrinterHouse$Streams", "beforeOverlay", "LPrinterHouse$Environment;", true)
  | 11 => ("PrinterHouse$Streams", "beforeMacro", "[LPrinterHouse$Environment;", true)
  | 12 => ("PrinterHouse$Streams", "readings", "[LPrinterHouse$Reading;", true)
  | 13 => ("PrinterHouse$Streams", "reading", "LPrinterHouse$Reading;", false)
  | 14 => ("PrinterHouse$Streams", "depth", "I", false)
  | 15 => ("PrinterHouse$Streams", "isInOverlay", "Z", false)
  | 16 => ("PrinterHouse$Streams", "gone", "I", false)
  | 17 => ("PrinterHouse$Streams", "lastStates", "[I", true)
  | _ => ("PrinterHouse$Streams", "isLastKnown", "Z", false)
def tyX9 : Nat → FieldType := fun k => match k with
  | 0 => .object "PrinterHouse$Sheaf"
  | 1 => .object "PrinterHouse$Canvas"
  | 2 => .object "PrinterHouse$Fonts"
  | 3 => .object "PrinterHouse$Shelf"
  | 4 => .array (.object "PrinterHouse$Tile")
  | 5 => .object "PrinterHouse$Tile"
  | 6 => .object "PrinterHouse$Shelf"
  | 7 => .array .byte
  | 8 => .array .int
  | 9 => .object "PrinterHouse$Environment"
  | 10 => .object "PrinterHouse$Environment"
  | 11 => .array (.object "PrinterHouse$Environment")
  | 12 => .array (.object "PrinterHouse$Reading")
  | 13 => .object "PrinterHouse$Reading"
  | 14 => .int
  | 15 => .boolean
  | 16 => .int
  | 17 => .array .int
  | _ => .boolean
abbrev wsX90 : List Cond := u_ws RX9 TX9 19
theorem nmX9 : ∀ a, a < 19 → ∀ b, b < 19 → a ≠ b → (TX9 a).2.1 ≠ (TX9 b).2.1 := by decide +kernel
theorem tyX9_ok : ∀ k, k < 19 → parseFieldDescriptor (TX9 k).2.2.1 = some (tyX9 k) := by decide +kernel
abbrev cX9_init : ByteArray := prog_11_method_1_code
def yX9_init : MethodName := ⟨RX9, "<init>", "(LPrinterHouse$Sheaf;)V"⟩
abbrev cX9_isMuch : ByteArray := prog_11_method_2_code
def yX9_isMuch : MethodName := ⟨RX9, "isMuch", "()Z"⟩
abbrev cX9_startJob : ByteArray := prog_11_method_3_code
def yX9_startJob : MethodName := ⟨RX9, "startJob", "()V"⟩
abbrev cX9_run : ByteArray := prog_11_method_4_code
def yX9_run : MethodName := ⟨RX9, "run", "([BII)V"⟩
abbrev cX9_keepStates : ByteArray := prog_11_method_5_code
def yX9_keepStates : MethodName := ⟨RX9, "keepStates", "()V"⟩
abbrev cX9_lastState : ByteArray := prog_11_method_6_code
def yX9_lastState : MethodName := ⟨RX9, "lastState", "(I)I"⟩
abbrev cX9_number : ByteArray := prog_11_method_7_code
def yX9_number : MethodName := ⟨RX9, "number", "(I)I"⟩
abbrev cX9_bytesOfMacros : ByteArray := prog_11_method_8_code
def yX9_bytesOfMacros : MethodName := ⟨RX9, "bytesOfMacros", "()I"⟩
abbrev cX9_dropAll : ByteArray := prog_11_method_9_code
def yX9_dropAll : MethodName := ⟨RX9, "dropAll", "()I"⟩
abbrev cX9_dropTemporary : ByteArray := prog_11_method_10_code
def yX9_dropTemporary : MethodName := ⟨RX9, "dropTemporary", "()V"⟩
abbrev cX9_pass : ByteArray := prog_11_method_11_code
def yX9_pass : MethodName := ⟨RX9, "pass", "(I)Z"⟩
abbrev cX9_passEach : ByteArray := prog_11_method_12_code
def yX9_passEach : MethodName := ⟨RX9, "passEach", "(I)Z"⟩
abbrev cX9_goThrough : ByteArray := prog_11_method_13_code
def yX9_goThrough : MethodName := ⟨RX9, "goThrough", "([BII)V"⟩
abbrev cX9_goMacro : ByteArray := prog_11_method_14_code
def yX9_goMacro : MethodName := ⟨RX9, "goMacro", "(I)V"⟩
abbrev cX9_callMacro : ByteArray := prog_11_method_15_code
def yX9_callMacro : MethodName := ⟨RX9, "callMacro", "(I)V"⟩
abbrev cX9_other : ByteArray := prog_11_method_16_code
def yX9_other : MethodName := ⟨RX9, "other", "(I)V"⟩
abbrev cX9_endWithReturn : ByteArray := prog_11_method_17_code
def yX9_endWithReturn : MethodName := ⟨RX9, "endWithReturn", "()V"⟩
abbrev cX9_carriageReturn : ByteArray := prog_11_method_18_code
def yX9_carriageReturn : MethodName := ⟨RX9, "carriageReturn", "()V"⟩
abbrev cX9_line : ByteArray := prog_11_method_19_code
def yX9_line : MethodName := ⟨RX9, "line", "(I)V"⟩
abbrev cX9_form : ByteArray := prog_11_method_20_code
def yX9_form : MethodName := ⟨RX9, "form", "()V"⟩
abbrev cX9_followPitch : ByteArray := prog_11_method_21_code
def yX9_followPitch : MethodName := ⟨RX9, "followPitch", "()V"⟩
abbrev cX9_beginSequence : ByteArray := prog_11_method_22_code
def yX9_beginSequence : MethodName := ⟨RX9, "beginSequence", "()V"⟩
abbrev cX9_twoBytes : ByteArray := prog_11_method_23_code
def yX9_twoBytes : MethodName := ⟨RX9, "twoBytes", "(I)V"⟩
abbrev cX9_reset : ByteArray := prog_11_method_24_code
def yX9_reset : MethodName := ⟨RX9, "reset", "()V"⟩
abbrev cX9_showAll : ByteArray := prog_11_method_25_code
def yX9_showAll : MethodName := ⟨RX9, "showAll", "()V"⟩
abbrev cX9_showData : ByteArray := prog_11_method_26_code
def yX9_showData : MethodName := ⟨RX9, "showData", "()V"⟩
abbrev cX9_readField : ByteArray := prog_11_method_27_code
def yX9_readField : MethodName := ⟨RX9, "readField", "()Z"⟩
abbrev cX9_obey : ByteArray := prog_11_method_28_code
def yX9_obey : MethodName := ⟨RX9, "obey", "()V"⟩
abbrev cX9_obeyFont : ByteArray := prog_11_method_29_code
def yX9_obeyFont : MethodName := ⟨RX9, "obeyFont", "()V"⟩
abbrev cX9_pageField : ByteArray := prog_11_method_30_code
def yX9_pageField : MethodName := ⟨RX9, "pageField", "(I)V"⟩
abbrev cX9_spacing : ByteArray := prog_11_method_31_code
def yX9_spacing : MethodName := ⟨RX9, "spacing", "(II)I"⟩
abbrev cX9_placeField : ByteArray := prog_11_method_32_code
def yX9_placeField : MethodName := ⟨RX9, "placeField", "(I)V"⟩
abbrev cX9_moveAcross : ByteArray := prog_11_method_33_code
def yX9_moveAcross : MethodName := ⟨RX9, "moveAcross", "(J)V"⟩
abbrev cX9_moveDown : ByteArray := prog_11_method_34_code
def yX9_moveDown : MethodName := ⟨RX9, "moveDown", "(JI)V"⟩
abbrev cX9_dotPlaceField : ByteArray := prog_11_method_35_code
def yX9_dotPlaceField : MethodName := ⟨RX9, "dotPlaceField", "()V"⟩
abbrev cX9_spaceField : ByteArray := prog_11_method_36_code
def yX9_spaceField : MethodName := ⟨RX9, "spaceField", "(I)V"⟩
abbrev cX9_wrapField : ByteArray := prog_11_method_37_code
def yX9_wrapField : MethodName := ⟨RX9, "wrapField", "(I)V"⟩
abbrev cX9_macroField : ByteArray := prog_11_method_38_code
def yX9_macroField : MethodName := ⟨RX9, "macroField", "(I)V"⟩
abbrev cX9_macroTask : ByteArray := prog_11_method_39_code
def yX9_macroTask : MethodName := ⟨RX9, "macroTask", "(I)V"⟩
abbrev cX9_tellMacro : ByteArray := prog_11_method_40_code
def yX9_tellMacro : MethodName := ⟨RX9, "tellMacro", "(I)V"⟩
abbrev cX9_isMacroEnd : ByteArray := prog_11_method_41_code
def yX9_isMacroEnd : MethodName := ⟨RX9, "isMacroEnd", "(I)Z"⟩
abbrev cX9_eject : ByteArray := prog_11_method_42_code
def yX9_eject : MethodName := ⟨RX9, "eject", "()V"⟩
abbrev cX9_advance : ByteArray := prog_11_method_43_code
def yX9_advance : MethodName := ⟨RX9, "advance", "(II)I"⟩
abbrev cX9_show : ByteArray := prog_11_method_44_code
def yX9_show : MethodName := ⟨RX9, "show", "(I)V"⟩
abbrev cX9_markGlyph : ByteArray := prog_11_method_45_code
def yX9_markGlyph : MethodName := ⟨RX9, "markGlyph", "(I)V"⟩
abbrev cX9_markBox : ByteArray := prog_11_method_46_code
def yX9_markBox : MethodName := ⟨RX9, "markBox", "(IIIILPrinterHouse$Tile;)V"⟩
abbrev cX9_fontField : ByteArray := prog_11_method_47_code
def yX9_fontField : MethodName := ⟨RX9, "fontField", "([II)Z"⟩
abbrev cX9_styleField : ByteArray := prog_11_method_48_code
def yX9_styleField : MethodName := ⟨RX9, "styleField", "([II)Z"⟩
abbrev cX9_wishPitch : ByteArray := prog_11_method_49_code
def yX9_wishPitch : MethodName := ⟨RX9, "wishPitch", "([I)Z"⟩
abbrev cX9_wish : ByteArray := prog_11_method_50_code
def yX9_wish : MethodName := ⟨RX9, "wish", "([III)Z"⟩
abbrev cX9_controlField : ByteArray := prog_11_method_51_code
def yX9_controlField : MethodName := ⟨RX9, "controlField", "(I)V"⟩
abbrev cX9_boxSide : ByteArray := prog_11_method_52_code
def yX9_boxSide : MethodName := ⟨RX9, "boxSide", "(I)I"⟩
abbrev cX9_box : ByteArray := prog_11_method_53_code
def yX9_box : MethodName := ⟨RX9, "box", "(I)V"⟩
abbrev cX9_fontTask : ByteArray := prog_11_method_54_code
def yX9_fontTask : MethodName := ⟨RX9, "fontTask", "(I)V"⟩
abbrev cX9_tileTask : ByteArray := prog_11_method_55_code
def yX9_tileTask : MethodName := ⟨RX9, "tileTask", "(I)V"⟩
abbrev cX9_tellTile : ByteArray := prog_11_method_56_code
def yX9_tellTile : MethodName := ⟨RX9, "tellTile", "(I)V"⟩
abbrev cX9_setTile : ByteArray := prog_11_method_57_code
def yX9_setTile : MethodName := ⟨RX9, "setTile", "(LPrinterHouse$Tile;I)Z"⟩
abbrev cX9_inkField : ByteArray := prog_11_method_58_code
def yX9_inkField : MethodName := ⟨RX9, "inkField", "(I)V"⟩
abbrev cX9_scaleField : ByteArray := prog_11_method_59_code
def yX9_scaleField : MethodName := ⟨RX9, "scaleField", "(I)V"⟩
abbrev cX9_rasterField : ByteArray := prog_11_method_60_code
def yX9_rasterField : MethodName := ⟨RX9, "rasterField", "(I)V"⟩
abbrev cX9_beginRaster : ByteArray := prog_11_method_61_code
def yX9_beginRaster : MethodName := ⟨RX9, "beginRaster", "(I)V"⟩
abbrev cX9_rowField : ByteArray := prog_11_method_62_code
def yX9_rowField : MethodName := ⟨RX9, "rowField", "(I)V"⟩
abbrev cX9_growRows : ByteArray := prog_11_method_63_code
def yX9_growRows : MethodName := ⟨RX9, "growRows", "(I)V"⟩
abbrev cX9_rasterRow : ByteArray := prog_11_method_64_code
def yX9_rasterRow : MethodName := ⟨RX9, "rasterRow", "()V"⟩
def RX10 : String := "PrinterHouse$Tile"
def TX10 : u_T := fun k => match k with
  | 0 => ("PrinterHouse$Tile", "wide", "I", false)
  | 1 => ("PrinterHouse$Tile", "high", "I", false)
  | 2 => ("PrinterHouse$Tile", "isWhite", "Z", false)
  | _ => ("PrinterHouse$Tile", "rows", "[J", true)
def tyX10 : Nat → FieldType := fun k => match k with
  | 0 => .int
  | 1 => .int
  | 2 => .boolean
  | _ => .array .long
abbrev wsX100 : List Cond := u_ws RX10 TX10 4
theorem nmX10 : ∀ a, a < 4 → ∀ b, b < 4 → a ≠ b → (TX10 a).2.1 ≠ (TX10 b).2.1 := by decide +kernel
theorem tyX10_ok : ∀ k, k < 4 → parseFieldDescriptor (TX10 k).2.2.1 = some (tyX10 k) := by decide +kernel
abbrev cX10_init : ByteArray := prog_12_method_1_code
def yX10_init : MethodName := ⟨RX10, "<init>", "()V"⟩
abbrev cX10_copy : ByteArray := prog_12_method_2_code
def yX10_copy : MethodName := ⟨RX10, "copy", "(LPrinterHouse$Tile;)V"⟩
abbrev cX10_size : ByteArray := prog_12_method_3_code
def yX10_size : MethodName := ⟨RX10, "size", "(II)V"⟩
abbrev cX10_setRow : ByteArray := prog_12_method_4_code
def yX10_setRow : MethodName := ⟨RX10, "setRow", "(II)V"⟩
abbrev cX10_solid : ByteArray := prog_12_method_5_code
def yX10_solid : MethodName := ⟨RX10, "solid", "()V"⟩
abbrev cX10_white : ByteArray := prog_12_method_6_code
def yX10_white : MethodName := ⟨RX10, "white", "()V"⟩
abbrev cX10_shade : ByteArray := prog_12_method_7_code
def yX10_shade : MethodName := ⟨RX10, "shade", "(I)V"⟩
abbrev cX10_hatch : ByteArray := prog_12_method_8_code
def yX10_hatch : MethodName := ⟨RX10, "hatch", "(I)V"⟩
abbrev cX10_isHatched : ByteArray := prog_12_method_9_code
def yX10_isHatched : MethodName := ⟨RX10, "isHatched", "(III)Z"⟩
abbrev cX10_rowAt : ByteArray := prog_12_method_10_code
def yX10_rowAt : MethodName := ⟨RX10, "rowAt", "(I)J"⟩
abbrev cX10_dotsFrom : ByteArray := prog_12_method_11_code
def yX10_dotsFrom : MethodName := ⟨RX10, "dotsFrom", "(JI)I"⟩
def RX11 : String := "PrinterHouse"
def TX11 : u_T := fun k => match k with
  | 0 => ("PrinterHouse", "tape", "[B", true)
  | 1 => ("PrinterHouse", "taped", "I", false)
  | 2 => ("PrinterHouse", "job", "[B", true)
  | 3 => ("PrinterHouse", "sorts", "[I", true)
  | 4 => ("PrinterHouse", "starts", "[I", true)
  | 5 => ("PrinterHouse", "parts", "I", false)
  | 6 => ("PrinterHouse", "sheaf", "LPrinterHouse$Sheaf;", true)
  | 7 => ("PrinterHouse", "streams", "LPrinterHouse$Streams;", true)
  | 8 => ("PrinterHouse", "pictures", "LPrinterHouse$Pictures;", true)
  | 9 => ("PrinterHouse", "faultSort", "I", false)
  | 10 => ("PrinterHouse", "faultPart", "I", false)
  | _ => ("PrinterHouse", "faultPlace", "I", false)
def tyX11 : Nat → FieldType := fun k => match k with
  | 0 => .array .byte
  | 1 => .int
  | 2 => .array .byte
  | 3 => .array .int
  | 4 => .array .int
  | 5 => .int
  | 6 => .object "PrinterHouse$Sheaf"
  | 7 => .object "PrinterHouse$Streams"
  | 8 => .object "PrinterHouse$Pictures"
  | 9 => .int
  | 10 => .int
  | _ => .int
abbrev wsX110 : List Cond := u_ws RX11 TX11 12
theorem nmX11 : ∀ a, a < 12 → ∀ b, b < 12 → a ≠ b → (TX11 a).2.1 ≠ (TX11 b).2.1 := by decide +kernel
theorem tyX11_ok : ∀ k, k < 12 → parseFieldDescriptor (TX11 k).2.2.1 = some (tyX11 k) := by decide +kernel
abbrev cX11_init : ByteArray := prog_1_method_1_code
def yX11_init : MethodName := ⟨RX11, "<init>", "()V"⟩
abbrev cX11_feed : ByteArray := prog_1_method_2_code
def yX11_feed : MethodName := ⟨RX11, "feed", "(IIIII)I"⟩
abbrev cX11_feedNumber : ByteArray := prog_1_method_3_code
def yX11_feedNumber : MethodName := ⟨RX11, "feedNumber", "(I)V"⟩
abbrev cX11_cut : ByteArray := prog_1_method_4_code
def yX11_cut : MethodName := ⟨RX11, "cut", "(I)I"⟩
abbrev cX11_part : ByteArray := prog_1_method_5_code
def yX11_part : MethodName := ⟨RX11, "part", "(I)I"⟩
abbrev cX11_drop : ByteArray := prog_1_method_6_code
def yX11_drop : MethodName := ⟨RX11, "drop", "()I"⟩
abbrev cX11_print : ByteArray := prog_1_method_7_code
def yX11_print : MethodName := ⟨RX11, "print", "(I)I"⟩
abbrev cX11_fault : ByteArray := prog_1_method_8_code
def yX11_fault : MethodName := ⟨RX11, "fault", "(I)I"⟩
abbrev cX11_outs : ByteArray := prog_1_method_9_code
def yX11_outs : MethodName := ⟨RX11, "outs", "()I"⟩
abbrev cX11_out : ByteArray := prog_1_method_10_code
def yX11_out : MethodName := ⟨RX11, "out", "(I)I"⟩
abbrev cX11_sum : ByteArray := prog_1_method_11_code
def yX11_sum : MethodName := ⟨RX11, "sum", "()I"⟩
abbrev cX11_take : ByteArray := prog_1_method_12_code
def yX11_take : MethodName := ⟨RX11, "take", "()I"⟩
abbrev cX11_pages : ByteArray := prog_1_method_13_code
def yX11_pages : MethodName := ⟨RX11, "pages", "()I"⟩
abbrev cX11_width : ByteArray := prog_1_method_14_code
def yX11_width : MethodName := ⟨RX11, "width", "(I)I"⟩
abbrev cX11_height : ByteArray := prog_1_method_15_code
def yX11_height : MethodName := ⟨RX11, "height", "(I)I"⟩
abbrev cX11_dot : ByteArray := prog_1_method_16_code
def yX11_dot : MethodName := ⟨RX11, "dot", "(III)I"⟩
abbrev cX11_black : ByteArray := prog_1_method_17_code
def yX11_black : MethodName := ⟨RX11, "black", "(II)I"⟩
abbrev cX11_state : ByteArray := prog_1_method_18_code
def yX11_state : MethodName := ⟨RX11, "state", "(I)I"⟩
abbrev cX11_held : ByteArray := prog_1_method_19_code
def yX11_held : MethodName := ⟨RX11, "held", "(I)I"⟩
abbrev cX11_off : ByteArray := prog_1_method_20_code
def yX11_off : MethodName := ⟨RX11, "off", "()I"⟩
abbrev cX11_dotAt : ByteArray := prog_1_method_21_code
def yX11_dotAt : MethodName := ⟨RX11, "dotAt", "([III)I"⟩
abbrev cX11_zerosAhead : ByteArray := prog_1_method_22_code
def yX11_zerosAhead : MethodName := ⟨RX11, "zerosAhead", "(I)I"⟩
abbrev cX11_firstOther : ByteArray := prog_1_method_23_code
def yX11_firstOther : MethodName := ⟨RX11, "firstOther", "([IIIII)I"⟩
abbrev cX11_firstChange : ByteArray := prog_1_method_24_code
def yX11_firstChange : MethodName := ⟨RX11, "firstChange", "([IIIII)I"⟩
abbrev cX11_maskOf : ByteArray := prog_1_method_25_code
def yX11_maskOf : MethodName := ⟨RX11, "maskOf", "(III)I"⟩
abbrev cX11_blacken : ByteArray := prog_1_method_26_code
def yX11_blacken : MethodName := ⟨RX11, "blacken", "([IIII)V"⟩
def RX12 : String := "PrinterHouseModel"
def TX12 : u_T := fun k => match k with
  | 0 => ("PrinterHouseModel", "e", "[I", true)
  | 1 => ("PrinterHouseModel", "saved", "[I", true)
  | 2 => ("PrinterHouseModel", "fontThere", "[Z", true)
  | 3 => ("PrinterHouseModel", "fontTemporary", "[Z", true)
  | 4 => ("PrinterHouseModel", "fontNumbers", "[I", true)
  | 5 => ("PrinterHouseModel", "glyphOf", "[I", true)
  | 6 => ("PrinterHouseModel", "glyphUsed", "[Z", true)
  | 7 => ("PrinterHouseModel", "glyphNumbers", "[I", true)
  | 8 => ("PrinterHouseModel", "glyphRows", "[I", true)
  | 9 => ("PrinterHouseModel", "glyphCount", "I", false)
  | 10 => ("PrinterHouseModel", "userThere", "[Z", true)
  | 11 => ("PrinterHouseModel", "userTemporary", "[Z", true)
  | 12 => ("PrinterHouseModel", "userWide", "[I", true)
  | 13 => ("PrinterHouseModel", "userHigh", "[I", true)
  | 14 => ("PrinterHouseModel", "userRows", "[I", true)
  | 15 => ("PrinterHouseModel", "macroThere", "[Z", true)
  | 16 => ("PrinterHouseModel", "macroTemporary", "[Z", true)
  | 17 => ("PrinterHouseModel", "macroSize", "[I", true)
  | 18 => ("PrinterHouseModel", "macroBytes", "[B", true)
  | 19 => ("PrinterHouseModel", "job", "[B", true)
  | 20 => ("PrinterHouseModel", "partFrom", "[I", true)
  | 21 => ("PrinterHouseModel", "partSort", "[I", true)
  | 22 => ("PrinterHouseModel", "parts", "I", false)
  | 23 => ("PrinterHouseModel", "tape", "[B", true)
  | 24 => ("PrinterHouseModel", "tapeSize", "I", false)
  | 25 => ("PrinterHouseModel", "copies", "[B", true)
  | 26 => ("PrinterHouseModel", "source", "[B", false)
  | 27 => ("PrinterHouseModel", "pos", "I", false)
  | 28 => ("PrinterHouseModel", "end", "I", false)
  | 29 => ("PrinterHouseModel", "depth", "I", false)
  | 30 => ("PrinterHouseModel", "inMacro", "Z", false)
  | 31 => ("PrinterHouseModel", "inOverlay", "Z", false)
  | 32 => ("PrinterHouseModel", "gone", "I", false)
  | 33 => ("PrinterHouseModel", "much", "Z", false)
  | 34 => ("PrinterHouseModel", "page", "[B", true)
  | 35 => ("PrinterHouseModel", "pageMarks", "I", false)
  | 36 => ("PrinterHouseModel", "allMarks", "I", false)
  | 37 => ("PrinterHouseModel", "came", "[B", true)
  | 38 => ("PrinterHouseModel", "cameWide", "[I", true)
  | 39 => ("PrinterHouseModel", "cameHigh", "[I", true)
  | 40 => ("PrinterHouseModel", "cameCount", "I", false)
  | 41 => ("PrinterHouseModel", "out", "[B", true)
  | 42 => ("PrinterHouseModel", "outSize", "I", false)
  | 43 => ("PrinterHouseModel", "faultNumber", "I", false)
  | 44 => ("PrinterHouseModel", "faultPart", "I", false)
  | 45 => ("PrinterHouseModel", "faultPlace", "I", false)
  | 46 => ("PrinterHouseModel", "told", "[I", true)
  | 47 => ("PrinterHouseModel", "isTold", "Z", false)
  | 48 => ("PrinterHouseModel", "laid", "[I", true)
  | 49 => ("PrinterHouseModel", "covered", "J", false)
  | 50 => ("PrinterHouseModel", "candidate", "[Z", true)
  | 51 => ("PrinterHouseModel", "whole", "I", false)
  | 52 => ("PrinterHouseModel", "wasDefined", "Z", false)
  | 53 => ("PrinterHouseModel", "part10000", "J", false)
  | 54 => ("PrinterHouseModel", "isRelative", "Z", false)
  | 55 => ("PrinterHouseModel", "filled", "I", false)
  | 56 => ("PrinterHouseModel", "runBits", "[I", true)
  | 57 => ("PrinterHouseModel", "runCode", "[I", true)
  | 58 => ("PrinterHouseModel", "before", "[I", true)
  | 59 => ("PrinterHouseModel", "now", "[I", true)
  | 60 => ("PrinterHouseModel", "width", "I", false)
  | 61 => ("PrinterHouseModel", "a0", "I", false)
  | 62 => ("PrinterHouseModel", "isFirst", "Z", false)
  | 63 => ("PrinterHouseModel", "colour", "I", false)
  | 64 => ("PrinterHouseModel", "outBits", "I", false)
  | 65 => ("PrinterHouseModel", "outHeld", "I", false)
  | 66 => ("PrinterHouseModel", "lastLink", "I", false)
  | 67 => ("PrinterHouseModel", "picFrom", "I", false)
  | 68 => ("PrinterHouseModel", "picSize", "I", false)
  | 69 => ("PrinterHouseModel", "isMotorola", "Z", false)
  | 70 => ("PrinterHouseModel", "seen", "[I", true)
  | 71 => ("PrinterHouseModel", "seenCount", "I", false)
  | 72 => ("PrinterHouseModel", "entryAt", "[I", true)
  | 73 => ("PrinterHouseModel", "entryTells", "[J", true)
  | 74 => ("PrinterHouseModel", "stripAt", "[J", true)
  | 75 => ("PrinterHouseModel", "stripSize", "[J", true)
  | 76 => ("PrinterHouseModel", "codeFrom", "I", false)
  | 77 => ("PrinterHouseModel", "codeBits", "J", false)
  | 78 => ("PrinterHouseModel", "codePos", "J", false)
  | _ => ("PrinterHouseModel", "isTurned", "Z", false)
def tyX12 : Nat → FieldType := fun k => match k with
  | 0 => .array .int
  | 1 => .array .int
  | 2 => .array .boolean
  | 3 => .array .boolean
  | 4 => .array .int
  | 5 => .array .int
  | 6 => .array .boolean
  | 7 => .array .int
  | 8 => .array .int
  | 9 => .int
  | 10 => .array .boolean
  | 11 => .array .boolean
  | 12 => .array .int
  | 13 => .array .int
  | 14 => .array .int
  | 15 => .array .boolean
  | 16 => .array .boolean
  | 17 => .array .int
  | 18 => .array .byte
  | 19 => .array .byte
  | 20 => .array .int
  | 21 => .array .int
  | 22 => .int
  | 23 => .array .byte
  | 24 => .int
  | 25 => .array .byte
  | 26 => .array .byte
  | 27 => .int
  | 28 => .int
  | 29 => .int
  | 30 => .boolean
  | 31 => .boolean
  | 32 => .int
  | 33 => .boolean
  | 34 => .array .byte
  | 35 => .int
  | 36 => .int
  | 37 => .array .byte
  | 38 => .array .int
  | 39 => .array .int
  | 40 => .int
  | 41 => .array .byte
  | 42 => .int
  | 43 => .int
  | 44 => .int
  | 45 => .int
  | 46 => .array .int
  | 47 => .boolean
  | 48 => .array .int
  | 49 => .long
  | 50 => .array .boolean
  | 51 => .int
  | 52 => .boolean
  | 53 => .long
  | 54 => .boolean
  | 55 => .int
  | 56 => .array .int
  | 57 => .array .int
  | 58 => .array .int
  | 59 => .array .int
  | 60 => .int
  | 61 => .int
  | 62 => .boolean
  | 63 => .int
  | 64 => .int
  | 65 => .int
  | 66 => .int
  | 67 => .int
  | 68 => .int
  | 69 => .boolean
  | 70 => .array .int
  | 71 => .int
  | 72 => .array .int
  | 73 => .array .long
  | 74 => .array .long
  | 75 => .array .long
  | 76 => .int
  | 77 => .long
  | 78 => .long
  | _ => .boolean
abbrev wsX120 : List Cond := u_ws RX12 TX12 80
theorem nmX12 : ∀ a, a < 80 → ∀ b, b < 80 → a ≠ b → (TX12 a).2.1 ≠ (TX12 b).2.1 := by decide +kernel
theorem tyX12_ok : ∀ k, k < 80 → parseFieldDescriptor (TX12 k).2.2.1 = some (tyX12 k) := by decide +kernel
abbrev cX12_init : ByteArray := prog_14_method_1_code
def yX12_init : MethodName := ⟨RX12, "<init>", "()V"⟩
abbrev cX12_feed : ByteArray := prog_14_method_3_code
def yX12_feed : MethodName := ⟨RX12, "feed", "(IIIII)I"⟩
abbrev cX12_lay : ByteArray := prog_14_method_4_code
def yX12_lay : MethodName := ⟨RX12, "lay", "(I)V"⟩
abbrev cX12_cut : ByteArray := prog_14_method_5_code
def yX12_cut : MethodName := ⟨RX12, "cut", "(I)I"⟩
abbrev cX12_part : ByteArray := prog_14_method_6_code
def yX12_part : MethodName := ⟨RX12, "part", "(I)I"⟩
abbrev cX12_drop : ByteArray := prog_14_method_7_code
def yX12_drop : MethodName := ⟨RX12, "drop", "()I"⟩
abbrev cX12_pageWide : ByteArray := prog_14_method_8_code
def yX12_pageWide : MethodName := ⟨RX12, "pageWide", "(I)I"⟩
abbrev cX12_pageHigh : ByteArray := prog_14_method_9_code
def yX12_pageHigh : MethodName := ⟨RX12, "pageHigh", "(I)I"⟩
abbrev cX12_wide : ByteArray := prog_14_method_10_code
def yX12_wide : MethodName := ⟨RX12, "wide", "()I"⟩
abbrev cX12_high : ByteArray := prog_14_method_11_code
def yX12_high : MethodName := ⟨RX12, "high", "()I"⟩
abbrev cX12_modulo : ByteArray := prog_14_method_13_code
def yX12_modulo : MethodName := ⟨RX12, "modulo", "(II)I"⟩
abbrev cX12_shadeOf : ByteArray := prog_14_method_14_code
def yX12_shadeOf : MethodName := ⟨RX12, "shadeOf", "(II)I"⟩
abbrev cX12_patternAt : ByteArray := prog_14_method_15_code
def yX12_patternAt : MethodName := ⟨RX12, "patternAt", "(II)I"⟩
abbrev cX12_useAtHand : ByteArray := prog_14_method_16_code
def yX12_useAtHand : MethodName := ⟨RX12, "useAtHand", "()V"⟩
abbrev cX12_lay_ : ByteArray := prog_14_method_17_code
def yX12_lay_ : MethodName := ⟨RX12, "lay", "(III)V"⟩
abbrev cX12_mark : ByteArray := prog_14_method_18_code
def yX12_mark : MethodName := ⟨RX12, "mark", "(JJJJ)Z"⟩
abbrev cX12_comes : ByteArray := prog_14_method_19_code
def yX12_comes : MethodName := ⟨RX12, "comes", "(II)V"⟩
abbrev cX12_white : ByteArray := prog_14_method_20_code
def yX12_white : MethodName := ⟨RX12, "white", "()V"⟩
abbrev cX12_setX : ByteArray := prog_14_method_21_code
def yX12_setX : MethodName := ⟨RX12, "setX", "(J)V"⟩
abbrev cX12_setY : ByteArray := prog_14_method_22_code
def yX12_setY : MethodName := ⟨RX12, "setY", "(J)V"⟩
abbrev cX12_homeY : ByteArray := prog_14_method_23_code
def yX12_homeY : MethodName := ⟨RX12, "homeY", "()V"⟩
abbrev cX12_pagesOwn : ByteArray := prog_14_method_24_code
def yX12_pagesOwn : MethodName := ⟨RX12, "pagesOwn", "()V"⟩
abbrev cX12_reset : ByteArray := prog_14_method_25_code
def yX12_reset : MethodName := ⟨RX12, "reset", "(II)V"⟩
abbrev cX12_save : ByteArray := prog_14_method_26_code
def yX12_save : MethodName := ⟨RX12, "save", "(I)V"⟩
abbrev cX12_back : ByteArray := prog_14_method_27_code
def yX12_back : MethodName := ⟨RX12, "back", "(I)V"⟩
abbrev cX12_eject : ByteArray := prog_14_method_28_code
def yX12_eject : MethodName := ⟨RX12, "eject", "()V"⟩
abbrev cX12_temporaryGo : ByteArray := prog_14_method_29_code
def yX12_temporaryGo : MethodName := ⟨RX12, "temporaryGo", "()V"⟩
abbrev cX12_fontsGo : ByteArray := prog_14_method_30_code
def yX12_fontsGo : MethodName := ⟨RX12, "fontsGo", "(Z)V"⟩
abbrev cX12_fontGoes : ByteArray := prog_14_method_31_code
def yX12_fontGoes : MethodName := ⟨RX12, "fontGoes", "(I)V"⟩
abbrev cX12_glyphGoes : ByteArray := prog_14_method_32_code
def yX12_glyphGoes : MethodName := ⟨RX12, "glyphGoes", "(II)V"⟩
abbrev cX12_usersGo : ByteArray := prog_14_method_33_code
def yX12_usersGo : MethodName := ⟨RX12, "usersGo", "(Z)V"⟩
abbrev cX12_macrosGo : ByteArray := prog_14_method_34_code
def yX12_macrosGo : MethodName := ⟨RX12, "macrosGo", "(Z)V"⟩
abbrev cX12_hasMore : ByteArray := prog_14_method_35_code
def yX12_hasMore : MethodName := ⟨RX12, "hasMore", "()Z"⟩
abbrev cX12_next : ByteArray := prog_14_method_36_code
def yX12_next : MethodName := ⟨RX12, "next", "()I"⟩
abbrev cX12_count : ByteArray := prog_14_method_37_code
def yX12_count : MethodName := ⟨RX12, "count", "(I)V"⟩
abbrev cX12_peek : ByteArray := prog_14_method_38_code
def yX12_peek : MethodName := ⟨RX12, "peek", "()I"⟩
abbrev cX12_through : ByteArray := prog_14_method_39_code
def yX12_through : MethodName := ⟨RX12, "through", "(I)V"⟩
abbrev cX12_run : ByteArray := prog_14_method_40_code
def yX12_run : MethodName := ⟨RX12, "run", "()V"⟩
abbrev cX12_plain : ByteArray := prog_14_method_41_code
def yX12_plain : MethodName := ⟨RX12, "plain", "(I)V"⟩
abbrev cX12_tab : ByteArray := prog_14_method_42_code
def yX12_tab : MethodName := ⟨RX12, "tab", "()V"⟩
abbrev cX12_line : ByteArray := prog_14_method_43_code
def yX12_line : MethodName := ⟨RX12, "line", "(I)V"⟩
abbrev cX12_show : ByteArray := prog_14_method_44_code
def yX12_show : MethodName := ⟨RX12, "show", "(I)V"⟩
abbrev cX12_residentGlyph : ByteArray := prog_14_method_45_code
def yX12_residentGlyph : MethodName := ⟨RX12, "residentGlyph", "(III)V"⟩
abbrev cX12_glyph : ByteArray := prog_14_method_46_code
def yX12_glyph : MethodName := ⟨RX12, "glyph", "(III)V"⟩
abbrev cX12_wish : ByteArray := prog_14_method_47_code
def yX12_wish : MethodName := ⟨RX12, "wish", "(I)I"⟩
abbrev cX12_fontInUse : ByteArray := prog_14_method_48_code
def yX12_fontInUse : MethodName := ⟨RX12, "fontInUse", "()I"⟩
abbrev cX12_keep : ByteArray := prog_14_method_49_code
def yX12_keep : MethodName := ⟨RX12, "keep", "(II)V"⟩
abbrev cX12_nearest : ByteArray := prog_14_method_50_code
def yX12_nearest : MethodName := ⟨RX12, "nearest", "(II)V"⟩
abbrev cX12_smaller : ByteArray := prog_14_method_51_code
def yX12_smaller : MethodName := ⟨RX12, "smaller", "(JJ)J"⟩
abbrev cX12_far : ByteArray := prog_14_method_52_code
def yX12_far : MethodName := ⟨RX12, "far", "(II)J"⟩
abbrev cX12_escape : ByteArray := prog_14_method_53_code
def yX12_escape : MethodName := ⟨RX12, "escape", "()V"⟩
abbrev cX12_readValue : ByteArray := prog_14_method_54_code
def yX12_readValue : MethodName := ⟨RX12, "readValue", "()V"⟩
abbrev cX12_units : ByteArray := prog_14_method_55_code
def yX12_units : MethodName := ⟨RX12, "units", "(J)J"⟩
abbrev cX12_pair : ByteArray := prog_14_method_56_code
def yX12_pair : MethodName := ⟨RX12, "pair", "(I)V"⟩
abbrev cX12_transparent : ByteArray := prog_14_method_57_code
def yX12_transparent : MethodName := ⟨RX12, "transparent", "()V"⟩
abbrev cX12_shown : ByteArray := prog_14_method_58_code
def yX12_shown : MethodName := ⟨RX12, "shown", "(I)V"⟩
abbrev cX12_field : ByteArray := prog_14_method_59_code
def yX12_field : MethodName := ⟨RX12, "field", "(III)V"⟩
abbrev cX12_pageField : ByteArray := prog_14_method_60_code
def yX12_pageField : MethodName := ⟨RX12, "pageField", "(I)V"⟩
abbrev cX12_placeField : ByteArray := prog_14_method_61_code
def yX12_placeField : MethodName := ⟨RX12, "placeField", "(I)V"⟩
abbrev cX12_dotField : ByteArray := prog_14_method_62_code
def yX12_dotField : MethodName := ⟨RX12, "dotField", "(I)V"⟩
abbrev cX12_macroField : ByteArray := prog_14_method_63_code
def yX12_macroField : MethodName := ⟨RX12, "macroField", "(I)V"⟩
abbrev cX12_macroAct : ByteArray := prog_14_method_64_code
def yX12_macroAct : MethodName := ⟨RX12, "macroAct", "()V"⟩
abbrev cX12_endsMacro : ByteArray := prog_14_method_65_code
def yX12_endsMacro : MethodName := ⟨RX12, "endsMacro", "(I)Z"⟩
abbrev cX12_define : ByteArray := prog_14_method_66_code
def yX12_define : MethodName := ⟨RX12, "define", "(I)V"⟩
abbrev cX12_hasPattern : ByteArray := prog_14_method_67_code
def yX12_hasPattern : MethodName := ⟨RX12, "hasPattern", "(II)Z"⟩
abbrev cX12_putPattern : ByteArray := prog_14_method_68_code
def yX12_putPattern : MethodName := ⟨RX12, "putPattern", "([IIII)V"⟩
abbrev cX12_modelField : ByteArray := prog_14_method_69_code
def yX12_modelField : MethodName := ⟨RX12, "modelField", "(I)V"⟩
abbrev cX12_dotsUp : ByteArray := prog_14_method_70_code
def yX12_dotsUp : MethodName := ⟨RX12, "dotsUp", "(J)I"⟩
abbrev cX12_thingField : ByteArray := prog_14_method_71_code
def yX12_thingField : MethodName := ⟨RX12, "thingField", "(I)V"⟩
abbrev cX12_fontAct : ByteArray := prog_14_method_72_code
def yX12_fontAct : MethodName := ⟨RX12, "fontAct", "()V"⟩
abbrev cX12_userAct : ByteArray := prog_14_method_73_code
def yX12_userAct : MethodName := ⟨RX12, "userAct", "()V"⟩
abbrev cX12_rectangle : ByteArray := prog_14_method_74_code
def yX12_rectangle : MethodName := ⟨RX12, "rectangle", "()V"⟩
abbrev cX12_fontField : ByteArray := prog_14_method_75_code
def yX12_fontField : MethodName := ⟨RX12, "fontField", "(III)V"⟩
abbrev cX12_dataAt : ByteArray := prog_14_method_76_code
def yX12_dataAt : MethodName := ⟨RX12, "dataAt", "(I)I"⟩
abbrev cX12_signedAt : ByteArray := prog_14_method_77_code
def yX12_signedAt : MethodName := ⟨RX12, "signedAt", "(I)I"⟩
abbrev cX12_withData : ByteArray := prog_14_method_78_code
def yX12_withData : MethodName := ⟨RX12, "withData", "(III)V"⟩
abbrev cX12_fontData : ByteArray := prog_14_method_79_code
def yX12_fontData : MethodName := ⟨RX12, "fontData", "(I)V"⟩
abbrev cX12_glyphData : ByteArray := prog_14_method_80_code
def yX12_glyphData : MethodName := ⟨RX12, "glyphData", "(I)V"⟩
abbrev cX12_userData : ByteArray := prog_14_method_81_code
def yX12_userData : MethodName := ⟨RX12, "userData", "(I)V"⟩
abbrev cX12_begin : ByteArray := prog_14_method_82_code
def yX12_begin : MethodName := ⟨RX12, "begin", "(Z)V"⟩
abbrev cX12_rasterField : ByteArray := prog_14_method_83_code
def yX12_rasterField : MethodName := ⟨RX12, "rasterField", "(I)V"⟩
abbrev cX12_rowField : ByteArray := prog_14_method_84_code
def yX12_rowField : MethodName := ⟨RX12, "rowField", "(I)V"⟩
abbrev cX12_rowData : ByteArray := prog_14_method_85_code
def yX12_rowData : MethodName := ⟨RX12, "rowData", "(I)V"⟩
abbrev cX12_fill : ByteArray := prog_14_method_86_code
def yX12_fill : MethodName := ⟨RX12, "fill", "(I)V"⟩
abbrev cX12_unpack : ByteArray := prog_14_method_87_code
def yX12_unpack : MethodName := ⟨RX12, "unpack", "(I)V"⟩
abbrev cX12_changed : ByteArray := prog_14_method_88_code
def yX12_changed : MethodName := ⟨RX12, "changed", "(I)V"⟩
abbrev cX12_readCodes : ByteArray := prog_14_method_89_code
def yX12_readCodes : MethodName := ⟨RX12, "readCodes", "()V"⟩
abbrev cX12_readRow : ByteArray := prog_14_method_90_code
def yX12_readRow : MethodName := ⟨RX12, "readRow", "(Ljava/lang/String;I)V"⟩
abbrev cX12_b1 : ByteArray := prog_14_method_91_code
def yX12_b1 : MethodName := ⟨RX12, "b1", "()I"⟩
abbrev cX12_b2 : ByteArray := prog_14_method_92_code
def yX12_b2 : MethodName := ⟨RX12, "b2", "(I)I"⟩
abbrev cX12_bits : ByteArray := prog_14_method_93_code
def yX12_bits : MethodName := ⟨RX12, "bits", "(II)V"⟩
abbrev cX12_outByte : ByteArray := prog_14_method_94_code
def yX12_outByte : MethodName := ⟨RX12, "outByte", "(I)V"⟩
abbrev cX12_outNumber : ByteArray := prog_14_method_95_code
def yX12_outNumber : MethodName := ⟨RX12, "outNumber", "(IJ)V"⟩
abbrev cX12_writeRun : ByteArray := prog_14_method_96_code
def yX12_writeRun : MethodName := ⟨RX12, "writeRun", "(II)V"⟩
abbrev cX12_change : ByteArray := prog_14_method_97_code
def yX12_change : MethodName := ⟨RX12, "change", "(II)I"⟩
abbrev cX12_writeRow : ByteArray := prog_14_method_98_code
def yX12_writeRow : MethodName := ⟨RX12, "writeRow", "()V"⟩
abbrev cX12_written : ByteArray := prog_14_method_99_code
def yX12_written : MethodName := ⟨RX12, "written", "(I)V"⟩
abbrev cX12_entry : ByteArray := prog_14_method_100_code
def yX12_entry : MethodName := ⟨RX12, "entry", "(III)V"⟩
abbrev cX12_picture : ByteArray := prog_14_method_101_code
def yX12_picture : MethodName := ⟨RX12, "picture", "(II)J"⟩
abbrev cX12_wrong : ByteArray := prog_14_method_102_code
def yX12_wrong : MethodName := ⟨RX12, "wrong", "(II)Z"⟩
abbrev cX12_pictures : ByteArray := prog_14_method_103_code
def yX12_pictures : MethodName := ⟨RX12, "pictures", "(I)Z"⟩
abbrev cX12_valueOf : ByteArray := prog_14_method_104_code
def yX12_valueOf : MethodName := ⟨RX12, "valueOf", "(II)J"⟩
abbrev cX12_isLooked : ByteArray := prog_14_method_105_code
def yX12_isLooked : MethodName := ⟨RX12, "isLooked", "(I)Z"⟩
abbrev cX12_isMay : ByteArray := prog_14_method_106_code
def yX12_isMay : MethodName := ⟨RX12, "isMay", "(IJ)Z"⟩
abbrev cX12_directory : ByteArray := prog_14_method_107_code
def yX12_directory : MethodName := ⟨RX12, "directory", "(II)Z"⟩
abbrev cX12_bit : ByteArray := prog_14_method_108_code
def yX12_bit : MethodName := ⟨RX12, "bit", "()I"⟩
abbrev cX12_readRun : ByteArray := prog_14_method_109_code
def yX12_readRun : MethodName := ⟨RX12, "readRun", "(I)I"⟩
abbrev cX12_oneRun : ByteArray := prog_14_method_110_code
def yX12_oneRun : MethodName := ⟨RX12, "oneRun", "(I)I"⟩
abbrev cX12_mode : ByteArray := prog_14_method_111_code
def yX12_mode : MethodName := ⟨RX12, "mode", "()I"⟩
abbrev cX12_readRow_ : ByteArray := prog_14_method_112_code
def yX12_readRow_ : MethodName := ⟨RX12, "readRow", "()Z"⟩
abbrev cX12_paint : ByteArray := prog_14_method_113_code
def yX12_paint : MethodName := ⟨RX12, "paint", "(II)V"⟩
abbrev cX12_print : ByteArray := prog_14_method_114_code
def yX12_print : MethodName := ⟨RX12, "print", "(I)I"⟩
abbrev cX12_stream : ByteArray := prog_14_method_115_code
def yX12_stream : MethodName := ⟨RX12, "stream", "(I)V"⟩
abbrev cX12_fault : ByteArray := prog_14_method_116_code
def yX12_fault : MethodName := ⟨RX12, "fault", "(I)I"⟩
abbrev cX12_outs : ByteArray := prog_14_method_117_code
def yX12_outs : MethodName := ⟨RX12, "outs", "()I"⟩
abbrev cX12_out : ByteArray := prog_14_method_118_code
def yX12_out : MethodName := ⟨RX12, "out", "(I)I"⟩
abbrev cX12_sum : ByteArray := prog_14_method_119_code
def yX12_sum : MethodName := ⟨RX12, "sum", "()I"⟩
abbrev cX12_take : ByteArray := prog_14_method_120_code
def yX12_take : MethodName := ⟨RX12, "take", "()I"⟩
abbrev cX12_pages : ByteArray := prog_14_method_121_code
def yX12_pages : MethodName := ⟨RX12, "pages", "()I"⟩
abbrev cX12_width : ByteArray := prog_14_method_122_code
def yX12_width : MethodName := ⟨RX12, "width", "(I)I"⟩
abbrev cX12_height : ByteArray := prog_14_method_123_code
def yX12_height : MethodName := ⟨RX12, "height", "(I)I"⟩
abbrev cX12_dot : ByteArray := prog_14_method_124_code
def yX12_dot : MethodName := ⟨RX12, "dot", "(III)I"⟩
abbrev cX12_black : ByteArray := prog_14_method_125_code
def yX12_black : MethodName := ⟨RX12, "black", "(II)I"⟩
abbrev cX12_state : ByteArray := prog_14_method_126_code
def yX12_state : MethodName := ⟨RX12, "state", "(I)I"⟩
abbrev cX12_held : ByteArray := prog_14_method_127_code
def yX12_held : MethodName := ⟨RX12, "held", "(I)I"⟩
abbrev cX12_off : ByteArray := prog_14_method_128_code
def yX12_off : MethodName := ⟨RX12, "off", "()I"⟩
def RJx145de : String := "java/io/Serializable"
def TJx145de : u_T := fun k => match k with
  | _ => ("", "", "", false)
def tyJx145de : Nat → FieldType := fun k => match k with
  | _ => .int
abbrev wsJx145de0 : List Cond := u_ws RJx145de TJx145de 0
theorem nmJx145de : ∀ a, a < 0 → ∀ b, b < 0 → a ≠ b → (TJx145de a).2.1 ≠ (TJx145de b).2.1 := by decide +kernel
theorem tyJx145de_ok : ∀ k, k < 0 → parseFieldDescriptor (TJx145de k).2.2.1 = some (tyJx145de k) := by decide +kernel
def RJx9f9b0 : String := "java/lang/CharSequence"
def TJx9f9b0 : u_T := fun k => match k with
  | _ => ("", "", "", false)
def tyJx9f9b0 : Nat → FieldType := fun k => match k with
  | _ => .int
abbrev wsJx9f9b00 : List Cond := u_ws RJx9f9b0 TJx9f9b0 0
theorem nmJx9f9b0 : ∀ a, a < 0 → ∀ b, b < 0 → a ≠ b → (TJx9f9b0 a).2.1 ≠ (TJx9f9b0 b).2.1 := by decide +kernel
theorem tyJx9f9b0_ok : ∀ k, k < 0 → parseFieldDescriptor (TJx9f9b0 k).2.2.1 = some (tyJx9f9b0 k) := by decide +kernel
def RJxb160c : String := "java/lang/Comparable"
def TJxb160c : u_T := fun k => match k with
  | _ => ("", "", "", false)
def tyJxb160c : Nat → FieldType := fun k => match k with
  | _ => .int
abbrev wsJxb160c0 : List Cond := u_ws RJxb160c TJxb160c 0
theorem nmJxb160c : ∀ a, a < 0 → ∀ b, b < 0 → a ≠ b → (TJxb160c a).2.1 ≠ (TJxb160c b).2.1 := by decide +kernel
theorem tyJxb160c_ok : ∀ k, k < 0 → parseFieldDescriptor (TJxb160c k).2.2.1 = some (tyJxb160c k) := by decide +kernel
def RJ6 : String := "java/lang/Integer"
def TJ6 : u_T := fun k => match k with
  | _ => ("", "", "", false)
def tyJ6 : Nat → FieldType := fun k => match k with
  | _ => .int
abbrev wsJ60 : List Cond := u_ws RJ6 TJ6 0
theorem nmJ6 : ∀ a, a < 0 → ∀ b, b < 0 → a ≠ b → (TJ6 a).2.1 ≠ (TJ6 b).2.1 := by decide +kernel
theorem tyJ6_ok : ∀ k, k < 0 → parseFieldDescriptor (TJ6 k).2.2.1 = some (tyJ6 k) := by decide +kernel
abbrev cJ6_bitCount_0f7a4 : ByteArray := prog_15_method_49_code
def yJ6_bitCount_0f7a4 : MethodName := ⟨RJ6, "bitCount", "(I)I"⟩
def RJ9 : String := "java/lang/Math"
def TJ9 : u_T := fun k => match k with
  | _ => ("", "", "", false)
def tyJ9 : Nat → FieldType := fun k => match k with
  | _ => .int
abbrev wsJ90 : List Cond := u_ws RJ9 TJ9 0
theorem nmJ9 : ∀ a, a < 0 → ∀ b, b < 0 → a ≠ b → (TJ9 a).2.1 ≠ (TJ9 b).2.1 := by decide +kernel
theorem tyJ9_ok : ∀ k, k < 0 → parseFieldDescriptor (TJ9 k).2.2.1 = some (tyJ9 k) := by decide +kernel
abbrev cJ9_floorDiv_7cf53 : ByteArray := prog_16_method_47_code
def yJ9_floorDiv_7cf53 : MethodName := ⟨RJ9, "floorDiv", "(II)I"⟩
abbrev cJ9_floorMod_7cf53 : ByteArray := prog_16_method_50_code
def yJ9_floorMod_7cf53 : MethodName := ⟨RJ9, "floorMod", "(II)I"⟩
abbrev cJ9_abs_0f7a4 : ByteArray := prog_16_method_59_code
def yJ9_abs_0f7a4 : MethodName := ⟨RJ9, "abs", "(I)I"⟩
abbrev cJ9_max_7cf53 : ByteArray := prog_16_method_65_code
def yJ9_max_7cf53 : MethodName := ⟨RJ9, "max", "(II)I"⟩
abbrev cJ9_max_f86c9 : ByteArray := prog_16_method_66_code
def yJ9_max_f86c9 : MethodName := ⟨RJ9, "max", "(JJ)J"⟩
abbrev cJ9_min_7cf53 : ByteArray := prog_16_method_69_code
def yJ9_min_7cf53 : MethodName := ⟨RJ9, "min", "(II)I"⟩
abbrev cJ9_min_f86c9 : ByteArray := prog_16_method_70_code
def yJ9_min_f86c9 : MethodName := ⟨RJ9, "min", "(JJ)J"⟩
def RJ0 : String := "java/lang/String"
def TJ0 : u_T := fun k => match k with
  | _ => ("", "", "", false)
def tyJ0 : Nat → FieldType := fun k => match k with
  | _ => .int
abbrev wsJ00 : List Cond := u_ws RJ0 TJ0 0
theorem nmJ0 : ∀ a, a < 0 → ∀ b, b < 0 → a ≠ b → (TJ0 a).2.1 ≠ (TJ0 b).2.1 := by decide +kernel
theorem tyJ0_ok : ∀ k, k < 0 → parseFieldDescriptor (TJ0 k).2.2.1 = some (tyJ0 k) := by decide +kernel
abbrev cJ0_length_8abf5 : ByteArray := prog_17_method_54_code
def yJ0_length_8abf5 : MethodName := ⟨RJ0, "length", "()I"⟩
abbrev cJ0_charAt_5068e : ByteArray := prog_17_method_56_code
def yJ0_charAt_5068e : MethodName := ⟨RJ0, "charAt", "(I)C"⟩
abbrev cJ0_coder_7d493 : ByteArray := prog_17_method_152_code
def yJ0_coder_7d493 : MethodName := ⟨RJ0, "coder", "()B"⟩
abbrev cJ0_isLatin1_aae02 : ByteArray := prog_17_method_154_code
def yJ0_isLatin1_aae02 : MethodName := ⟨RJ0, "isLatin1", "()Z"⟩
abbrev cJ0_checkIndex_df160 : ByteArray := prog_17_method_155_code
def yJ0_checkIndex_df160 : MethodName := ⟨RJ0, "checkIndex", "(II)V"⟩
def RJ1 : String := "java/lang/StringLatin1"
def TJ1 : u_T := fun k => match k with
  | _ => ("", "", "", false)
def tyJ1 : Nat → FieldType := fun k => match k with
  | _ => .int
abbrev wsJ10 : List Cond := u_ws RJ1 TJ1 0
theorem nmJ1 : ∀ a, a < 0 → ∀ b, b < 0 → a ≠ b → (TJ1 a).2.1 ≠ (TJ1 b).2.1 := by decide +kernel
theorem tyJ1_ok : ∀ k, k < 0 → parseFieldDescriptor (TJ1 k).2.2.1 = some (tyJ1 k) := by decide +kernel
abbrev cJ1_charAt_3b067 : ByteArray := prog_18_method_2_code
def yJ1_charAt_3b067 : MethodName := ⟨RJ1, "charAt", "([BI)C"⟩
def RJ2 : String := "java/lang/StringUTF16"
def TJ2 : u_T := fun k => match k with
  | _ => ("", "", "", false)
def tyJ2 : Nat → FieldType := fun k => match k with
  | _ => .int
abbrev wsJ20 : List Cond := u_ws RJ2 TJ2 0
theorem nmJ2 : ∀ a, a < 0 → ∀ b, b < 0 → a ≠ b → (TJ2 a).2.1 ≠ (TJ2 b).2.1 := by decide +kernel
theorem tyJ2_ok : ∀ k, k < 0 → parseFieldDescriptor (TJ2 k).2.2.1 = some (tyJ2 k) := by decide +kernel
abbrev cJ2_getChar_3b067 : ByteArray := prog_19_method_5_code
def yJ2_getChar_3b067 : MethodName := ⟨RJ2, "getChar", "([BI)C"⟩
abbrev cJ2_length_9d52b : ByteArray := prog_19_method_6_code
def yJ2_length_9d52b : MethodName := ⟨RJ2, "length", "([B)I"⟩
abbrev cJ2_charAt_3b067 : ByteArray := prog_19_method_83_code
def yJ2_charAt_3b067 : MethodName := ⟨RJ2, "charAt", "([BI)C"⟩
abbrev cJ2_checkIndex_2214a : ByteArray := prog_19_method_91_code
def yJ2_checkIndex_2214a : MethodName := ⟨RJ2, "checkIndex", "(I[B)V"⟩
def RJ10 : String := "java/lang/System"
def TJ10 : u_T := fun k => match k with
  | _ => ("", "", "", false)
def tyJ10 : Nat → FieldType := fun k => match k with
  | _ => .int
abbrev wsJ100 : List Cond := u_ws RJ10 TJ10 0
theorem nmJ10 : ∀ a, a < 0 → ∀ b, b < 0 → a ≠ b → (TJ10 a).2.1 ≠ (TJ10 b).2.1 := by decide +kernel
theorem tyJ10_ok : ∀ k, k < 0 → parseFieldDescriptor (TJ10 k).2.2.1 = some (tyJ10 k) := by decide +kernel
def RJxfd54e : String := "java/lang/constant/Constable"
def TJxfd54e : u_T := fun k => match k with
  | _ => ("", "", "", false)
def tyJxfd54e : Nat → FieldType := fun k => match k with
  | _ => .int
abbrev wsJxfd54e0 : List Cond := u_ws RJxfd54e TJxfd54e 0
theorem nmJxfd54e : ∀ a, a < 0 → ∀ b, b < 0 → a ≠ b → (TJxfd54e a).2.1 ≠ (TJxfd54e b).2.1 := by decide +kernel
theorem tyJxfd54e_ok : ∀ k, k < 0 → parseFieldDescriptor (TJxfd54e k).2.2.1 = some (tyJxfd54e k) := by decide +kernel
def RJx3cf43 : String := "java/lang/constant/ConstantDesc"
def TJx3cf43 : u_T := fun k => match k with
  | _ => ("", "", "", false)
def tyJx3cf43 : Nat → FieldType := fun k => match k with
  | _ => .int
abbrev wsJx3cf430 : List Cond := u_ws RJx3cf43 TJx3cf43 0
theorem nmJx3cf43 : ∀ a, a < 0 → ∀ b, b < 0 → a ≠ b → (TJx3cf43 a).2.1 ≠ (TJx3cf43 b).2.1 := by decide +kernel
theorem tyJx3cf43_ok : ∀ k, k < 0 → parseFieldDescriptor (TJx3cf43 k).2.2.1 = some (tyJx3cf43 k) := by decide +kernel
def RJ7 : String := "java/util/Arrays"
def TJ7 : u_T := fun k => match k with
  | _ => ("", "", "", false)
def tyJ7 : Nat → FieldType := fun k => match k with
  | _ => .int
abbrev wsJ70 : List Cond := u_ws RJ7 TJ7 0
theorem nmJ7 : ∀ a, a < 0 → ∀ b, b < 0 → a ≠ b → (TJ7 a).2.1 ≠ (TJ7 b).2.1 := by decide +kernel
theorem tyJ7_ok : ∀ k, k < 0 → parseFieldDescriptor (TJ7 k).2.2.1 = some (tyJ7 k) := by decide +kernel
abbrev cJ7_fill_53178 : ByteArray := prog_21_method_103_code
def yJ7_fill_53178 : MethodName := ⟨RJ7, "fill", "([II)V"⟩
def RJ3 : String := "jdk/internal/util/Preconditions"
def TJ3 : u_T := fun k => match k with
  | _ => ("", "", "", false)
def tyJ3 : Nat → FieldType := fun k => match k with
  | _ => .int
abbrev wsJ30 : List Cond := u_ws RJ3 TJ3 0
theorem nmJ3 : ∀ a, a < 0 → ∀ b, b < 0 → a ≠ b → (TJ3 a).2.1 ≠ (TJ3 b).2.1 := by decide +kernel
theorem tyJ3_ok : ∀ k, k < 0 → parseFieldDescriptor (TJ3 k).2.2.1 = some (tyJ3 k) := by decide +kernel
abbrev cJ3_checkIndex_8e157 : ByteArray := prog_22_method_11_code
def yJ3_checkIndex_8e157 : MethodName := ⟨RJ3, "checkIndex", "(IILjava/util/function/BiFunction;)I"⟩
def RL : String := "PrinterHouseLaw"
abbrev cL_law : ByteArray := code
def yL_law : MethodName := ⟨RL, "law", "([I)Z"⟩
abbrev vwCl : List vw_C := [(RX0, TX0, 15), (RX1, TX1, 21), (RX2, TX2, 10), (RX3, TX3, 21), (RX4, TX4, 8), (RX5, TX5, 13), (RX6, TX6, 10), (RX7, TX7, 13), (RX8, TX8, 1), (RX9, TX9, 19), (RX10, TX10, 4), (RX11, TX11, 12), (RX12, TX12, 80)]
end
section
/-! The pool as one tuple: addresses, kinds, int / long / reference fields by field code (100 * class + slot) and address, lengths, rows of arrays. -/
abbrev Hp : Type := (List Nat) × (Nat → Nat) × (Nat → Nat → Int32) × (Nat → Nat → Int64) × (Nat → Nat → Option Nat) × (Nat → Nat) × (Nat → Nat → Int32) × (Nat → Nat → Int64) × (Nat → Nat → Option Nat)
def hL (S : Hp) : List Nat := S.1
def hK (S : Hp) : Nat → Nat := S.2.1
def hI (S : Hp) : Nat → Nat → Int32 := S.2.2.1
def hJ (S : Hp) : Nat → Nat → Int64 := S.2.2.2.1
def hR (S : Hp) : Nat → Nat → Option Nat := S.2.2.2.2.1
def hN (S : Hp) : Nat → Nat := S.2.2.2.2.2.1
def aI (S : Hp) : Nat → Nat → Int32 := S.2.2.2.2.2.2.1
def aJ (S : Hp) : Nat → Nat → Int64 := S.2.2.2.2.2.2.2.1
def aR (S : Hp) : Nat → Nat → Option Nat := S.2.2.2.2.2.2.2.2
def up2 {α : Type} (f : Nat → Nat → α) (g a : Nat) (v : α) : Nat → Nat → α := fun x b => if x = g ∧ b = a then v else f x b
theorem up2_self {α : Type} (f : Nat → Nat → α) (g a : Nat) (v : α) : up2 f g a v g a = v := if_pos ⟨rfl, rfl⟩
theorem up2_ne1 {α : Type} (f : Nat → Nat → α) {g x : Nat} (a b : Nat) (v : α) (h : x ≠ g) : up2 f g a v x b = f x b := if_neg fun q => h q.1
theorem up2_ne2 {α : Type} (f : Nat → Nat → α) {a b : Nat} (g x : Nat) (v : α) (h : b ≠ a) : up2 f g a v x b = f x b := if_neg fun q => h q.2
def sI (S : Hp) (g a : Nat) (v : Int32) : Hp := (hL S, hK S, up2 (hI S) g a v, hJ S, hR S, hN S, aI S, aJ S, aR S)
def sJ (S : Hp) (g a : Nat) (v : Int64) : Hp := (hL S, hK S, hI S, up2 (hJ S) g a v, hR S, hN S, aI S, aJ S, aR S)
def sR (S : Hp) (g a : Nat) (v : Option Nat) : Hp := (hL S, hK S, hI S, hJ S, up2 (hR S) g a v, hN S, aI S, aJ S, aR S)
def tI (S : Hp) (a j : Nat) (v : Int32) : Hp := (hL S, hK S, hI S, hJ S, hR S, hN S, up2 (aI S) a j v, aJ S, aR S)
def tJ (S : Hp) (a j : Nat) (v : Int64) : Hp := (hL S, hK S, hI S, hJ S, hR S, hN S, aI S, up2 (aJ S) a j v, aR S)
def tR (S : Hp) (a j : Nat) (v : Option Nat) : Hp := (hL S, hK S, hI S, hJ S, hR S, hN S, aI S, aJ S, up2 (aR S) a j v)
def rI (S : Hp) (a : Nat) (f : Nat → Int32) : Hp := (hL S, hK S, hI S, hJ S, hR S, hN S, va_up (aI S) a f, aJ S, aR S)
def up1 {α : Type} (f : Nat → Nat → α) (a : Nat) (v : α) : Nat → Nat → α := fun x b => if b = a then v else f x b
def nO (S : Hp) (a k : Nat) : Hp := (hL S ++ [a], va_up (hK S) a k, up1 (hI S) a 0, up1 (hJ S) a 0, up1 (hR S) a none, hN S, aI S, aJ S, aR S)
def nA (S : Hp) (a k n : Nat) : Hp := (hL S ++ [a], va_up (hK S) a k, hI S, hJ S, hR S, va_up (hN S) a n, va_up (aI S) a (fun _ => 0), va_up (aJ S) a (fun _ => 0), va_up (aR S) a (fun _ => none))
theorem hL_sI (S : Hp) (g a : Nat) (v : Int32) : hL (sI S g a v) = hL S := rfl
theorem hK_sI (S : Hp) (g a : Nat) (v : Int32) : hK (sI S g a v) = hK S := rfl
theorem hJ_sI (S : Hp) (g a : Nat) (v : Int32) : hJ (sI S g a v) = hJ S := rfl
theorem hR_sI (S : Hp) (g a : Nat) (v : Int32) : hR (sI S g a v) = hR S := rfl
theorem hN_sI (S : Hp) (g a : Nat) (v : Int32) : hN (sI S g a v) = hN S := rfl
theorem aI_sI (S : Hp) (g a : Nat) (v : Int32) : aI (sI S g a v) = aI S := rfl
theorem aJ_sI (S : Hp) (g a : Nat) (v : Int32) : aJ (sI S g a v) = aJ S := rfl
theorem aR_sI (S : Hp) (g a : Nat) (v : Int32) : aR (sI S g a v) = aR S := rfl
theorem hL_sJ (S : Hp) (g a : Nat) (v : Int64) : hL (sJ S g a v) = hL S := rfl
theorem hK_sJ (S : Hp) (g a : Nat) (v : Int64) : hK (sJ S g a v) = hK S := rfl
theorem hI_sJ (S : Hp) (g a : Nat) (v : Int64) : hI (sJ S g a v) = hI S := rfl
theorem hR_sJ (S : Hp) (g a : Nat) (v : Int64) : hR (sJ S g a v) = hR S := rfl
theorem hN_sJ (S : Hp) (g a : Nat) (v : Int64) : hN (sJ S g a v) = hN S := rfl
theorem aI_sJ (S : Hp) (g a : Nat) (v : Int64) : aI (sJ S g a v) = aI S := rfl
theorem aJ_sJ (S : Hp) (g a : Nat) (v : Int64) : aJ (sJ S g a v) = aJ S := rfl
theorem aR_sJ (S : Hp) (g a : Nat) (v : Int64) : aR (sJ S g a v) = aR S := rfl
theorem hL_sR (S : Hp) (g a : Nat) (v : Option Nat) : hL (sR S g a v) = hL S := rfl
theorem hK_sR (S : Hp) (g a : Nat) (v : Option Nat) : hK (sR S g a v) = hK S := rfl
theorem hI_sR (S : Hp) (g a : Nat) (v : Option Nat) : hI (sR S g a v) = hI S := rfl
theorem hJ_sR (S : Hp) (g a : Nat) (v : Option Nat) : hJ (sR S g a v) = hJ S := rfl
theorem hN_sR (S : Hp) (g a : Nat) (v : Option Nat) : hN (sR S g a v) = hN S := rfl
theorem aI_sR (S : Hp) (g a : Nat) (v : Option Nat) : aI (sR S g a v) = aI S := rfl
theorem aJ_sR (S : Hp) (g a : Nat) (v : Option Nat) : aJ (sR S g a v) = aJ S := rfl
theorem aR_sR (S : Hp) (g a : Nat) (v : Option Nat) : aR (sR S g a v) = aR S := rfl
theorem hL_tI (S : Hp) (a j : Nat) (v : Int32) : hL (tI S a j v) = hL S := rfl
theorem hK_tI (S : Hp) (a j : Nat) (v : Int32) : hK (tI S a j v) = hK S := rfl
theorem hI_tI (S : Hp) (a j : Nat) (v : Int32) : hI (tI S a j v) = hI S := rfl
theorem hJ_tI (S : Hp) (a j : Nat) (v : Int32) : hJ (tI S a j v) = hJ S := rfl
theorem hR_tI (S : Hp) (a j : Nat) (v : Int32) : hR (tI S a j v) = hR S := rfl
theorem hN_tI (S : Hp) (a j : Nat) (v : Int32) : hN (tI S a j v) = hN S := rfl
theorem aJ_tI (S : Hp) (a j : Nat) (v : Int32) : aJ (tI S a j v) = aJ S := rfl
theorem aR_tI (S : Hp) (a j : Nat) (v : Int32) : aR (tI S a j v) = aR S := rfl
theorem hL_tJ (S : Hp) (a j : Nat) (v : Int64) : hL (tJ S a j v) = hL S := rfl
theorem hK_tJ (S : Hp) (a j : Nat) (v : Int64) : hK (tJ S a j v) = hK S := rfl
theorem hI_tJ (S : Hp) (a j : Nat) (v : Int64) : hI (tJ S a j v) = hI S := rfl
theorem hJ_tJ (S : Hp) (a j : Nat) (v : Int64) : hJ (tJ S a j v) = hJ S := rfl
theorem hR_tJ (S : Hp) (a j : Nat) (v : Int64) : hR (tJ S a j v) = hR S := rfl
theorem hN_tJ (S : Hp) (a j : Nat) (v : Int64) : hN (tJ S a j v) = hN S := rfl
theorem aI_tJ (S : Hp) (a j : Nat) (v : Int64) : aI (tJ S a j v) = aI S := rfl
theorem aR_tJ (S : Hp) (a j : Nat) (v : Int64) : aR (tJ S a j v) = aR S := rfl
theorem hL_tR (S : Hp) (a j : Nat) (v : Option Nat) : hL (tR S a j v) = hL S := rfl
theorem hK_tR (S : Hp) (a j : Nat) (v : Option Nat) : hK (tR S a j v) = hK S := rfl
theorem hI_tR (S : Hp) (a j : Nat) (v : Option Nat) : hI (tR S a j v) = hI S := rfl
theorem hJ_tR (S : Hp) (a j : Nat) (v : Option Nat) : hJ (tR S a j v) = hJ S := rfl
theorem hR_tR (S : Hp) (a j : Nat) (v : Option Nat) : hR (tR S a j v) = hR S := rfl
theorem hN_tR (S : Hp) (a j : Nat) (v : Option Nat) : hN (tR S a j v) = hN S := rfl
theorem aI_tR (S : Hp) (a j : Nat) (v : Option Nat) : aI (tR S a j v) = aI S := rfl
theorem aJ_tR (S : Hp) (a j : Nat) (v : Option Nat) : aJ (tR S a j v) = aJ S := rfl
theorem hL_rI (S : Hp) (a : Nat) (f : Nat → Int32) : hL (rI S a f) = hL S := rfl
theorem hK_rI (S : Hp) (a : Nat) (f : Nat → Int32) : hK (rI S a f) = hK S := rfl
theorem hI_rI (S : Hp) (a : Nat) (f : Nat → Int32) : hI (rI S a f) = hI S := rfl
theorem hJ_rI (S : Hp) (a : Nat) (f : Nat → Int32) : hJ (rI S a f) = hJ S := rfl
theorem hR_rI (S : Hp) (a : Nat) (f : Nat → Int32) : hR (rI S a f) = hR S := rfl
theorem hN_rI (S : Hp) (a : Nat) (f : Nat → Int32) : hN (rI S a f) = hN S := rfl
theorem aJ_rI (S : Hp) (a : Nat) (f : Nat → Int32) : aJ (rI S a f) = aJ S := rfl
theorem aR_rI (S : Hp) (a : Nat) (f : Nat → Int32) : aR (rI S a f) = aR S := rfl
theorem hN_nO (S : Hp) (a k : Nat) : hN (nO S a k) = hN S := rfl
theorem aI_nO (S : Hp) (a k : Nat) : aI (nO S a k) = aI S := rfl
theorem aJ_nO (S : Hp) (a k : Nat) : aJ (nO S a k) = aJ S := rfl
theorem aR_nO (S : Hp) (a k : Nat) : aR (nO S a k) = aR S := rfl
theorem hI_nA (S : Hp) (a k n : Nat) : hI (nA S a k n) = hI S := rfl
theorem hJ_nA (S : Hp) (a k n : Nat) : hJ (nA S a k n) = hJ S := rfl
theorem hR_nA (S : Hp) (a k n : Nat) : hR (nA S a k n) = hR S := rfl
theorem hI_sI (S : Hp) (g a : Nat) (v : Int32) (x b : Nat) : hI (sI S g a v) x b = if x = g ∧ b = a then v else hI S x b := rfl
theorem hJ_sJ (S : Hp) (g a : Nat) (v : Int64) (x b : Nat) : hJ (sJ S g a v) x b = if x = g ∧ b = a then v else hJ S x b := rfl
theorem hR_sR (S : Hp) (g a : Nat) (v : Option Nat) (x b : Nat) : hR (sR S g a v) x b = if x = g ∧ b = a then v else hR S x b := rfl
theorem aI_tI (S : Hp) (a j : Nat) (v : Int32) (x b : Nat) : aI (tI S a j v) x b = if x = a ∧ b = j then v else aI S x b := rfl
theorem aJ_tJ (S : Hp) (a j : Nat) (v : Int64) (x b : Nat) : aJ (tJ S a j v) x b = if x = a ∧ b = j then v else aJ S x b := rfl
theorem aR_tR (S : Hp) (a j : Nat) (v : Option Nat) (x b : Nat) : aR (tR S a j v) x b = if x = a ∧ b = j then v else aR S x b := rfl
theorem aI_rI (S : Hp) (a : Nat) (f : Nat → Int32) (x b : Nat) : aI (rI S a f) x b = if x = a then f b else aI S x b := by show va_up (aI S) a f x b = _; unfold va_up; split <;> rfl
theorem hL_nO (S : Hp) (a k : Nat) : hL (nO S a k) = hL S ++ [a] := rfl
theorem hL_nA (S : Hp) (a k n : Nat) : hL (nA S a k n) = hL S ++ [a] := rfl
theorem hK_nO (S : Hp) (a k b : Nat) : hK (nO S a k) b = if b = a then k else hK S b := rfl
theorem hK_nA (S : Hp) (a k n b : Nat) : hK (nA S a k n) b = if b = a then k else hK S b := rfl
theorem hI_nO (S : Hp) (a k x b : Nat) : hI (nO S a k) x b = if b = a then 0 else hI S x b := rfl
theorem hJ_nO (S : Hp) (a k x b : Nat) : hJ (nO S a k) x b = if b = a then 0 else hJ S x b := rfl
theorem hR_nO (S : Hp) (a k x b : Nat) : hR (nO S a k) x b = if b = a then none else hR S x b := rfl
theorem hN_nA (S : Hp) (a k n b : Nat) : hN (nA S a k n) b = if b = a then n else hN S b := rfl
theorem aI_nA (S : Hp) (a k n x b : Nat) : aI (nA S a k n) x b = if x = a then 0 else aI S x b := by show va_up (aI S) a (fun _ => 0) x b = _; unfold va_up; split <;> rfl
theorem aJ_nA (S : Hp) (a k n x b : Nat) : aJ (nA S a k n) x b = if x = a then 0 else aJ S x b := by show va_up (aJ S) a (fun _ => 0) x b = _; unfold va_up; split <;> rfl
theorem aR_nA (S : Hp) (a k n x b : Nat) : aR (nA S a k n) x b = if x = a then none else aR S x b := by show va_up (aR S) a (fun _ => none) x b = _; unfold va_up; split <;> rfl
/-- the sorts of the fields, class by class: 0 whole numbers, 1 longs, 2 references, 3 booleans -/
def ftb : List (List Nat) := [[2, 2, 0, 0, 0, 3, 0, 0, 0, 0, 2, 0, 0, 0, 0], [2, 2, 2, 2, 2, 3, 0, 3, 0, 3, 3, 3, 0, 0, 0, 0, 0, 0, 0, 0, 0], [2, 2, 2, 2, 2, 2, 0, 2, 0, 3], [2, 2, 0, 0, 0, 0, 3, 2, 0, 1, 1, 1, 1, 1, 1, 1, 1, 2, 0, 0, 2], [0, 0, 0, 0, 3, 0, 0, 2], [2, 0, 0, 0, 0, 0, 3, 3, 3, 0, 0, 0, 0], [2, 0, 0, 3, 2, 2, 2, 0, 0, 0], [0, 0, 0, 0, 0, 0, 0, 0, 0, 0, 0, 0, 2], [2], [2, 2, 2, 2, 2, 2, 2, 2, 2, 2, 2, 2, 2, 2, 0, 3, 0, 2, 3], [0, 0, 3, 2], [2, 0, 2, 2, 2, 0, 2, 2, 2, 0, 0, 0], [2, 2, 2, 2, 2, 2, 2, 2, 2, 0, 2, 2, 2, 2, 2, 2, 2, 2, 2, 2, 2, 2, 0, 2, 0, 2, 2, 0, 0, 0, 3, 3, 0, 3, 2, 0, 0, 2, 2, 2, 0, 2, 0, 0, 0, 0, 2, 3, 2, 1, 2, 0, 3, 1, 3, 0, 2, 2, 2, 2, 0, 0, 3, 0, 0, 0, 0, 0, 0, 3, 2, 0, 2, 2, 2, 2, 0, 1, 1, 3]]
def fc (ci k : Nat) : Nat := ((ftb[ci]?).getD []).getD k 9
def fn (ci : Nat) : Nat := ((ftb[ci]?).getD []).length
def fv (S : Hp) (a ci k : Nat) : Value := if fc ci k = 1 then .long (hJ S (100 * ci + k) a) else if fc ci k = 2 then va_rf (hR S (100 * ci + k) a) else .int (hI S (100 * ci + k) a)
def fvl (S : Hp) (a ci : Nat) : List Value := (List.range (fn ci)).map (fv S a ci)
theorem fvl_len (S : Hp) (a ci : Nat) : (fvl S a ci).length = fn ci := by simp [fvl]
theorem fvl_get (S : Hp) (a ci : Nat) {k : Nat} (h : k < fn ci) : (fvl S a ci)[k]? = some (fv S a ci k) := by simp [fvl, h]
def pf (cy : Nat → ClassId) (S : Hp) : Nat → va_E := fun a => if hK S a < 13 then .inr (hK S a, fvl S a (hK S a)) else if hK S a = 15 then .inl (cy 15, hN S a, .inr (.inl (aJ S a))) else if hK S a < 18 then .inl (cy (hK S a), hN S a, .inl (aI S a)) else .inl (cy (hK S a), hN S a, .inr (.inr (.inr (.inr (aR S a)))))
theorem pf_obj {cy : Nat → ClassId} {S : Hp} {a ci : Nat} (h : hK S a = ci) (hc : ci < 13) : pf cy S a = .inr (ci, fvl S a ci) := by simp [pf, h, hc]
theorem pf_J {cy : Nat → ClassId} {S : Hp} {a : Nat} (h : hK S a = 15) : pf cy S a = .inl (cy 15, hN S a, .inr (.inl (aJ S a))) := by simp [pf, h]
theorem pf_I {cy : Nat → ClassId} {S : Hp} {a k : Nat} (h : hK S a = k) (h1 : ¬ k < 13) (h2 : ¬ k = 15) (h3 : k < 18) : pf cy S a = .inl (cy k, hN S a, .inl (aI S a)) := by simp [pf, h, h1, h2, h3]
theorem pf_R {cy : Nat → ClassId} {S : Hp} {a k : Nat} (h : hK S a = k) (h3 : ¬ k < 18) : pf cy S a = .inl (cy k, hN S a, .inr (.inr (.inr (.inr (aR S a))))) := by
  have h1 : ¬ k < 13 := by omega
  have h2 : ¬ k = 15 := by omega
  simp [pf, h, h1, h2, h3]
abbrev pl (cy : Nat → ClassId) (S : Hp) : va_W := va_pl (hL S) (pf cy S)
theorem pl_get {cy : Nat → ClassId} {S : Hp} {a : Nat} (h : a ∈ hL S) : ∃ k : Nat, (pl cy S)[k]? = some (a, pf cy S a) := va_pl_get (X := []) h
theorem list_upd {α : Type} (n k : Nat) (f g : Nat → α) (v : α) (hk : k < n) (h1 : g k = v) (h2 : ∀ j, j < n → j ≠ k → g j = f j) : ((List.range n).map f).set k v = (List.range n).map g := by
  refine List.ext_getElem? fun j => ?_
  rw [List.getElem?_set]
  by_cases e : k = j
  · subst e
    simp [hk, h1]
  · rw [if_neg e]
    by_cases hj : j < n
    · simp [hj, h2 j hj (fun q => e q.symm)]
    · simp [hj]
/-- what is told of an address is all that its row says -/
theorem pf_off {cy : Nat → ClassId} {S S' : Hp} {b : Nat} (h1 : hK S' b = hK S b) (h2 : hN S' b = hN S b) (h3 : ∀ f, hI S' f b = hI S f b) (h4 : ∀ f, hJ S' f b = hJ S f b) (h5 : ∀ f, hR S' f b = hR S f b) (h6 : aI S' b = aI S b) (h7 : aJ S' b = aJ S b) (h8 : aR S' b = aR S b) : pf cy S b = pf cy S' b := by
  have hf : ∀ ci k, fv S' b ci k = fv S b ci k := fun ci k => by simp only [fv, h3, h4, h5]
  have hl : ∀ ci, fvl S' b ci = fvl S b ci := fun ci => List.map_congr_left fun k _ => hf ci k
  simp only [pf, h1, h2, h6, h7, h8, hl]
theorem pf_setI {cy : Nat → ClassId} {S : Hp} {a ci k : Nat} (h : hK S a = ci) (hc : ci < 13) (hk : k < fn ci) (ht1 : fc ci k ≠ 1) (ht2 : fc ci k ≠ 2) (v : Int32) (b : Nat) : va_up (pf cy S) a (.inr (ci, (fvl S a ci).set k (.int v))) b = pf cy (sI S (100 * ci + k) a v) b := by
  by_cases e : b = a
  · subst e
    rw [va_up_self, pf_obj (by exact h) hc]
    refine congrArg (fun l => (Sum.inr (ci, l) : va_E)) (list_upd _ _ _ _ _ hk ?_ fun j _ hj => ?_)
    · simp [fv, ht1, ht2, hI_sI]
    · have : ¬ (100 * ci + j = 100 * ci + k) := by omega
      simp [fv, hI_sI, hJ_sI, hR_sI, this, hj]
  · rw [va_up_ne _ _ e]
    exact pf_off rfl rfl (fun f => by simp [hI_sI, e]) (fun f => rfl) (fun f => rfl) rfl rfl rfl
theorem pf_setJ {cy : Nat → ClassId} {S : Hp} {a ci k : Nat} (h : hK S a = ci) (hc : ci < 13) (hk : k < fn ci) (ht1 : fc ci k = 1) (v : Int64) (b : Nat) : va_up (pf cy S) a (.inr (ci, (fvl S a ci).set k (.long v))) b = pf cy (sJ S (100 * ci + k) a v) b := by
  by_cases e : b = a
  · subst e
    rw [va_up_self, pf_obj (by exact h) hc]
    refine congrArg (fun l => (Sum.inr (ci, l) : va_E)) (list_upd _ _ _ _ _ hk ?_ fun j _ hj => ?_)
    · simp [fv, ht1, hJ_sJ]
    · have : ¬ (100 * ci + j = 100 * ci + k) := by omega
      simp [fv, hI_sJ, hJ_sJ, hR_sJ, this, hj]
  · rw [va_up_ne _ _ e]
    exact pf_off rfl rfl (fun f => rfl) (fun f => by simp [hJ_sJ, e]) (fun f => rfl) rfl rfl rfl
theorem pf_setR {cy : Nat → ClassId} {S : Hp} {a ci k : Nat} (h : hK S a = ci) (hc : ci < 13) (hk : k < fn ci) (ht1 : fc ci k = 2) (v : Option Nat) (b : Nat) : va_up (pf cy S) a (.inr (ci, (fvl S a ci).set k (va_rf v))) b = pf cy (sR S (100 * ci + k) a v) b := by
  by_cases e : b = a
  · subst e
    rw [va_up_self, pf_obj (by exact h) hc]
    refine congrArg (fun l => (Sum.inr (ci, l) : va_E)) (list_upd _ _ _ _ _ hk ?_ fun j _ hj => ?_)
    · simp [fv, ht1, hR_sR]
    · have : ¬ (100 * ci + j = 100 * ci + k) := by omega
      simp [fv, hI_sR, hJ_sR, hR_sR, this, hj]
  · rw [va_up_ne _ _ e]
    exact pf_off rfl rfl (fun f => rfl) (fun f => rfl) (fun f => by simp [hR_sR, e]) rfl rfl rfl
theorem pf_tI {cy : Nat → ClassId} {S : Hp} {a k : Nat} (h : hK S a = k) (h1 : ¬ k < 13) (h2 : ¬ k = 15) (h3 : k < 18) (j : Nat) (v : Int32) (b : Nat) : va_up (pf cy S) a (.inl (cy k, hN S a, .inl (upd (aI S a) j v))) b = pf cy (tI S a j v) b := by
  by_cases e : b = a
  · subst e
    rw [va_up_self, pf_I (by exact h) h1 h2 h3]
    refine congrArg (fun f => (Sum.inl (cy k, hN S b, Sum.inl f) : va_E)) (funext fun i => ?_)
    simp [aI_tI, upd]
  · rw [va_up_ne _ _ e]
    have : aI (tI S a j v) b = aI S b := funext fun i => by simp [aI_tI, e]
    exact pf_off rfl rfl (fun _ => rfl) (fun _ => rfl) (fun _ => rfl) this rfl rfl
theorem pf_rI {cy : Nat → ClassId} {S : Hp} {a k : Nat} (h : hK S a = k) (h1 : ¬ k < 13) (h2 : ¬ k = 15) (h3 : k < 18) (f : Nat → Int32) (b : Nat) : va_up (pf cy S) a (.inl (cy k, hN S a, .inl f)) b = pf cy (rI S a f) b := by
  by_cases e : b = a
  · subst e
    rw [va_up_self, pf_I (by exact h) h1 h2 h3]
    refine congrArg (fun f => (Sum.inl (cy k, hN S b, Sum.inl f) : va_E)) (funext fun i => ?_)
    simp [aI_rI]
  · rw [va_up_ne _ _ e]
    have : aI (rI S a f) b = aI S b := funext fun i => by simp [aI_rI, e]
    exact pf_off rfl rfl (fun _ => rfl) (fun _ => rfl) (fun _ => rfl) this rfl rfl
theorem pf_tJ {cy : Nat → ClassId} {S : Hp} {a : Nat} (h : hK S a = 15) (j : Nat) (v : Int64) (b : Nat) : va_up (pf cy S) a (.inl (cy 15, hN S a, .inr (.inl (vp_updL (aJ S a) j v)))) b = pf cy (tJ S a j v) b := by
  by_cases e : b = a
  · subst e
    rw [va_up_self, pf_J (by exact h)]
    refine congrArg (fun f => (Sum.inl (cy 15, hN S b, Sum.inr (Sum.inl f)) : va_E)) (funext fun i => ?_)
    simp [aJ_tJ, vp_updL]
  · rw [va_up_ne _ _ e]
    have : aJ (tJ S a j v) b = aJ S b := funext fun i => by simp [aJ_tJ, e]
    exact pf_off rfl rfl (fun _ => rfl) (fun _ => rfl) (fun _ => rfl) rfl this rfl
theorem pf_tR {cy : Nat → ClassId} {S : Hp} {a k : Nat} (h : hK S a = k) (h3 : ¬ k < 18) (j : Nat) (v : Option Nat) (b : Nat) : va_up (pf cy S) a (.inl (cy k, hN S a, .inr (.inr (.inr (.inr (va_up (aR S a) j v)))))) b = pf cy (tR S a j v) b := by
  by_cases e : b = a
  · subst e
    rw [va_up_self, pf_R (by exact h) h3]
    refine congrArg (fun f => (Sum.inl (cy k, hN S b, Sum.inr (Sum.inr (Sum.inr (Sum.inr f)))) : va_E)) (funext fun i => ?_)
    simp [aR_tR, va_up]
  · rw [va_up_ne _ _ e]
    have : aR (tR S a j v) b = aR S b := funext fun i => by simp [aR_tR, e]
    exact pf_off rfl rfl (fun _ => rfl) (fun _ => rfl) (fun _ => rfl) rfl rfl this
def dv (ci : Nat) : List Value := (List.range (fn ci)).map fun k => if fc ci k = 1 then .long 0 else if fc ci k = 2 then .null else .int 0
theorem pf_nO {cy : Nat → ClassId} {S : Hp} {a ci : Nat} (hc : ci < 13) (b : Nat) : va_up (pf cy S) a (.inr (ci, dv ci)) b = pf cy (nO S a ci) b := by
  by_cases e : b = a
  · subst e
    rw [va_up_self, pf_obj (ci := ci) (by simp [hK_nO]) hc]
    refine congrArg (fun l => (Sum.inr (ci, l) : va_E)) (List.map_congr_left fun k _ => ?_)
    simp only [fv, hI_nO, hJ_nO, hR_nO, if_true]
    by_cases q1 : fc ci k = 1 <;> by_cases q2 : fc ci k = 2 <;> simp [q1, q2, va_rf]
  · rw [va_up_ne _ _ e]
    exact pf_off (by simp [hK_nO, e]) rfl (fun f => by simp [hI_nO, e]) (fun f => by simp [hJ_nO, e]) (fun f => by simp [hR_nO, e]) rfl rfl rfl
theorem pf_nA_off {cy : Nat → ClassId} {S : Hp} {a k n b : Nat} (e : b ≠ a) : pf cy S b = pf cy (nA S a k n) b := by
  have h1 : aI (nA S a k n) b = aI S b := funext fun i => by simp [aI_nA, e]
  have h2 : aJ (nA S a k n) b = aJ S b := funext fun i => by simp [aJ_nA, e]
  have h3 : aR (nA S a k n) b = aR S b := funext fun i => by simp [aR_nA, e]
  exact pf_off (by simp [hK_nA, e]) (by simp [hN_nA, e]) (fun _ => rfl) (fun _ => rfl) (fun _ => rfl) h1 h2 h3
theorem pf_nAI {cy : Nat → ClassId} {S : Hp} {a k n : Nat} (h1 : ¬ k < 13) (h2 : ¬ k = 15) (h3 : k < 18) (b : Nat) : va_up (pf cy S) a (.inl (cy k, n, .inl (fun _ => 0))) b = pf cy (nA S a k n) b := by
  by_cases e : b = a
  · subst e
    rw [va_up_self, pf_I (k := k) (by simp [hK_nA]) h1 h2 h3]
    have : aI (nA S b k n) b = fun _ => 0 := funext fun i => by simp [aI_nA]
    simp [hN_nA, this]
  · rw [va_up_ne _ _ e, pf_nA_off e]
theorem pf_nAJ {cy : Nat → ClassId} {S : Hp} {a n : Nat} (b : Nat) : va_up (pf cy S) a (.inl (cy 15, n, .inr (.inl (fun _ => 0)))) b = pf cy (nA S a 15 n) b := by
  by_cases e : b = a
  · subst e
    rw [va_up_self, pf_J (by simp [hK_nA])]
    have : aJ (nA S b 15 n) b = fun _ => 0 := funext fun i => by simp [aJ_nA]
    simp [hN_nA, this]
  · rw [va_up_ne _ _ e, pf_nA_off e]
theorem pf_nAR {cy : Nat → ClassId} {S : Hp} {a k n : Nat} (h3 : ¬ k < 18) (b : Nat) : va_up (pf cy S) a (.inl (cy k, n, .inr (.inr (.inr (.inr (fun _ => none)))))) b = pf cy (nA S a k n) b := by
  by_cases e : b = a
  · subst e
    rw [va_up_self, pf_R (k := k) (by simp [hK_nA]) h3]
    have : aR (nA S b k n) b = fun _ => none := funext fun i => by simp [aR_nA]
    simp [hN_nA, this]
  · rw [va_up_ne _ _ e, pf_nA_off e]
/-- a cell of the pool is written -/
theorem pl_set {cy : Nat → ClassId} {S S' : Hp} {A : Nat → Prop} {a k : Nat} {e : va_E} (hD : va_D A (pl cy S)) (h : a ∈ hL S) (hk : (pl cy S)[k]? = some (a, pf cy S a)) (hL : hL S' = hL S) (hf : ∀ b, va_up (pf cy S) a e b = pf cy S' b) : (pl cy S).set k (a, e) = pl cy S' := by
  have h1 := va_pl_set (X := []) (e := e) hD h hk
  simp only [List.nil_append] at h1
  rw [h1, pl, hL]
  exact va_pl_congr hf
/-- a cell comes to the pool -/
theorem pl_push {cy : Nat → ClassId} {S S' : Hp} {a : Nat} {e : va_E} (h : a ∉ hL S) (hL : hL S' = hL S ++ [a]) (hf : ∀ b, va_up (pf cy S) a e b = pf cy S' b) : pl cy S ++ [(a, e)] = pl cy S' := by
  rw [pl, va_pl_push h, pl, hL]
  exact va_pl_congr hf
end
section
/-! The table's words by name: fields' links, methods' links, constants; static arrays and texts. -/
def isNest : Cond → Bool
  | .fieldLinkNest .. => true
  | .methodLinkNest .. => true
  | _ => false
/-- the words that any method may use: one table for all -/
def TBL : List Cond := lw_tbl.filter goodWord
def NST : List Cond := lw_tbl.filter isNest
theorem inT {w : Cond} {l : List Cond} (hl : ∀ w ∈ l, w ∈ lw_tbl) (i : Nat) (h : l[i]? = some w) (g : goodWord w = true) : w ∈ TBL := List.mem_filter.mpr ⟨hl _ (List.mem_of_getElem? h), g⟩
theorem inN {w : Cond} {l : List Cond} (hl : ∀ w ∈ l, w ∈ lw_tbl) (i : Nat) (h : l[i]? = some w) (g : isNest w = true) : w ∈ NST := List.mem_filter.mpr ⟨hl _ (List.mem_of_getElem? h), g⟩
theorem goodT {y : MethodName} {cc : ByteArray} {maxL : Nat} {ret : Option FieldType} (h : Cond.code y cc maxL ret ∈ TBL) : GoodIn TBL (Cond.code y cc maxL ret :: TBL) := fun w hw => by
  have h1 : w ∈ TBL := (List.mem_cons.mp hw).elim (fun e => e ▸ h) id
  exact ⟨h1, good_of_word (List.mem_filter.mp h1).2⟩
theorem inT_list {ws : List Cond} (ps : List Nat) (hp : ws = ps.filterMap (fun i => lw_tbl[i]?)) (h : ws.all goodWord = true) : ∀ w ∈ ws, w ∈ TBL := fun w hw => by
  have h1 := List.all_eq_true.mp h w hw
  rw [hp] at hw
  obtain ⟨i, -, hi⟩ := List.mem_filterMap.mp hw
  exact inT (fun w h => h) i hi h1
theorem mt_0 : ∀ w ∈ k2_sels lw_privs, w ∈ lw_tbl := fun w h => List.mem_append_left _ h
theorem mt_1 : ∀ w ∈ tables_1_1, w ∈ lw_tbl := fun w h => List.mem_append_right _ (List.mem_append_left _ h)
theorem mt_2 : ∀ w ∈ tables_1_2, w ∈ lw_tbl := fun w h => List.mem_append_right _ (List.mem_append_right _ (List.mem_append_left _ h))
theorem mt_3 : ∀ w ∈ tables_1_3, w ∈ lw_tbl := fun w h => List.mem_append_right _ (List.mem_append_right _ (List.mem_append_right _ (List.mem_append_left _ h)))
theorem mt_4 : ∀ w ∈ tables_1_4, w ∈ lw_tbl := fun w h => List.mem_append_right _ (List.mem_append_right _ (List.mem_append_right _ (List.mem_append_right _ (List.mem_append_left _ h))))
theorem mt_5 : ∀ w ∈ tables_1_5, w ∈ lw_tbl := fun w h => List.mem_append_right _ (List.mem_append_right _ (List.mem_append_right _ (List.mem_append_right _ (List.mem_append_right _ (List.mem_append_left _ h)))))
theorem mt_6 : ∀ w ∈ tables_1_6, w ∈ lw_tbl := fun w h => List.mem_append_right _ (List.mem_append_right _ (List.mem_append_right _ (List.mem_append_right _ (List.mem_append_right _ (List.mem_append_right _ (List.mem_append_left _ h))))))
theorem mt_7 : ∀ w ∈ tables_1_7, w ∈ lw_tbl := fun w h => List.mem_append_right _ (List.mem_append_right _ (List.mem_append_right _ (List.mem_append_right _ (List.mem_append_right _ (List.mem_append_right _ (List.mem_append_right _ (List.mem_append_left _ h)))))))
theorem mt_8 : ∀ w ∈ tables_1_8, w ∈ lw_tbl := fun w h => List.mem_append_right _ (List.mem_append_right _ (List.mem_append_right _ (List.mem_append_right _ (List.mem_append_right _ (List.mem_append_right _ (List.mem_append_right _ (List.mem_append_right _ (List.mem_append_left _ h))))))))
theorem mt_9 : ∀ w ∈ tables_1_9, w ∈ lw_tbl := fun w h => List.mem_append_right _ (List.mem_append_right _ (List.mem_append_right _ (List.mem_append_right _ (List.mem_append_right _ (List.mem_append_right _ (List.mem_append_right _ (List.mem_append_right _ (List.mem_append_right _ (List.mem_append_left _ h)))))))))
theorem mt_10 : ∀ w ∈ tables_1_10, w ∈ lw_tbl := fun w h => List.mem_append_right _ (List.mem_append_right _ (List.mem_append_right _ (List.mem_append_right _ (List.mem_append_right _ (List.mem_append_right _ (List.mem_append_right _ (List.mem_append_right _ (List.mem_append_right _ (List.mem_append_right _ (List.mem_append_left _ h))))))))))
theorem mt_11 : ∀ w ∈ tables_1_11, w ∈ lw_tbl := fun w h => List.mem_append_right _ (List.mem_append_right _ (List.mem_append_right _ (List.mem_append_right _ (List.mem_append_right _ (List.mem_append_right _ (List.mem_append_right _ (List.mem_append_right _ (List.mem_append_right _ (List.mem_append_right _ (List.mem_append_right _ (h)))))))))))
set_option maxRecDepth 100000 in
theorem nst_tab : NST.all (fun w => w.onTables) = true := by decide +kernel
/-- a field's type, by class and slot -/
def fty (ci s : Nat) : FieldType := match ci with
  | 0 => tyX0 s
  | 1 => tyX1 s
  | 2 => tyX2 s
  | 3 => tyX3 s
  | 4 => tyX4 s
  | 5 => tyX5 s
  | 6 => tyX6 s
  | 7 => tyX7 s
  | 8 => tyX8 s
  | 9 => tyX9 s
  | 10 => tyX10 s
  | 11 => tyX11 s
  | 12 => tyX12 s
  | _ => .int
def clOk (ci : Nat) (r : vw_C) : Prop := r.2.2 = fn ci ∧ (∀ w ∈ u_ws r.1 r.2.1 r.2.2, w ∈ TBL) ∧ (∀ a, a < r.2.2 → ∀ b, b < r.2.2 → a ≠ b → (r.2.1 a).2.1 ≠ (r.2.1 b).2.1) ∧ ∀ s, s < r.2.2 → (r.2.1 s).1 = r.1 ∧ parseFieldDescriptor (r.2.1 s).2.2.1 = some (fty ci s)
set_option maxRecDepth 100000 in
theorem cl_0 : clOk 0 (RX0, TX0, 15) := ⟨by decide, inT_list [327, 329, 331, 333, 335, 337, 339, 341, 343, 345, 347, 349, 351, 353, 355] (by decide +kernel) (by decide +kernel), nmX0, fun s hs => ⟨(show ∀ s, s < 15 → (TX0 s).1 = RX0 by decide +kernel) s hs, tyX0_ok s hs⟩⟩
set_option maxRecDepth 100000 in
theorem cl_1 : clOk 1 (RX1, TX1, 21) := ⟨by decide, inT_list [580, 582, 584, 586, 588, 590, 592, 594, 596, 598, 600, 602, 604, 606, 608, 610, 612, 614, 616, 618, 620] (by decide +kernel) (by decide +kernel), nmX1, fun s hs => ⟨(show ∀ s, s < 21 → (TX1 s).1 = RX1 by decide +kernel) s hs, tyX1_ok s hs⟩⟩
set_option maxRecDepth 100000 in
theorem cl_2 : clOk 2 (RX2, TX2, 10) := ⟨by decide, inT_list [399, 401, 403, 405, 407, 409, 411, 413, 415, 417] (by decide +kernel) (by decide +kernel), nmX2, fun s hs => ⟨(show ∀ s, s < 10 → (TX2 s).1 = RX2 by decide +kernel) s hs, tyX2_ok s hs⟩⟩
set_option maxRecDepth 100000 in
theorem cl_3 : clOk 3 (RX3, TX3, 21) := ⟨by decide, inT_list [771, 773, 775, 777, 779, 781, 783, 785, 787, 789, 791, 793, 795, 797, 799, 801, 803, 805, 807, 809, 811] (by decide +kernel) (by decide +kernel), nmX3, fun s hs => ⟨(show ∀ s, s < 21 → (TX3 s).1 = RX3 by decide +kernel) s hs, tyX3_ok s hs⟩⟩
set_option maxRecDepth 100000 in
theorem cl_4 : clOk 4 (RX4, TX4, 8) := ⟨by decide, inT_list [515, 517, 519, 521, 523, 525, 527, 529] (by decide +kernel) (by decide +kernel), nmX4, fun s hs => ⟨(show ∀ s, s < 8 → (TX4 s).1 = RX4 by decide +kernel) s hs, tyX4_ok s hs⟩⟩
set_option maxRecDepth 100000 in
theorem cl_5 : clOk 5 (RX5, TX5, 13) := ⟨by decide, inT_list [653, 655, 657, 659, 661, 663, 665, 667, 669, 671, 673, 675, 677] (by decide +kernel) (by decide +kernel), nmX5, fun s hs => ⟨(show ∀ s, s < 13 → (TX5 s).1 = RX5 by decide +kernel) s hs, tyX5_ok s hs⟩⟩
set_option maxRecDepth 100000 in
theorem cl_6 : clOk 6 (RX6, TX6, 10) := ⟨by decide, inT_list [251, 253, 255, 257, 259, 261, 263, 265, 267, 269] (by decide +kernel) (by decide +kernel), nmX6, fun s hs => ⟨(show ∀ s, s < 10 → (TX6 s).1 = RX6 by decide +kernel) s hs, tyX6_ok s hs⟩⟩
set_option maxRecDepth 100000 in
theorem cl_7 : clOk 7 (RX7, TX7, 13) := ⟨by decide, inT_list [464, 466, 468, 470, 472, 474, 476, 478, 480, 482, 484, 486, 488] (by decide +kernel) (by decide +kernel), nmX7, fun s hs => ⟨(show ∀ s, s < 13 → (TX7 s).1 = RX7 by decide +kernel) s hs, tyX7_ok s hs⟩⟩
set_option maxRecDepth 100000 in
theorem cl_8 : clOk 8 (RX8, TX8, 1) := ⟨by decide, inT_list [371] (by decide +kernel) (by decide +kernel), nmX8, fun s hs => ⟨(show ∀ s, s < 1 → (TX8 s).1 = RX8 by decide +kernel) s hs, tyX8_ok s hs⟩⟩
set_option maxRecDepth 100000 in
theorem cl_9 : clOk 9 (RX9, TX9, 19) := ⟨by decide, inT_list [699, 701, 703, 705, 707, 709, 711, 713, 715, 717, 719, 721, 723, 725, 727, 729, 731, 733, 735] (by decide +kernel) (by decide +kernel), nmX9, fun s hs => ⟨(show ∀ s, s < 19 → (TX9 s).1 = RX9 by decide +kernel) s hs, tyX9_ok s hs⟩⟩
set_option maxRecDepth 100000 in
theorem cl_10 : clOk 10 (RX10, TX10, 4) := ⟨by decide, inT_list [297, 299, 301, 303] (by decide +kernel) (by decide +kernel), nmX10, fun s hs => ⟨(show ∀ s, s < 4 → (TX10 s).1 = RX10 by decide +kernel) s hs, tyX10_ok s hs⟩⟩
set_option maxRecDepth 100000 in
theorem cl_11 : clOk 11 (RX11, TX11, 12) := ⟨by decide, inT_list [827, 829, 831, 833, 835, 837, 839, 841, 843, 845, 847, 849] (by decide +kernel) (by decide +kernel), nmX11, fun s hs => ⟨(show ∀ s, s < 12 → (TX11 s).1 = RX11 by decide +kernel) s hs, tyX11_ok s hs⟩⟩
set_option maxRecDepth 100000 in
theorem cl_12 : clOk 12 (RX12, TX12, 80) := ⟨by decide, inT_list [1991, 1993, 1995, 1997, 1999, 2001, 2003, 2005, 2007, 2009, 2011, 2013, 2015, 2017, 2019, 2021, 2023, 2025, 2027, 2029, 2031, 2033, 2035, 2037, 2039, 2041, 2043, 2045, 2047, 2049, 2051, 2053, 2055, 2057, 2059, 2061, 2063, 2065, 2067, 2069, 2071, 2073, 2075, 2077, 2079, 2081, 2083, 2085, 2087, 2089, 2091, 2093, 2095, 2097, 2099, 2101, 2103, 2105, 2107, 2109, 2111, 2113, 2115, 2117, 2119, 2121, 2123, 2125, 2127, 2129, 2131, 2133, 2135, 2137, 2139, 2141, 2143, 2145, 2147, 2149] (by decide +kernel) (by decide +kernel), nmX12, fun s hs => ⟨(show ∀ s, s < 80 → (TX12 s).1 = RX12 by decide +kernel) s hs, tyX12_ok s hs⟩⟩
theorem cl_ok (ci : Nat) (r : vw_C) (h : vwCl[ci]? = some r) : clOk ci r := by
  match ci, h with
  | 0, h => cases h; exact cl_0
  | 1, h => cases h; exact cl_1
  | 2, h => cases h; exact cl_2
  | 3, h => cases h; exact cl_3
  | 4, h => cases h; exact cl_4
  | 5, h => cases h; exact cl_5
  | 6, h => cases h; exact cl_6
  | 7, h => cases h; exact cl_7
  | 8, h => cases h; exact cl_8
  | 9, h => cases h; exact cl_9
  | 10, h => cases h; exact cl_10
  | 11, h => cases h; exact cl_11
  | 12, h => cases h; exact cl_12
  | k + 13, h => simp [vwCl] at h
/-- a field's link: its class and slot, the word (or the nest mates' word) of the constant pool -/
def FL (own : String) (idx ci s : Nat) : Prop := ∃ r : vw_C, vwCl[ci]? = some r ∧ s < r.2.2 ∧ (Cond.fieldLink own idx r.1 (r.2.1 s).2.1 (r.2.1 s).2.2.1 ∈ TBL ∨ ∃ host, Cond.fieldLinkNest own idx r.1 (r.2.1 s).2.1 (r.2.1 s).2.2.1 host ∈ NST)
/-- the same, its own class' field, to be written by its constructor -/
def FLo (own : String) (idx ci s : Nat) : Prop := ∃ r : vw_C, vwCl[ci]? = some r ∧ s < r.2.2 ∧ r.1 = own ∧ Cond.fieldLink own idx r.1 (r.2.1 s).2.1 (r.2.1 s).2.2.1 ∈ TBL
/-- a method's link, plain or of a nest mate -/
def ML (own : String) (idx : Nat) (y : MethodName) : Prop := Cond.methodLink own idx y ∈ TBL ∨ ∃ host, Cond.methodLinkNest own idx y host ∈ NST
/-- a method: initialised, its code, how many arguments -/
def MC (y : MethodName) (cc : ByteArray) (maxL : Nat) (ret : Option FieldType) (np : Nat) : Prop := Cond.initialized y.cls ∈ TBL ∧ Cond.code y cc maxL ret ∈ TBL ∧ (y.cls ≠ "java/lang/invoke/MethodHandle" ∧ y.cls ≠ "java/lang/invoke/VarHandle") ∧ (parseMethodDescriptor y.desc).map (fun d => d.parameters.length) = some np
def MCv (y : MethodName) (cc : ByteArray) (maxL : Nat) (ret : Option FieldType) (np : Nat) : Prop := MC y cc maxL ret np ∧ Cond.instanceMethod y ∈ TBL ∧ Cond.selects y.cls y y ∈ TBL
def MCi (y : MethodName) (cc : ByteArray) (maxL : Nat) (np : Nat) : Prop := MC y cc maxL none np ∧ Cond.instanceMethod y ∈ TBL ∧ y.name = "<init>"
def MCs (y : MethodName) (cc : ByteArray) (maxL : Nat) (ret : Option FieldType) (np : Nat) : Prop := MC y cc maxL ret np ∧ Cond.static y ∈ TBL
theorem kiL : Cond.initialized RL ∈ TBL := inT mt_1 0 (by decide +kernel) rfl
theorem kiX11 : Cond.initialized RX11 ∈ TBL := inT mt_1 1 (by decide +kernel) rfl
theorem kiX6 : Cond.initialized RX6 ∈ TBL := inT mt_1 2 (by decide +kernel) rfl
theorem kiX9 : Cond.initialized RX9 ∈ TBL := inT mt_1 3 (by decide +kernel) rfl
theorem kiX0 : Cond.initialized RX0 ∈ TBL := inT mt_1 4 (by decide +kernel) rfl
theorem kiX10 : Cond.initialized RX10 ∈ TBL := inT mt_1 5 (by decide +kernel) rfl
theorem kiX2 : Cond.initialized RX2 ∈ TBL := inT mt_1 6 (by decide +kernel) rfl
theorem kiX8 : Cond.initialized RX8 ∈ TBL := inT mt_1 7 (by decide +kernel) rfl
theorem kiJ7 : Cond.initialized RJ7 ∈ TBL := inT mt_1 8 (by decide +kernel) rfl
theorem kiJ10 : Cond.initialized RJ10 ∈ TBL := inT mt_1 9 (by decide +kernel) rfl
theorem kiX1 : Cond.initialized RX1 ∈ TBL := inT mt_1 10 (by decide +kernel) rfl
theorem kiX7 : Cond.initialized RX7 ∈ TBL := inT mt_1 11 (by decide +kernel) rfl
theorem kiX4 : Cond.initialized RX4 ∈ TBL := inT mt_1 12 (by decide +kernel) rfl
theorem kiX5 : Cond.initialized RX5 ∈ TBL := inT mt_1 13 (by decide +kernel) rfl
theorem kiX3 : Cond.initialized RX3 ∈ TBL := inT mt_1 14 (by decide +kernel) rfl
theorem kiX12 : Cond.initialized RX12 ∈ TBL := inT mt_1 15 (by decide +kernel) rfl
theorem kiJ0 : Cond.initialized RJ0 ∈ TBL := inT mt_1 16 (by decide +kernel) rfl
theorem kiJ1 : Cond.initialized RJ1 ∈ TBL := inT mt_1 17 (by decide +kernel) rfl
theorem kiJ3 : Cond.initialized RJ3 ∈ TBL := inT mt_1 18 (by decide +kernel) rfl
theorem kiJ2 : Cond.initialized RJ2 ∈ TBL := inT mt_1 19 (by decide +kernel) rfl
theorem kiJ9 : Cond.initialized RJ9 ∈ TBL := inT mt_1 20 (by decide +kernel) rfl
theorem kiJ6 : Cond.initialized RJ6 ∈ TBL := inT mt_1 21 (by decide +kernel) rfl
theorem klL_7 : Cond.classLink RL 7 RX11 ∈ TBL := inT mt_1 22 (by decide +kernel) rfl
theorem knX11 : Cond.instantiable RX11 12 ∈ TBL := inT mt_1 23 (by decide +kernel) rfl
theorem mlL_9 : ML RL 9 yX11_init := Or.inl (inT mt_1 24 (by decide +kernel) rfl)
set_option maxRecDepth 100000 in
theorem mcX11_init : MCi yX11_init cX11_init 1 0 := ⟨⟨inT mt_1 1 (by decide +kernel) rfl, inT mt_1 26 rfl rfl, ⟨by decide +kernel, by decide +kernel⟩, by decide +kernel⟩, inT mt_1 25 (by decide +kernel) rfl, rfl⟩
theorem mlX11_1 : ML RX11 1 objectInit := Or.inl (inT mt_1 27 (by decide +kernel) rfl)
theorem klX11_30 : Cond.classLink RX11 30 RX6 ∈ TBL := inT mt_1 30 (by decide +kernel) rfl
theorem knX6 : Cond.instantiable RX6 10 ∈ TBL := inT mt_1 31 (by decide +kernel) rfl
theorem mlX11_32 : ML RX11 32 yX6_init := Or.inr ⟨"PrinterHouse", inN mt_1 32 (by decide +kernel) rfl⟩
set_option maxRecDepth 100000 in
theorem mcX6_init : MCi yX6_init cX6_init 1 0 := ⟨⟨inT mt_1 2 (by decide +kernel) rfl, inT mt_1 34 rfl rfl, ⟨by decide +kernel, by decide +kernel⟩, by decide +kernel⟩, inT mt_1 33 (by decide +kernel) rfl, rfl⟩
theorem mlX6_3 : ML RX6 3 objectInit := Or.inl (inT mt_1 35 (by decide +kernel) rfl)
theorem kcX6_11 : Cond.constant RX6 11 (60000) ∈ TBL := inT mt_1 36 (by decide +kernel) rfl
theorem klX6_23 : Cond.classLink RX6 23 "[[I" ∈ TBL := inT mt_1 37 (by decide +kernel) rfl
theorem ko_int_at : lw_tbl[232]? = some (Cond.arrayOver (.array .int)) := by decide +kernel
theorem flX6_12 : FL RX6 12 6 0 := ⟨(RX6, TX6, 10), rfl, by decide, Or.inl (inT mt_1 39 (by decide +kernel) rfl)⟩
theorem flX6_12o : FLo RX6 12 6 0 := ⟨(RX6, TX6, 10), rfl, by decide, rfl, inT mt_1 39 (by decide +kernel) rfl⟩
theorem flX11_110 : FL RX11 110 6 0 := ⟨(RX6, TX6, 10), rfl, by decide, Or.inr ⟨"PrinterHouse", inN mt_1 40 (by decide +kernel) rfl⟩⟩
theorem flX6_28 : FL RX6 28 6 1 := ⟨(RX6, TX6, 10), rfl, by decide, Or.inl (inT mt_1 41 (by decide +kernel) rfl)⟩
theorem flX11_99 : FL RX11 99 6 1 := ⟨(RX6, TX6, 10), rfl, by decide, Or.inr ⟨"PrinterHouse", inN mt_1 42 (by decide +kernel) rfl⟩⟩
theorem flX6_32 : FL RX6 32 6 2 := ⟨(RX6, TX6, 10), rfl, by decide, Or.inl (inT mt_1 43 (by decide +kernel) rfl)⟩
theorem flX11_93 : FL RX11 93 6 2 := ⟨(RX6, TX6, 10), rfl, by decide, Or.inr ⟨"PrinterHouse", inN mt_1 44 (by decide +kernel) rfl⟩⟩
theorem flX6_35 : FL RX6 35 6 3 := ⟨(RX6, TX6, 10), rfl, by decide, Or.inl (inT mt_1 45 (by decide +kernel) rfl)⟩
theorem flX9_95 : FL RX9 95 6 3 := ⟨(RX6, TX6, 10), rfl, by decide, Or.inr ⟨"PrinterHouse", inN mt_1 46 (by decide +kernel) rfl⟩⟩
theorem flX3_118 : FL RX3 118 6 3 := ⟨(RX6, TX6, 10), rfl, by decide, Or.inr ⟨"PrinterHouse", inN mt_1 47 (by decide +kernel) rfl⟩⟩
theorem flX6_16 : FL RX6 16 6 4 := ⟨(RX6, TX6, 10), rfl, by decide, Or.inl (inT mt_1 48 (by decide +kernel) rfl)⟩
theorem flX6_16o : FLo RX6 16 6 4 := ⟨(RX6, TX6, 10), rfl, by decide, rfl, inT mt_1 48 (by decide +kernel) rfl⟩
theorem flX11_117 : FL RX11 117 6 4 := ⟨(RX6, TX6, 10), rfl, by decide, Or.inr ⟨"PrinterHouse", inN mt_1 49 (by decide +kernel) rfl⟩⟩
theorem flX6_20 : FL RX6 20 6 5 := ⟨(RX6, TX6, 10), rfl, by decide, Or.inl (inT mt_1 50 (by decide +kernel) rfl)⟩
theorem flX6_20o : FLo RX6 20 6 5 := ⟨(RX6, TX6, 10), rfl, by decide, rfl, inT mt_1 50 (by decide +kernel) rfl⟩
theorem flX11_120 : FL RX11 120 6 5 := ⟨(RX6, TX6, 10), rfl, by decide, Or.inr ⟨"PrinterHouse", inN mt_1 51 (by decide +kernel) rfl⟩⟩
theorem flX6_25 : FL RX6 25 6 6 := ⟨(RX6, TX6, 10), rfl, by decide, Or.inl (inT mt_1 52 (by decide +kernel) rfl)⟩
theorem flX6_25o : FLo RX6 25 6 6 := ⟨(RX6, TX6, 10), rfl, by decide, rfl, inT mt_1 52 (by decide +kernel) rfl⟩
theorem flX11_127 : FL RX11 127 6 6 := ⟨(RX6, TX6, 10), rfl, by decide, Or.inr ⟨"PrinterHouse", inN mt_1 53 (by decide +kernel) rfl⟩⟩
theorem flX6_63 : FL RX6 63 6 7 := ⟨(RX6, TX6, 10), rfl, by decide, Or.inl (inT mt_1 54 (by decide +kernel) rfl)⟩
theorem flX6_66 : FL RX6 66 6 8 := ⟨(RX6, TX6, 10), rfl, by decide, Or.inl (inT mt_1 55 (by decide +kernel) rfl)⟩
theorem flX6_69 : FL RX6 69 6 9 := ⟨(RX6, TX6, 10), rfl, by decide, Or.inl (inT mt_1 56 (by decide +kernel) rfl)⟩
theorem ka_byte : Cond.arrayClass .byte ∈ TBL := inT mt_1 78 (by decide +kernel) rfl
theorem ka_int : Cond.arrayClass .int ∈ TBL := inT mt_1 79 (by decide +kernel) rfl
theorem klX11_37 : Cond.classLink RX11 37 RX9 ∈ TBL := inT mt_1 80 (by decide +kernel) rfl
theorem knX9 : Cond.instantiable RX9 19 ∈ TBL := inT mt_1 81 (by decide +kernel) rfl
theorem mlX11_39 : ML RX11 39 yX9_init := Or.inl (inT mt_1 82 (by decide +kernel) rfl)
set_option maxRecDepth 100000 in
theorem mcX9_init : MCi yX9_init cX9_init 3 1 := ⟨⟨inT mt_1 3 (by decide +kernel) rfl, inT mt_1 84 rfl rfl, ⟨by decide +kernel, by decide +kernel⟩, by decide +kernel⟩, inT mt_1 83 (by decide +kernel) rfl, rfl⟩
theorem mlX9_3 : ML RX9 3 objectInit := Or.inl (inT mt_1 85 (by decide +kernel) rfl)
theorem klX9_9 : Cond.classLink RX9 9 RX0 ∈ TBL := inT mt_1 86 (by decide +kernel) rfl
theorem knX0 : Cond.instantiable RX0 15 ∈ TBL := inT mt_1 87 (by decide +kernel) rfl
theorem mlX9_11 : ML RX9 11 yX0_init := Or.inr ⟨"PrinterHouse", inN mt_1 88 (by decide +kernel) rfl⟩
set_option maxRecDepth 100000 in
theorem mcX0_init : MCi yX0_init cX0_init 1 0 := ⟨⟨inT mt_1 4 (by decide +kernel) rfl, inT mt_1 90 rfl rfl, ⟨by decide +kernel, by decide +kernel⟩, by decide +kernel⟩, inT mt_1 89 (by decide +kernel) rfl, rfl⟩
theorem mlX0_3 : ML RX0 3 objectInit := Or.inl (inT mt_1 91 (by decide +kernel) rfl)
theorem klX0_18 : Cond.classLink RX0 18 RX10 ∈ TBL := inT mt_1 92 (by decide +kernel) rfl
theorem knX10 : Cond.instantiable RX10 4 ∈ TBL := inT mt_1 93 (by decide +kernel) rfl
theorem mlX0_20 : ML RX0 20 yX10_init := Or.inr ⟨"PrinterHouse", inN mt_1 94 (by decide +kernel) rfl⟩
set_option maxRecDepth 100000 in
theorem mcX10_init : MCi yX10_init cX10_init 1 0 := ⟨⟨inT mt_1 5 (by decide +kernel) rfl, inT mt_1 96 rfl rfl, ⟨by decide +kernel, by decide +kernel⟩, by decide +kernel⟩, inT mt_1 95 (by decide +kernel) rfl, rfl⟩
theorem mlX10_1 : ML RX10 1 objectInit := Or.inl (inT mt_1 97 (by decide +kernel) rfl)
theorem flX10_7 : FL RX10 7 10 0 := ⟨(RX10, TX10, 4), rfl, by decide, Or.inl (inT mt_1 98 (by decide +kernel) rfl)⟩
theorem flX10_13 : FL RX10 13 10 1 := ⟨(RX10, TX10, 4), rfl, by decide, Or.inl (inT mt_1 99 (by decide +kernel) rfl)⟩
theorem flX10_20 : FL RX10 20 10 2 := ⟨(RX10, TX10, 4), rfl, by decide, Or.inl (inT mt_1 100 (by decide +kernel) rfl)⟩
theorem flX0_71 : FL RX0 71 10 2 := ⟨(RX10, TX10, 4), rfl, by decide, Or.inr ⟨"PrinterHouse", inN mt_1 101 (by decide +kernel) rfl⟩⟩
theorem flX10_16 : FL RX10 16 10 3 := ⟨(RX10, TX10, 4), rfl, by decide, Or.inl (inT mt_1 102 (by decide +kernel) rfl)⟩
theorem flX10_16o : FLo RX10 16 10 3 := ⟨(RX10, TX10, 4), rfl, by decide, rfl, inT mt_1 102 (by decide +kernel) rfl⟩
theorem ka_long : Cond.arrayClass .long ∈ TBL := inT mt_1 112 (by decide +kernel) rfl
theorem flX0_11 : FL RX0 11 0 0 := ⟨(RX0, TX0, 15), rfl, by decide, Or.inl (inT mt_1 113 (by decide +kernel) rfl)⟩
theorem flX0_11o : FLo RX0 11 0 0 := ⟨(RX0, TX0, 15), rfl, by decide, rfl, inT mt_1 113 (by decide +kernel) rfl⟩
theorem flX0_15 : FL RX0 15 0 1 := ⟨(RX0, TX0, 15), rfl, by decide, Or.inl (inT mt_1 114 (by decide +kernel) rfl)⟩
theorem flX0_15o : FLo RX0 15 0 1 := ⟨(RX0, TX0, 15), rfl, by decide, rfl, inT mt_1 114 (by decide +kernel) rfl⟩
theorem flX0_39 : FL RX0 39 0 2 := ⟨(RX0, TX0, 15), rfl, by decide, Or.inl (inT mt_1 115 (by decide +kernel) rfl)⟩
theorem flX9_505 : FL RX9 505 0 2 := ⟨(RX0, TX0, 15), rfl, by decide, Or.inr ⟨"PrinterHouse", inN mt_1 116 (by decide +kernel) rfl⟩⟩
theorem flX0_25 : FL RX0 25 0 3 := ⟨(RX0, TX0, 15), rfl, by decide, Or.inl (inT mt_1 117 (by decide +kernel) rfl)⟩
theorem flX9_189 : FL RX9 189 0 3 := ⟨(RX0, TX0, 15), rfl, by decide, Or.inr ⟨"PrinterHouse", inN mt_1 118 (by decide +kernel) rfl⟩⟩
theorem flX0_29 : FL RX0 29 0 4 := ⟨(RX0, TX0, 15), rfl, by decide, Or.inl (inT mt_1 119 (by decide +kernel) rfl)⟩
theorem flX0_32 : FL RX0 32 0 5 := ⟨(RX0, TX0, 15), rfl, by decide, Or.inl (inT mt_1 120 (by decide +kernel) rfl)⟩
theorem flX9_91 : FL RX9 91 0 5 := ⟨(RX0, TX0, 15), rfl, by decide, Or.inr ⟨"PrinterHouse", inN mt_1 121 (by decide +kernel) rfl⟩⟩
theorem flX0_83 : FL RX0 83 0 6 := ⟨(RX0, TX0, 15), rfl, by decide, Or.inl (inT mt_1 122 (by decide +kernel) rfl)⟩
theorem flX0_95 : FL RX0 95 0 7 := ⟨(RX0, TX0, 15), rfl, by decide, Or.inl (inT mt_1 123 (by decide +kernel) rfl)⟩
theorem flX0_98 : FL RX0 98 0 8 := ⟨(RX0, TX0, 15), rfl, by decide, Or.inl (inT mt_1 124 (by decide +kernel) rfl)⟩
theorem flX9_549 : FL RX9 549 0 8 := ⟨(RX0, TX0, 15), rfl, by decide, Or.inr ⟨"PrinterHouse", inN mt_1 125 (by decide +kernel) rfl⟩⟩
theorem flX0_104 : FL RX0 104 0 9 := ⟨(RX0, TX0, 15), rfl, by decide, Or.inl (inT mt_1 126 (by decide +kernel) rfl)⟩
theorem flX9_552 : FL RX9 552 0 9 := ⟨(RX0, TX0, 15), rfl, by decide, Or.inr ⟨"PrinterHouse", inN mt_1 127 (by decide +kernel) rfl⟩⟩
theorem flX0_21 : FL RX0 21 0 10 := ⟨(RX0, TX0, 15), rfl, by decide, Or.inl (inT mt_1 128 (by decide +kernel) rfl)⟩
theorem flX0_53 : FL RX0 53 0 11 := ⟨(RX0, TX0, 15), rfl, by decide, Or.inl (inT mt_1 129 (by decide +kernel) rfl)⟩
theorem flX0_59 : FL RX0 59 0 12 := ⟨(RX0, TX0, 15), rfl, by decide, Or.inl (inT mt_1 130 (by decide +kernel) rfl)⟩
theorem flX0_65 : FL RX0 65 0 13 := ⟨(RX0, TX0, 15), rfl, by decide, Or.inl (inT mt_1 131 (by decide +kernel) rfl)⟩
theorem flX0_74 : FL RX0 74 0 14 := ⟨(RX0, TX0, 15), rfl, by decide, Or.inl (inT mt_1 132 (by decide +kernel) rfl)⟩
theorem klX9_18 : Cond.classLink RX9 18 RX2 ∈ TBL := inT mt_1 164 (by decide +kernel) rfl
theorem knX2 : Cond.instantiable RX2 10 ∈ TBL := inT mt_1 165 (by decide +kernel) rfl
theorem mlX9_20 : ML RX9 20 yX2_init := Or.inl (inT mt_1 166 (by decide +kernel) rfl)
set_option maxRecDepth 100000 in
theorem mcX2_init : MCi yX2_init cX2_init 5 0 := ⟨⟨inT mt_1 6 (by decide +kernel) rfl, inT mt_1 168 rfl rfl, ⟨by decide +kernel, by decide +kernel⟩, by decide +kernel⟩, inT mt_1 167 (by decide +kernel) rfl, rfl⟩
theorem mlX2_5 : ML RX2 5 objectInit := Or.inl (inT mt_1 169 (by decide +kernel) rfl)
theorem klX2_11 : Cond.classLink RX2 11 RX8 ∈ TBL := inT mt_1 170 (by decide +kernel) rfl
theorem knX8 : Cond.instantiable RX8 1 ∈ TBL := inT mt_1 171 (by decide +kernel) rfl
theorem mlX2_13 : ML RX2 13 yX8_init := Or.inr ⟨"PrinterHouse", inN mt_1 172 (by decide +kernel) rfl⟩
set_option maxRecDepth 100000 in
theorem mcX8_init : MCi yX8_init cX8_init 1 0 := ⟨⟨inT mt_1 7 (by decide +kernel) rfl, inT mt_1 174 rfl rfl, ⟨by decide +kernel, by decide +kernel⟩, by decide +kernel⟩, inT mt_1 173 (by decide +kernel) rfl, rfl⟩
theorem mlX8_1 : ML RX8 1 objectInit := Or.inl (inT mt_1 175 (by decide +kernel) rfl)
theorem flX8_9 : FL RX8 9 8 0 := ⟨(RX8, TX8, 1), rfl, by decide, Or.inl (inT mt_1 176 (by decide +kernel) rfl)⟩
theorem flX8_9o : FLo RX8 9 8 0 := ⟨(RX8, TX8, 1), rfl, by decide, rfl, inT mt_1 176 (by decide +kernel) rfl⟩
theorem mlX2_38 : ML RX2 38 yX2_firstWishes := Or.inl (inT mt_1 180 (by decide +kernel) rfl)
set_option maxRecDepth 100000 in
theorem mcX2_firstWishes : MCs yX2_firstWishes cX2_firstWishes 1 none 1 := ⟨⟨inT mt_1 6 (by decide +kernel) rfl, inT mt_1 182 rfl rfl, ⟨by decide +kernel, by decide +kernel⟩, by decide +kernel⟩, inT mt_1 181 (by decide +kernel) rfl⟩
theorem mlX2_52 : ML RX2 52 yJ7_fill_53178 := Or.inl (inT mt_1 183 (by decide +kernel) rfl)
set_option maxRecDepth 100000 in
theorem mcJ7_fill_53178 : MCs yJ7_fill_53178 cJ7_fill_53178 4 none 2 := ⟨⟨inT mt_1 8 (by decide +kernel) rfl, inT mt_1 185 rfl rfl, ⟨by decide +kernel, by decide +kernel⟩, by decide +kernel⟩, inT mt_1 184 (by decide +kernel) rfl⟩
theorem mlX2_42 : Cond.methodLink RX2 42 ⟨"java/lang/System", "arraycopy", "(Ljava/lang/Object;ILjava/lang/Object;II)V"⟩ ∈ TBL := inT mt_1 186 (by decide +kernel) rfl
theorem mlX2_48 : ML RX2 48 yX2_setHead := Or.inl (inT mt_1 189 (by decide +kernel) rfl)
set_option maxRecDepth 100000 in
theorem mcX2_setHead : MCv yX2_setHead cX2_setHead 8 none 6 := ⟨⟨inT mt_1 6 (by decide +kernel) rfl, inT mt_1 192 rfl rfl, ⟨by decide +kernel, by decide +kernel⟩, by decide +kernel⟩, inT mt_1 191 (by decide +kernel) rfl, inT mt_0 0 (by decide +kernel) rfl⟩
theorem flX2_14 : FL RX2 14 2 0 := ⟨(RX2, TX2, 10), rfl, by decide, Or.inl (inT mt_1 193 (by decide +kernel) rfl)⟩
theorem flX2_14o : FLo RX2 14 2 0 := ⟨(RX2, TX2, 10), rfl, by decide, rfl, inT mt_1 193 (by decide +kernel) rfl⟩
theorem flX9_176 : FL RX9 176 2 0 := ⟨(RX2, TX2, 10), rfl, by decide, Or.inr ⟨"PrinterHouse", inN mt_1 194 (by decide +kernel) rfl⟩⟩
theorem flX2_18 : FL RX2 18 2 1 := ⟨(RX2, TX2, 10), rfl, by decide, Or.inl (inT mt_1 195 (by decide +kernel) rfl)⟩
theorem flX2_18o : FLo RX2 18 2 1 := ⟨(RX2, TX2, 10), rfl, by decide, rfl, inT mt_1 195 (by decide +kernel) rfl⟩
theorem flX2_22 : FL RX2 22 2 2 := ⟨(RX2, TX2, 10), rfl, by decide, Or.inl (inT mt_1 196 (by decide +kernel) rfl)⟩
theorem flX2_22o : FLo RX2 22 2 2 := ⟨(RX2, TX2, 10), rfl, by decide, rfl, inT mt_1 196 (by decide +kernel) rfl⟩
theorem flX2_25 : FL RX2 25 2 3 := ⟨(RX2, TX2, 10), rfl, by decide, Or.inl (inT mt_1 197 (by decide +kernel) rfl)⟩
theorem flX2_25o : FLo RX2 25 2 3 := ⟨(RX2, TX2, 10), rfl, by decide, rfl, inT mt_1 197 (by decide +kernel) rfl⟩
theorem flX2_29 : FL RX2 29 2 4 := ⟨(RX2, TX2, 10), rfl, by decide, Or.inl (inT mt_1 198 (by decide +kernel) rfl)⟩
theorem flX2_29o : FLo RX2 29 2 4 := ⟨(RX2, TX2, 10), rfl, by decide, rfl, inT mt_1 198 (by decide +kernel) rfl⟩
theorem flX2_32 : FL RX2 32 2 5 := ⟨(RX2, TX2, 10), rfl, by decide, Or.inl (inT mt_1 199 (by decide +kernel) rfl)⟩
theorem flX2_32o : FLo RX2 32 2 5 := ⟨(RX2, TX2, 10), rfl, by decide, rfl, inT mt_1 199 (by decide +kernel) rfl⟩
theorem flX9_183 : FL RX9 183 2 6 := ⟨(RX2, TX2, 10), rfl, by decide, Or.inr ⟨"PrinterHouse", inN mt_1 200 (by decide +kernel) rfl⟩⟩
theorem flX2_91 : FL RX2 91 2 6 := ⟨(RX2, TX2, 10), rfl, by decide, Or.inl (inT mt_1 201 (by decide +kernel) rfl)⟩
theorem flX2_35 : FL RX2 35 2 7 := ⟨(RX2, TX2, 10), rfl, by decide, Or.inl (inT mt_1 202 (by decide +kernel) rfl)⟩
theorem flX2_35o : FLo RX2 35 2 7 := ⟨(RX2, TX2, 10), rfl, by decide, rfl, inT mt_1 202 (by decide +kernel) rfl⟩
theorem flX2_110 : FL RX2 110 2 8 := ⟨(RX2, TX2, 10), rfl, by decide, Or.inl (inT mt_1 203 (by decide +kernel) rfl)⟩
theorem flX2_94 : FL RX2 94 2 9 := ⟨(RX2, TX2, 10), rfl, by decide, Or.inl (inT mt_1 204 (by decide +kernel) rfl)⟩
theorem ka_boolean : Cond.arrayClass .boolean ∈ TBL := inT mt_1 226 (by decide +kernel) rfl
theorem klX9_25 : Cond.classLink RX9 25 RX8 ∈ TBL := inT mt_1 227 (by decide +kernel) rfl
theorem mlX9_27 : ML RX9 27 yX8_init := Or.inr ⟨"PrinterHouse", inN mt_1 228 (by decide +kernel) rfl⟩
theorem klX9_32 : Cond.classLink RX9 32 RX10 ∈ TBL := inT mt_1 229 (by decide +kernel) rfl
theorem ko_Tile_at : lw_tbl[424]? = some (Cond.arrayOver (.object "PrinterHouse$Tile")) := by decide +kernel
theorem mlX9_38 : ML RX9 38 yX10_init := Or.inr ⟨"PrinterHouse", inN mt_1 231 (by decide +kernel) rfl⟩
theorem klX9_54 : Cond.classLink RX9 54 RX1 ∈ TBL := inT mt_1 232 (by decide +kernel) rfl
theorem knX1 : Cond.instantiable RX1 21 ∈ TBL := inT mt_1 233 (by decide +kernel) rfl
theorem mlX9_56 : ML RX9 56 yX1_init := Or.inr ⟨"PrinterHouse", inN mt_1 234 (by decide +kernel) rfl⟩
set_option maxRecDepth 100000 in
theorem mcX1_init : MCi yX1_init cX1_init 1 0 := ⟨⟨inT mt_1 10 (by decide +kernel) rfl, inT mt_1 236 rfl rfl, ⟨by decide +kernel, by decide +kernel⟩, by decide +kernel⟩, inT mt_1 235 (by decide +kernel) rfl, rfl⟩
theorem mlX1_3 : ML RX1 3 objectInit := Or.inl (inT mt_1 237 (by decide +kernel) rfl)
theorem klX1_9 : Cond.classLink RX1 9 RX7 ∈ TBL := inT mt_1 238 (by decide +kernel) rfl
theorem knX7 : Cond.instantiable RX7 13 ∈ TBL := inT mt_1 239 (by decide +kernel) rfl
theorem mlX1_11 : ML RX1 11 yX7_init := Or.inr ⟨"PrinterHouse", inN mt_2 0 (by decide +kernel) rfl⟩
set_option maxRecDepth 100000 in
theorem mcX7_init : MCi yX7_init cX7_init 1 0 := ⟨⟨inT mt_1 11 (by decide +kernel) rfl, inT mt_2 2 rfl rfl, ⟨by decide +kernel, by decide +kernel⟩, by decide +kernel⟩, inT mt_2 1 (by decide +kernel) rfl, rfl⟩
theorem mlX7_3 : ML RX7 3 objectInit := Or.inl (inT mt_2 3 (by decide +kernel) rfl)
theorem flX7_15 : FL RX7 15 7 0 := ⟨(RX7, TX7, 13), rfl, by decide, Or.inl (inT mt_2 4 (by decide +kernel) rfl)⟩
theorem flX9_167 : FL RX9 167 7 0 := ⟨(RX7, TX7, 13), rfl, by decide, Or.inr ⟨"PrinterHouse", inN mt_2 5 (by decide +kernel) rfl⟩⟩
theorem flX7_19 : FL RX7 19 7 1 := ⟨(RX7, TX7, 13), rfl, by decide, Or.inl (inT mt_2 6 (by decide +kernel) rfl)⟩
theorem flX9_170 : FL RX9 170 7 1 := ⟨(RX7, TX7, 13), rfl, by decide, Or.inr ⟨"PrinterHouse", inN mt_2 7 (by decide +kernel) rfl⟩⟩
theorem flX0_148 : FL RX0 148 7 1 := ⟨(RX7, TX7, 13), rfl, by decide, Or.inr ⟨"PrinterHouse", inN mt_2 8 (by decide +kernel) rfl⟩⟩
theorem flX7_22 : FL RX7 22 7 2 := ⟨(RX7, TX7, 13), rfl, by decide, Or.inl (inT mt_2 9 (by decide +kernel) rfl)⟩
theorem flX9_147 : FL RX9 147 7 2 := ⟨(RX7, TX7, 13), rfl, by decide, Or.inr ⟨"PrinterHouse", inN mt_2 10 (by decide +kernel) rfl⟩⟩
theorem flX7_25 : FL RX7 25 7 3 := ⟨(RX7, TX7, 13), rfl, by decide, Or.inl (inT mt_2 11 (by decide +kernel) rfl)⟩
theorem flX9_150 : FL RX9 150 7 3 := ⟨(RX7, TX7, 13), rfl, by decide, Or.inr ⟨"PrinterHouse", inN mt_2 12 (by decide +kernel) rfl⟩⟩
theorem flX7_28 : FL RX7 28 7 4 := ⟨(RX7, TX7, 13), rfl, by decide, Or.inl (inT mt_2 13 (by decide +kernel) rfl)⟩
theorem flX9_153 : FL RX9 153 7 4 := ⟨(RX7, TX7, 13), rfl, by decide, Or.inr ⟨"PrinterHouse", inN mt_2 14 (by decide +kernel) rfl⟩⟩
theorem flX7_31 : FL RX7 31 7 5 := ⟨(RX7, TX7, 13), rfl, by decide, Or.inl (inT mt_2 15 (by decide +kernel) rfl)⟩
theorem flX9_156 : FL RX9 156 7 5 := ⟨(RX7, TX7, 13), rfl, by decide, Or.inr ⟨"PrinterHouse", inN mt_2 16 (by decide +kernel) rfl⟩⟩
theorem flX7_34 : FL RX7 34 7 6 := ⟨(RX7, TX7, 13), rfl, by decide, Or.inl (inT mt_2 17 (by decide +kernel) rfl)⟩
theorem flX9_133 : FL RX9 133 7 6 := ⟨(RX7, TX7, 13), rfl, by decide, Or.inr ⟨"PrinterHouse", inN mt_2 18 (by decide +kernel) rfl⟩⟩
theorem flX7_37 : FL RX7 37 7 7 := ⟨(RX7, TX7, 13), rfl, by decide, Or.inl (inT mt_2 19 (by decide +kernel) rfl)⟩
theorem flX9_138 : FL RX9 138 7 7 := ⟨(RX7, TX7, 13), rfl, by decide, Or.inr ⟨"PrinterHouse", inN mt_2 20 (by decide +kernel) rfl⟩⟩
theorem flX7_40 : FL RX7 40 7 8 := ⟨(RX7, TX7, 13), rfl, by decide, Or.inl (inT mt_2 21 (by decide +kernel) rfl)⟩
theorem flX9_144 : FL RX9 144 7 8 := ⟨(RX7, TX7, 13), rfl, by decide, Or.inr ⟨"PrinterHouse", inN mt_2 22 (by decide +kernel) rfl⟩⟩
theorem flX7_43 : FL RX7 43 7 9 := ⟨(RX7, TX7, 13), rfl, by decide, Or.inl (inT mt_2 23 (by decide +kernel) rfl)⟩
theorem flX9_141 : FL RX9 141 7 9 := ⟨(RX7, TX7, 13), rfl, by decide, Or.inr ⟨"PrinterHouse", inN mt_2 24 (by decide +kernel) rfl⟩⟩
theorem flX7_46 : FL RX7 46 7 10 := ⟨(RX7, TX7, 13), rfl, by decide, Or.inl (inT mt_2 25 (by decide +kernel) rfl)⟩
theorem flX9_243 : FL RX9 243 7 10 := ⟨(RX7, TX7, 13), rfl, by decide, Or.inr ⟨"PrinterHouse", inN mt_2 26 (by decide +kernel) rfl⟩⟩
theorem flX7_49 : FL RX7 49 7 11 := ⟨(RX7, TX7, 13), rfl, by decide, Or.inl (inT mt_2 27 (by decide +kernel) rfl)⟩
theorem flX9_173 : FL RX9 173 7 11 := ⟨(RX7, TX7, 13), rfl, by decide, Or.inr ⟨"PrinterHouse", inN mt_2 28 (by decide +kernel) rfl⟩⟩
theorem flX7_11 : FL RX7 11 7 12 := ⟨(RX7, TX7, 13), rfl, by decide, Or.inl (inT mt_2 29 (by decide +kernel) rfl)⟩
theorem flX7_11o : FLo RX7 11 7 12 := ⟨(RX7, TX7, 13), rfl, by decide, rfl, inT mt_2 29 (by decide +kernel) rfl⟩
theorem klX1_18 : Cond.classLink RX1 18 RX4 ∈ TBL := inT mt_2 57 (by decide +kernel) rfl
theorem knX4 : Cond.instantiable RX4 8 ∈ TBL := inT mt_2 58 (by decide +kernel) rfl
theorem mlX1_20 : ML RX1 20 yX4_init := Or.inr ⟨"PrinterHouse", inN mt_2 59 (by decide +kernel) rfl⟩
set_option maxRecDepth 100000 in
theorem mcX4_init : MCi yX4_init cX4_init 1 0 := ⟨⟨inT mt_1 12 (by decide +kernel) rfl, inT mt_2 61 rfl rfl, ⟨by decide +kernel, by decide +kernel⟩, by decide +kernel⟩, inT mt_2 60 (by decide +kernel) rfl, rfl⟩
theorem mlX4_1 : ML RX4 1 objectInit := Or.inl (inT mt_2 62 (by decide +kernel) rfl)
theorem flX4_13 : FL RX4 13 4 0 := ⟨(RX4, TX4, 8), rfl, by decide, Or.inl (inT mt_2 63 (by decide +kernel) rfl)⟩
theorem flX0_129 : FL RX0 129 4 0 := ⟨(RX4, TX4, 8), rfl, by decide, Or.inr ⟨"PrinterHouse", inN mt_2 64 (by decide +kernel) rfl⟩⟩
theorem flX9_661 : FL RX9 661 4 0 := ⟨(RX4, TX4, 8), rfl, by decide, Or.inr ⟨"PrinterHouse", inN mt_2 65 (by decide +kernel) rfl⟩⟩
theorem flX4_17 : FL RX4 17 4 1 := ⟨(RX4, TX4, 8), rfl, by decide, Or.inl (inT mt_2 66 (by decide +kernel) rfl)⟩
theorem flX9_678 : FL RX9 678 4 1 := ⟨(RX4, TX4, 8), rfl, by decide, Or.inr ⟨"PrinterHouse", inN mt_2 67 (by decide +kernel) rfl⟩⟩
theorem flX4_20 : FL RX4 20 4 2 := ⟨(RX4, TX4, 8), rfl, by decide, Or.inl (inT mt_2 68 (by decide +kernel) rfl)⟩
theorem flX9_669 : FL RX9 669 4 2 := ⟨(RX4, TX4, 8), rfl, by decide, Or.inr ⟨"PrinterHouse", inN mt_2 69 (by decide +kernel) rfl⟩⟩
theorem flX4_23 : FL RX4 23 4 3 := ⟨(RX4, TX4, 8), rfl, by decide, Or.inl (inT mt_2 70 (by decide +kernel) rfl)⟩
theorem flX9_672 : FL RX9 672 4 3 := ⟨(RX4, TX4, 8), rfl, by decide, Or.inr ⟨"PrinterHouse", inN mt_2 71 (by decide +kernel) rfl⟩⟩
theorem flX4_26 : FL RX4 26 4 4 := ⟨(RX4, TX4, 8), rfl, by decide, Or.inl (inT mt_2 72 (by decide +kernel) rfl)⟩
theorem flX9_656 : FL RX9 656 4 4 := ⟨(RX4, TX4, 8), rfl, by decide, Or.inr ⟨"PrinterHouse", inN mt_2 73 (by decide +kernel) rfl⟩⟩
theorem flX4_30 : FL RX4 30 4 5 := ⟨(RX4, TX4, 8), rfl, by decide, Or.inl (inT mt_2 74 (by decide +kernel) rfl)⟩
theorem flX0_126 : FL RX0 126 4 5 := ⟨(RX4, TX4, 8), rfl, by decide, Or.inr ⟨"PrinterHouse", inN mt_2 75 (by decide +kernel) rfl⟩⟩
theorem flX9_707 : FL RX9 707 4 5 := ⟨(RX4, TX4, 8), rfl, by decide, Or.inr ⟨"PrinterHouse", inN mt_2 76 (by decide +kernel) rfl⟩⟩
theorem flX4_33 : FL RX4 33 4 6 := ⟨(RX4, TX4, 8), rfl, by decide, Or.inl (inT mt_2 77 (by decide +kernel) rfl)⟩
theorem flX9_681 : FL RX9 681 4 6 := ⟨(RX4, TX4, 8), rfl, by decide, Or.inr ⟨"PrinterHouse", inN mt_2 78 (by decide +kernel) rfl⟩⟩
theorem flX4_9 : FL RX4 9 4 7 := ⟨(RX4, TX4, 8), rfl, by decide, Or.inl (inT mt_2 79 (by decide +kernel) rfl)⟩
theorem flX4_9o : FLo RX4 9 4 7 := ⟨(RX4, TX4, 8), rfl, by decide, rfl, inT mt_2 79 (by decide +kernel) rfl⟩
theorem flX0_119 : FL RX0 119 4 7 := ⟨(RX4, TX4, 8), rfl, by decide, Or.inr ⟨"PrinterHouse", inN mt_2 80 (by decide +kernel) rfl⟩⟩
theorem klX1_25 : Cond.classLink RX1 25 RX10 ∈ TBL := inT mt_2 98 (by decide +kernel) rfl
theorem mlX1_27 : ML RX1 27 yX10_init := Or.inr ⟨"PrinterHouse", inN mt_2 99 (by decide +kernel) rfl⟩
theorem flX1_12 : FL RX1 12 1 0 := ⟨(RX1, TX1, 21), rfl, by decide, Or.inl (inT mt_2 100 (by decide +kernel) rfl)⟩
theorem flX1_12o : FLo RX1 12 1 0 := ⟨(RX1, TX1, 21), rfl, by decide, rfl, inT mt_2 100 (by decide +kernel) rfl⟩
theorem flX9_129 : FL RX9 129 1 0 := ⟨(RX1, TX1, 21), rfl, by decide, Or.inr ⟨"PrinterHouse", inN mt_2 101 (by decide +kernel) rfl⟩⟩
theorem flX1_21 : FL RX1 21 1 1 := ⟨(RX1, TX1, 21), rfl, by decide, Or.inl (inT mt_2 102 (by decide +kernel) rfl)⟩
theorem flX1_21o : FLo RX1 21 1 1 := ⟨(RX1, TX1, 21), rfl, by decide, rfl, inT mt_2 102 (by decide +kernel) rfl⟩
theorem flX9_652 : FL RX9 652 1 1 := ⟨(RX1, TX1, 21), rfl, by decide, Or.inr ⟨"PrinterHouse", inN mt_2 103 (by decide +kernel) rfl⟩⟩
theorem flX1_28 : FL RX1 28 1 2 := ⟨(RX1, TX1, 21), rfl, by decide, Or.inl (inT mt_2 104 (by decide +kernel) rfl)⟩
theorem flX1_28o : FLo RX1 28 1 2 := ⟨(RX1, TX1, 21), rfl, by decide, rfl, inT mt_2 104 (by decide +kernel) rfl⟩
theorem flX9_539 : FL RX9 539 1 2 := ⟨(RX1, TX1, 21), rfl, by decide, Or.inr ⟨"PrinterHouse", inN mt_2 105 (by decide +kernel) rfl⟩⟩
theorem flX1_34 : FL RX1 34 1 3 := ⟨(RX1, TX1, 21), rfl, by decide, Or.inl (inT mt_2 106 (by decide +kernel) rfl)⟩
theorem flX1_34o : FLo RX1 34 1 3 := ⟨(RX1, TX1, 21), rfl, by decide, rfl, inT mt_2 106 (by decide +kernel) rfl⟩
theorem flX9_386 : FL RX9 386 1 3 := ⟨(RX1, TX1, 21), rfl, by decide, Or.inr ⟨"PrinterHouse", inN mt_2 107 (by decide +kernel) rfl⟩⟩
theorem flX1_38 : FL RX1 38 1 4 := ⟨(RX1, TX1, 21), rfl, by decide, Or.inl (inT mt_2 108 (by decide +kernel) rfl)⟩
theorem flX1_38o : FLo RX1 38 1 4 := ⟨(RX1, TX1, 21), rfl, by decide, rfl, inT mt_2 108 (by decide +kernel) rfl⟩
theorem flX9_389 : FL RX9 389 1 4 := ⟨(RX1, TX1, 21), rfl, by decide, Or.inr ⟨"PrinterHouse", inN mt_2 109 (by decide +kernel) rfl⟩⟩
theorem flX1_57 : FL RX1 57 1 5 := ⟨(RX1, TX1, 21), rfl, by decide, Or.inl (inT mt_2 110 (by decide +kernel) rfl)⟩
theorem flX9_268 : FL RX9 268 1 5 := ⟨(RX1, TX1, 21), rfl, by decide, Or.inr ⟨"PrinterHouse", inN mt_2 111 (by decide +kernel) rfl⟩⟩
theorem flX1_61 : FL RX1 61 1 6 := ⟨(RX1, TX1, 21), rfl, by decide, Or.inl (inT mt_2 112 (by decide +kernel) rfl)⟩
theorem flX9_419 : FL RX9 419 1 6 := ⟨(RX1, TX1, 21), rfl, by decide, Or.inr ⟨"PrinterHouse", inN mt_2 113 (by decide +kernel) rfl⟩⟩
theorem flX1_65 : FL RX1 65 1 7 := ⟨(RX1, TX1, 21), rfl, by decide, Or.inl (inT mt_2 114 (by decide +kernel) rfl)⟩
theorem flX9_280 : FL RX9 280 1 7 := ⟨(RX1, TX1, 21), rfl, by decide, Or.inr ⟨"PrinterHouse", inN mt_2 115 (by decide +kernel) rfl⟩⟩
theorem flX1_68 : FL RX1 68 1 8 := ⟨(RX1, TX1, 21), rfl, by decide, Or.inl (inT mt_2 116 (by decide +kernel) rfl)⟩
theorem flX9_265 : FL RX9 265 1 8 := ⟨(RX1, TX1, 21), rfl, by decide, Or.inr ⟨"PrinterHouse", inN mt_2 117 (by decide +kernel) rfl⟩⟩
theorem flX1_71 : FL RX1 71 1 9 := ⟨(RX1, TX1, 21), rfl, by decide, Or.inl (inT mt_2 118 (by decide +kernel) rfl)⟩
theorem flX9_459 : FL RX9 459 1 9 := ⟨(RX1, TX1, 21), rfl, by decide, Or.inr ⟨"PrinterHouse", inN mt_2 119 (by decide +kernel) rfl⟩⟩
theorem flX1_74 : FL RX1 74 1 10 := ⟨(RX1, TX1, 21), rfl, by decide, Or.inl (inT mt_2 120 (by decide +kernel) rfl)⟩
theorem flX0_62 : FL RX0 62 1 10 := ⟨(RX1, TX1, 21), rfl, by decide, Or.inr ⟨"PrinterHouse", inN mt_2 121 (by decide +kernel) rfl⟩⟩
theorem flX9_646 : FL RX9 646 1 10 := ⟨(RX1, TX1, 21), rfl, by decide, Or.inr ⟨"PrinterHouse", inN mt_2 122 (by decide +kernel) rfl⟩⟩
theorem flX1_77 : FL RX1 77 1 11 := ⟨(RX1, TX1, 21), rfl, by decide, Or.inl (inT mt_2 123 (by decide +kernel) rfl)⟩
theorem flX0_68 : FL RX0 68 1 11 := ⟨(RX1, TX1, 21), rfl, by decide, Or.inr ⟨"PrinterHouse", inN mt_2 124 (by decide +kernel) rfl⟩⟩
theorem flX9_649 : FL RX9 649 1 11 := ⟨(RX1, TX1, 21), rfl, by decide, Or.inr ⟨"PrinterHouse", inN mt_2 125 (by decide +kernel) rfl⟩⟩
theorem flX1_80 : FL RX1 80 1 12 := ⟨(RX1, TX1, 21), rfl, by decide, Or.inl (inT mt_2 126 (by decide +kernel) rfl)⟩
theorem flX0_48 : FL RX0 48 1 12 := ⟨(RX1, TX1, 21), rfl, by decide, Or.inr ⟨"PrinterHouse", inN mt_2 127 (by decide +kernel) rfl⟩⟩
theorem flX9_453 : FL RX9 453 1 12 := ⟨(RX1, TX1, 21), rfl, by decide, Or.inr ⟨"PrinterHouse", inN mt_2 128 (by decide +kernel) rfl⟩⟩
theorem flX1_83 : FL RX1 83 1 13 := ⟨(RX1, TX1, 21), rfl, by decide, Or.inl (inT mt_2 129 (by decide +kernel) rfl)⟩
theorem flX0_56 : FL RX0 56 1 13 := ⟨(RX1, TX1, 21), rfl, by decide, Or.inr ⟨"PrinterHouse", inN mt_2 130 (by decide +kernel) rfl⟩⟩
theorem flX9_456 : FL RX9 456 1 13 := ⟨(RX1, TX1, 21), rfl, by decide, Or.inr ⟨"PrinterHouse", inN mt_2 131 (by decide +kernel) rfl⟩⟩
theorem flX1_86 : FL RX1 86 1 14 := ⟨(RX1, TX1, 21), rfl, by decide, Or.inl (inT mt_2 132 (by decide +kernel) rfl)⟩
theorem flX9_596 : FL RX9 596 1 14 := ⟨(RX1, TX1, 21), rfl, by decide, Or.inr ⟨"PrinterHouse", inN mt_2 133 (by decide +kernel) rfl⟩⟩
theorem flX1_89 : FL RX1 89 1 15 := ⟨(RX1, TX1, 21), rfl, by decide, Or.inl (inT mt_2 134 (by decide +kernel) rfl)⟩
theorem flX9_599 : FL RX9 599 1 15 := ⟨(RX1, TX1, 21), rfl, by decide, Or.inr ⟨"PrinterHouse", inN mt_2 135 (by decide +kernel) rfl⟩⟩
theorem flX1_92 : FL RX1 92 1 16 := ⟨(RX1, TX1, 21), rfl, by decide, Or.inl (inT mt_2 136 (by decide +kernel) rfl)⟩
theorem flX9_399 : FL RX9 399 1 16 := ⟨(RX1, TX1, 21), rfl, by decide, Or.inr ⟨"PrinterHouse", inN mt_2 137 (by decide +kernel) rfl⟩⟩
theorem flX1_95 : FL RX1 95 1 17 := ⟨(RX1, TX1, 21), rfl, by decide, Or.inl (inT mt_2 138 (by decide +kernel) rfl)⟩
theorem flX9_402 : FL RX9 402 1 17 := ⟨(RX1, TX1, 21), rfl, by decide, Or.inr ⟨"PrinterHouse", inN mt_2 139 (by decide +kernel) rfl⟩⟩
theorem flX1_98 : FL RX1 98 1 18 := ⟨(RX1, TX1, 21), rfl, by decide, Or.inl (inT mt_2 140 (by decide +kernel) rfl)⟩
theorem flX9_587 : FL RX9 587 1 18 := ⟨(RX1, TX1, 21), rfl, by decide, Or.inr ⟨"PrinterHouse", inN mt_2 141 (by decide +kernel) rfl⟩⟩
theorem flX1_101 : FL RX1 101 1 19 := ⟨(RX1, TX1, 21), rfl, by decide, Or.inl (inT mt_2 142 (by decide +kernel) rfl)⟩
theorem flX9_462 : FL RX9 462 1 19 := ⟨(RX1, TX1, 21), rfl, by decide, Or.inr ⟨"PrinterHouse", inN mt_2 143 (by decide +kernel) rfl⟩⟩
theorem flX1_104 : FL RX1 104 1 20 := ⟨(RX1, TX1, 21), rfl, by decide, Or.inl (inT mt_2 144 (by decide +kernel) rfl)⟩
theorem flX9_480 : FL RX9 480 1 20 := ⟨(RX1, TX1, 21), rfl, by decide, Or.inr ⟨"PrinterHouse", inN mt_2 145 (by decide +kernel) rfl⟩⟩
theorem ko_Environment_at : lw_tbl[623]? = some (Cond.arrayOver (.object "PrinterHouse$Environment")) := by decide +kernel
theorem klX9_68 : Cond.classLink RX9 68 RX5 ∈ TBL := inT mt_2 190 (by decide +kernel) rfl
theorem ko_Reading_at : lw_tbl[625]? = some (Cond.arrayOver (.object "PrinterHouse$Reading")) := by decide +kernel
theorem knX5 : Cond.instantiable RX5 13 ∈ TBL := inT mt_2 192 (by decide +kernel) rfl
theorem mlX9_81 : ML RX9 81 yX5_init := Or.inr ⟨"PrinterHouse", inN mt_2 193 (by decide +kernel) rfl⟩
set_option maxRecDepth 100000 in
theorem mcX5_init : MCi yX5_init cX5_init 1 0 := ⟨⟨inT mt_1 13 (by decide +kernel) rfl, inT mt_2 195 rfl rfl, ⟨by decide +kernel, by decide +kernel⟩, by decide +kernel⟩, inT mt_2 194 (by decide +kernel) rfl, rfl⟩
theorem mlX5_3 : ML RX5 3 objectInit := Or.inl (inT mt_2 196 (by decide +kernel) rfl)
theorem flX5_9 : FL RX5 9 5 0 := ⟨(RX5, TX5, 13), rfl, by decide, Or.inl (inT mt_2 197 (by decide +kernel) rfl)⟩
theorem flX9_493 : FL RX9 493 5 0 := ⟨(RX5, TX5, 13), rfl, by decide, Or.inr ⟨"PrinterHouse", inN mt_2 198 (by decide +kernel) rfl⟩⟩
theorem flX5_21 : FL RX5 21 5 1 := ⟨(RX5, TX5, 13), rfl, by decide, Or.inl (inT mt_2 199 (by decide +kernel) rfl)⟩
theorem flX9_201 : FL RX9 201 5 1 := ⟨(RX5, TX5, 13), rfl, by decide, Or.inr ⟨"PrinterHouse", inN mt_2 200 (by decide +kernel) rfl⟩⟩
theorem flX5_28 : FL RX5 28 5 2 := ⟨(RX5, TX5, 13), rfl, by decide, Or.inl (inT mt_2 201 (by decide +kernel) rfl)⟩
theorem flX9_336 : FL RX9 336 5 2 := ⟨(RX5, TX5, 13), rfl, by decide, Or.inr ⟨"PrinterHouse", inN mt_2 202 (by decide +kernel) rfl⟩⟩
theorem flX5_31 : FL RX5 31 5 3 := ⟨(RX5, TX5, 13), rfl, by decide, Or.inl (inT mt_2 203 (by decide +kernel) rfl)⟩
theorem flX9_217 : FL RX9 217 5 3 := ⟨(RX5, TX5, 13), rfl, by decide, Or.inr ⟨"PrinterHouse", inN mt_2 204 (by decide +kernel) rfl⟩⟩
theorem flX9_299 : FL RX9 299 5 4 := ⟨(RX5, TX5, 13), rfl, by decide, Or.inr ⟨"PrinterHouse", inN mt_2 205 (by decide +kernel) rfl⟩⟩
theorem flX9_327 : FL RX9 327 5 5 := ⟨(RX5, TX5, 13), rfl, by decide, Or.inr ⟨"PrinterHouse", inN mt_2 206 (by decide +kernel) rfl⟩⟩
theorem flX9_230 : FL RX9 230 5 6 := ⟨(RX5, TX5, 13), rfl, by decide, Or.inr ⟨"PrinterHouse", inN mt_2 207 (by decide +kernel) rfl⟩⟩
theorem flX5_42 : FL RX5 42 5 7 := ⟨(RX5, TX5, 13), rfl, by decide, Or.inl (inT mt_2 208 (by decide +kernel) rfl)⟩
theorem flX9_450 : FL RX9 450 5 7 := ⟨(RX5, TX5, 13), rfl, by decide, Or.inr ⟨"PrinterHouse", inN mt_2 209 (by decide +kernel) rfl⟩⟩
theorem flX5_38 : FL RX5 38 5 8 := ⟨(RX5, TX5, 13), rfl, by decide, Or.inl (inT mt_2 210 (by decide +kernel) rfl)⟩
theorem flX5_45 : FL RX5 45 5 9 := ⟨(RX5, TX5, 13), rfl, by decide, Or.inl (inT mt_2 211 (by decide +kernel) rfl)⟩
theorem flX5_48 : FL RX5 48 5 10 := ⟨(RX5, TX5, 13), rfl, by decide, Or.inl (inT mt_2 212 (by decide +kernel) rfl)⟩
theorem flX5_61 : FL RX5 61 5 11 := ⟨(RX5, TX5, 13), rfl, by decide, Or.inl (inT mt_2 213 (by decide +kernel) rfl)⟩
theorem flX9_330 : FL RX9 330 5 11 := ⟨(RX5, TX5, 13), rfl, by decide, Or.inr ⟨"PrinterHouse", inN mt_2 214 (by decide +kernel) rfl⟩⟩
theorem flX4_71 : FL RX4 71 5 12 := ⟨(RX5, TX5, 13), rfl, by decide, Or.inr ⟨"PrinterHouse", inN mt_2 215 (by decide +kernel) rfl⟩⟩
theorem flX2_69 : FL RX2 69 5 12 := ⟨(RX5, TX5, 13), rfl, by decide, Or.inr ⟨"PrinterHouse", inN mt_2 216 (by decide +kernel) rfl⟩⟩
theorem flX5_64 : FL RX5 64 5 12 := ⟨(RX5, TX5, 13), rfl, by decide, Or.inl (inT mt_2 217 (by decide +kernel) rfl)⟩
theorem flX9_318 : FL RX9 318 5 12 := ⟨(RX5, TX5, 13), rfl, by decide, Or.inr ⟨"PrinterHouse", inN mt_2 218 (by decide +kernel) rfl⟩⟩
theorem flX9_77 : FL RX9 77 9 0 := ⟨(RX9, TX9, 19), rfl, by decide, Or.inl (inT mt_3 6 (by decide +kernel) rfl)⟩
theorem flX9_77o : FLo RX9 77 9 0 := ⟨(RX9, TX9, 19), rfl, by decide, rfl, inT mt_3 6 (by decide +kernel) rfl⟩
theorem flX9_12 : FL RX9 12 9 1 := ⟨(RX9, TX9, 19), rfl, by decide, Or.inl (inT mt_3 7 (by decide +kernel) rfl)⟩
theorem flX9_12o : FLo RX9 12 9 1 := ⟨(RX9, TX9, 19), rfl, by decide, rfl, inT mt_3 7 (by decide +kernel) rfl⟩
theorem flX9_21 : FL RX9 21 9 2 := ⟨(RX9, TX9, 19), rfl, by decide, Or.inl (inT mt_3 8 (by decide +kernel) rfl)⟩
theorem flX9_21o : FLo RX9 21 9 2 := ⟨(RX9, TX9, 19), rfl, by decide, rfl, inT mt_3 8 (by decide +kernel) rfl⟩
theorem flX9_28 : FL RX9 28 9 3 := ⟨(RX9, TX9, 19), rfl, by decide, Or.inl (inT mt_3 9 (by decide +kernel) rfl)⟩
theorem flX9_28o : FLo RX9 28 9 3 := ⟨(RX9, TX9, 19), rfl, by decide, rfl, inT mt_3 9 (by decide +kernel) rfl⟩
theorem flX9_34 : FL RX9 34 9 4 := ⟨(RX9, TX9, 19), rfl, by decide, Or.inl (inT mt_3 10 (by decide +kernel) rfl)⟩
theorem flX9_34o : FLo RX9 34 9 4 := ⟨(RX9, TX9, 19), rfl, by decide, rfl, inT mt_3 10 (by decide +kernel) rfl⟩
theorem flX9_39 : FL RX9 39 9 5 := ⟨(RX9, TX9, 19), rfl, by decide, Or.inl (inT mt_3 11 (by decide +kernel) rfl)⟩
theorem flX9_39o : FLo RX9 39 9 5 := ⟨(RX9, TX9, 19), rfl, by decide, rfl, inT mt_3 11 (by decide +kernel) rfl⟩
theorem flX9_43 : FL RX9 43 9 6 := ⟨(RX9, TX9, 19), rfl, by decide, Or.inl (inT mt_3 12 (by decide +kernel) rfl)⟩
theorem flX9_43o : FLo RX9 43 9 6 := ⟨(RX9, TX9, 19), rfl, by decide, rfl, inT mt_3 12 (by decide +kernel) rfl⟩
theorem flX9_46 : FL RX9 46 9 7 := ⟨(RX9, TX9, 19), rfl, by decide, Or.inl (inT mt_3 13 (by decide +kernel) rfl)⟩
theorem flX9_46o : FLo RX9 46 9 7 := ⟨(RX9, TX9, 19), rfl, by decide, rfl, inT mt_3 13 (by decide +kernel) rfl⟩
theorem flX9_50 : FL RX9 50 9 8 := ⟨(RX9, TX9, 19), rfl, by decide, Or.inl (inT mt_3 14 (by decide +kernel) rfl)⟩
theorem flX9_50o : FLo RX9 50 9 8 := ⟨(RX9, TX9, 19), rfl, by decide, rfl, inT mt_3 14 (by decide +kernel) rfl⟩
theorem flX9_57 : FL RX9 57 9 9 := ⟨(RX9, TX9, 19), rfl, by decide, Or.inl (inT mt_3 15 (by decide +kernel) rfl)⟩
theorem flX9_57o : FLo RX9 57 9 9 := ⟨(RX9, TX9, 19), rfl, by decide, rfl, inT mt_3 15 (by decide +kernel) rfl⟩
theorem flX9_61 : FL RX9 61 9 10 := ⟨(RX9, TX9, 19), rfl, by decide, Or.inl (inT mt_3 16 (by decide +kernel) rfl)⟩
theorem flX9_61o : FLo RX9 61 9 10 := ⟨(RX9, TX9, 19), rfl, by decide, rfl, inT mt_3 16 (by decide +kernel) rfl⟩
theorem flX9_64 : FL RX9 64 9 11 := ⟨(RX9, TX9, 19), rfl, by decide, Or.inl (inT mt_3 17 (by decide +kernel) rfl)⟩
theorem flX9_64o : FLo RX9 64 9 11 := ⟨(RX9, TX9, 19), rfl, by decide, rfl, inT mt_3 17 (by decide +kernel) rfl⟩
theorem flX9_70 : FL RX9 70 9 12 := ⟨(RX9, TX9, 19), rfl, by decide, Or.inl (inT mt_3 18 (by decide +kernel) rfl)⟩
theorem flX9_70o : FLo RX9 70 9 12 := ⟨(RX9, TX9, 19), rfl, by decide, rfl, inT mt_3 18 (by decide +kernel) rfl⟩
theorem flX9_82 : FL RX9 82 9 13 := ⟨(RX9, TX9, 19), rfl, by decide, Or.inl (inT mt_3 19 (by decide +kernel) rfl)⟩
theorem flX9_108 : FL RX9 108 9 14 := ⟨(RX9, TX9, 19), rfl, by decide, Or.inl (inT mt_3 20 (by decide +kernel) rfl)⟩
theorem flX9_111 : FL RX9 111 9 15 := ⟨(RX9, TX9, 19), rfl, by decide, Or.inl (inT mt_3 21 (by decide +kernel) rfl)⟩
theorem flX9_86 : FL RX9 86 9 16 := ⟨(RX9, TX9, 19), rfl, by decide, Or.inl (inT mt_3 22 (by decide +kernel) rfl)⟩
theorem flX9_74 : FL RX9 74 9 17 := ⟨(RX9, TX9, 19), rfl, by decide, Or.inl (inT mt_3 23 (by decide +kernel) rfl)⟩
theorem flX9_74o : FLo RX9 74 9 17 := ⟨(RX9, TX9, 19), rfl, by decide, rfl, inT mt_3 23 (by decide +kernel) rfl⟩
theorem flX9_126 : FL RX9 126 9 18 := ⟨(RX9, TX9, 19), rfl, by decide, Or.inl (inT mt_3 24 (by decide +kernel) rfl)⟩
theorem klX11_46 : Cond.classLink RX11 46 RX3 ∈ TBL := inT mt_3 64 (by decide +kernel) rfl
theorem knX3 : Cond.instantiable RX3 21 ∈ TBL := inT mt_3 65 (by decide +kernel) rfl
theorem mlX11_48 : ML RX11 48 yX3_init := Or.inl (inT mt_3 66 (by decide +kernel) rfl)
set_option maxRecDepth 100000 in
theorem mcX3_init : MCi yX3_init cX3_init 7 1 := ⟨⟨inT mt_1 14 (by decide +kernel) rfl, inT mt_3 68 rfl rfl, ⟨by decide +kernel, by decide +kernel⟩, by decide +kernel⟩, inT mt_3 67 (by decide +kernel) rfl, rfl⟩
theorem mlX3_3 : ML RX3 3 objectInit := Or.inl (inT mt_3 69 (by decide +kernel) rfl)
theorem gsX3_30 : Cond.fieldLinkNest RX3 30 "PrinterHouse" "RUN_CODES" "[I" "PrinterHouse" ∈ NST := inN mt_3 70 (by decide +kernel) rfl
theorem gsX3_34 : Cond.fieldLinkNest RX3 34 "PrinterHouse" "RUN_BITS" "[I" "PrinterHouse" ∈ NST := inN mt_3 72 (by decide +kernel) rfl
theorem flX3_26 : FL RX3 26 3 0 := ⟨(RX3, TX3, 21), rfl, by decide, Or.inl (inT mt_3 74 (by decide +kernel) rfl)⟩
theorem flX3_26o : FLo RX3 26 3 0 := ⟨(RX3, TX3, 21), rfl, by decide, rfl, inT mt_3 74 (by decide +kernel) rfl⟩
theorem flX3_9 : FL RX3 9 3 1 := ⟨(RX3, TX3, 21), rfl, by decide, Or.inl (inT mt_3 75 (by decide +kernel) rfl)⟩
theorem flX3_37 : FL RX3 37 3 2 := ⟨(RX3, TX3, 21), rfl, by decide, Or.inl (inT mt_3 76 (by decide +kernel) rfl)⟩
theorem flX3_41 : FL RX3 41 3 3 := ⟨(RX3, TX3, 21), rfl, by decide, Or.inl (inT mt_3 77 (by decide +kernel) rfl)⟩
theorem flX3_44 : FL RX3 44 3 4 := ⟨(RX3, TX3, 21), rfl, by decide, Or.inl (inT mt_3 78 (by decide +kernel) rfl)⟩
theorem flX11_89 : FL RX11 89 3 4 := ⟨(RX3, TX3, 21), rfl, by decide, Or.inr ⟨"PrinterHouse", inN mt_3 79 (by decide +kernel) rfl⟩⟩
theorem flX3_47 : FL RX3 47 3 5 := ⟨(RX3, TX3, 21), rfl, by decide, Or.inl (inT mt_3 80 (by decide +kernel) rfl)⟩
theorem flX11_92 : FL RX11 92 3 5 := ⟨(RX3, TX3, 21), rfl, by decide, Or.inr ⟨"PrinterHouse", inN mt_3 81 (by decide +kernel) rfl⟩⟩
theorem flX3_72 : FL RX3 72 3 6 := ⟨(RX3, TX3, 21), rfl, by decide, Or.inl (inT mt_3 82 (by decide +kernel) rfl)⟩
theorem flX3_15 : FL RX3 15 3 7 := ⟨(RX3, TX3, 21), rfl, by decide, Or.inl (inT mt_3 83 (by decide +kernel) rfl)⟩
theorem flX3_15o : FLo RX3 15 3 7 := ⟨(RX3, TX3, 21), rfl, by decide, rfl, inT mt_3 83 (by decide +kernel) rfl⟩
theorem flX3_50 : FL RX3 50 3 8 := ⟨(RX3, TX3, 21), rfl, by decide, Or.inl (inT mt_3 84 (by decide +kernel) rfl)⟩
theorem flX3_105 : FL RX3 105 3 9 := ⟨(RX3, TX3, 21), rfl, by decide, Or.inl (inT mt_3 85 (by decide +kernel) rfl)⟩
theorem flX3_109 : FL RX3 109 3 10 := ⟨(RX3, TX3, 21), rfl, by decide, Or.inl (inT mt_3 86 (by decide +kernel) rfl)⟩
theorem flX3_123 : FL RX3 123 3 11 := ⟨(RX3, TX3, 21), rfl, by decide, Or.inl (inT mt_3 87 (by decide +kernel) rfl)⟩
theorem flX3_126 : FL RX3 126 3 12 := ⟨(RX3, TX3, 21), rfl, by decide, Or.inl (inT mt_3 88 (by decide +kernel) rfl)⟩
theorem flX3_129 : FL RX3 129 3 13 := ⟨(RX3, TX3, 21), rfl, by decide, Or.inl (inT mt_3 89 (by decide +kernel) rfl)⟩
theorem flX3_132 : FL RX3 132 3 14 := ⟨(RX3, TX3, 21), rfl, by decide, Or.inl (inT mt_3 90 (by decide +kernel) rfl)⟩
theorem flX3_135 : FL RX3 135 3 15 := ⟨(RX3, TX3, 21), rfl, by decide, Or.inl (inT mt_3 91 (by decide +kernel) rfl)⟩
theorem flX3_138 : FL RX3 138 3 16 := ⟨(RX3, TX3, 21), rfl, by decide, Or.inl (inT mt_3 92 (by decide +kernel) rfl)⟩
theorem flX3_19 : FL RX3 19 3 17 := ⟨(RX3, TX3, 21), rfl, by decide, Or.inl (inT mt_3 93 (by decide +kernel) rfl)⟩
theorem flX3_19o : FLo RX3 19 3 17 := ⟨(RX3, TX3, 21), rfl, by decide, rfl, inT mt_3 93 (by decide +kernel) rfl⟩
theorem flX3_198 : FL RX3 198 3 18 := ⟨(RX3, TX3, 21), rfl, by decide, Or.inl (inT mt_3 94 (by decide +kernel) rfl)⟩
theorem flX3_204 : FL RX3 204 3 19 := ⟨(RX3, TX3, 21), rfl, by decide, Or.inl (inT mt_3 95 (by decide +kernel) rfl)⟩
theorem flX3_22 : FL RX3 22 3 20 := ⟨(RX3, TX3, 21), rfl, by decide, Or.inl (inT mt_3 96 (by decide +kernel) rfl)⟩
theorem flX3_22o : FLo RX3 22 3 20 := ⟨(RX3, TX3, 21), rfl, by decide, rfl, inT mt_3 96 (by decide +kernel) rfl⟩
theorem ka_short : Cond.arrayClass .short ∈ TBL := inT mt_3 140 (by decide +kernel) rfl
theorem flX11_9 : FL RX11 9 11 0 := ⟨(RX11, TX11, 12), rfl, by decide, Or.inl (inT mt_3 141 (by decide +kernel) rfl)⟩
theorem flX11_9o : FLo RX11 9 11 0 := ⟨(RX11, TX11, 12), rfl, by decide, rfl, inT mt_3 141 (by decide +kernel) rfl⟩
theorem flX11_53 : FL RX11 53 11 1 := ⟨(RX11, TX11, 12), rfl, by decide, Or.inl (inT mt_3 142 (by decide +kernel) rfl)⟩
theorem flX11_13 : FL RX11 13 11 2 := ⟨(RX11, TX11, 12), rfl, by decide, Or.inl (inT mt_3 143 (by decide +kernel) rfl)⟩
theorem flX11_13o : FLo RX11 13 11 2 := ⟨(RX11, TX11, 12), rfl, by decide, rfl, inT mt_3 143 (by decide +kernel) rfl⟩
theorem flX11_16 : FL RX11 16 11 3 := ⟨(RX11, TX11, 12), rfl, by decide, Or.inl (inT mt_3 144 (by decide +kernel) rfl)⟩
theorem flX11_16o : FLo RX11 16 11 3 := ⟨(RX11, TX11, 12), rfl, by decide, rfl, inT mt_3 144 (by decide +kernel) rfl⟩
theorem flX11_20 : FL RX11 20 11 4 := ⟨(RX11, TX11, 12), rfl, by decide, Or.inl (inT mt_3 145 (by decide +kernel) rfl)⟩
theorem flX11_20o : FLo RX11 20 11 4 := ⟨(RX11, TX11, 12), rfl, by decide, rfl, inT mt_3 145 (by decide +kernel) rfl⟩
theorem flX11_60 : FL RX11 60 11 5 := ⟨(RX11, TX11, 12), rfl, by decide, Or.inl (inT mt_3 146 (by decide +kernel) rfl)⟩
theorem flX11_33 : FL RX11 33 11 6 := ⟨(RX11, TX11, 12), rfl, by decide, Or.inl (inT mt_3 147 (by decide +kernel) rfl)⟩
theorem flX11_33o : FLo RX11 33 11 6 := ⟨(RX11, TX11, 12), rfl, by decide, rfl, inT mt_3 147 (by decide +kernel) rfl⟩
theorem flX11_42 : FL RX11 42 11 7 := ⟨(RX11, TX11, 12), rfl, by decide, Or.inl (inT mt_3 148 (by decide +kernel) rfl)⟩
theorem flX11_42o : FLo RX11 42 11 7 := ⟨(RX11, TX11, 12), rfl, by decide, rfl, inT mt_3 148 (by decide +kernel) rfl⟩
theorem flX11_49 : FL RX11 49 11 8 := ⟨(RX11, TX11, 12), rfl, by decide, Or.inl (inT mt_3 149 (by decide +kernel) rfl)⟩
theorem flX11_49o : FLo RX11 49 11 8 := ⟨(RX11, TX11, 12), rfl, by decide, rfl, inT mt_3 149 (by decide +kernel) rfl⟩
theorem flX11_69 : FL RX11 69 11 9 := ⟨(RX11, TX11, 12), rfl, by decide, Or.inl (inT mt_3 150 (by decide +kernel) rfl)⟩
theorem flX11_23 : FL RX11 23 11 10 := ⟨(RX11, TX11, 12), rfl, by decide, Or.inl (inT mt_3 151 (by decide +kernel) rfl)⟩
theorem flX11_27 : FL RX11 27 11 11 := ⟨(RX11, TX11, 12), rfl, by decide, Or.inl (inT mt_3 152 (by decide +kernel) rfl)⟩
theorem mlL_13 : ML RL 13 yX11_feed := Or.inl (inT mt_3 178 (by decide +kernel) rfl)
set_option maxRecDepth 100000 in
theorem mcX11_feed : MCv yX11_feed cX11_feed 6 (some .int) 5 := ⟨⟨inT mt_1 1 (by decide +kernel) rfl, inT mt_3 181 rfl rfl, ⟨by decide +kernel, by decide +kernel⟩, by decide +kernel⟩, inT mt_3 179 (by decide +kernel) rfl, inT mt_3 180 (by decide +kernel) rfl⟩
theorem mlX11_56 : ML RX11 56 yX11_feedNumber := Or.inl (inT mt_3 182 (by decide +kernel) rfl)
set_option maxRecDepth 100000 in
theorem mcX11_feedNumber : MCv yX11_feedNumber cX11_feedNumber 3 none 1 := ⟨⟨inT mt_1 1 (by decide +kernel) rfl, inT mt_3 185 rfl rfl, ⟨by decide +kernel, by decide +kernel⟩, by decide +kernel⟩, inT mt_3 184 (by decide +kernel) rfl, inT mt_0 1 (by decide +kernel) rfl⟩
theorem mlL_18 : ML RL 18 yX11_cut := Or.inl (inT mt_3 186 (by decide +kernel) rfl)
set_option maxRecDepth 100000 in
theorem mcX11_cut : MCv yX11_cut cX11_cut 3 (some .int) 1 := ⟨⟨inT mt_1 1 (by decide +kernel) rfl, inT mt_3 189 rfl rfl, ⟨by decide +kernel, by decide +kernel⟩, by decide +kernel⟩, inT mt_3 187 (by decide +kernel) rfl, inT mt_3 188 (by decide +kernel) rfl⟩
theorem mlL_23 : ML RL 23 yX11_part := Or.inl (inT mt_3 190 (by decide +kernel) rfl)
set_option maxRecDepth 100000 in
theorem mcX11_part : MCv yX11_part cX11_part 4 (some .int) 1 := ⟨⟨inT mt_1 1 (by decide +kernel) rfl, inT mt_3 193 rfl rfl, ⟨by decide +kernel, by decide +kernel⟩, by decide +kernel⟩, inT mt_3 191 (by decide +kernel) rfl, inT mt_3 192 (by decide +kernel) rfl⟩
theorem mlX11_63 : Cond.methodLink RX11 63 ⟨"java/lang/System", "arraycopy", "(Ljava/lang/Object;ILjava/lang/Object;II)V"⟩ ∈ TBL := inT mt_3 194 (by decide +kernel) rfl
theorem mlL_27 : ML RL 27 yX11_drop := Or.inl (inT mt_3 195 (by decide +kernel) rfl)
set_option maxRecDepth 100000 in
theorem mcX11_drop : MCv yX11_drop cX11_drop 2 (some .int) 0 := ⟨⟨inT mt_1 1 (by decide +kernel) rfl, inT mt_3 198 rfl rfl, ⟨by decide +kernel, by decide +kernel⟩, by decide +kernel⟩, inT mt_3 196 (by decide +kernel) rfl, inT mt_3 197 (by decide +kernel) rfl⟩
theorem mlL_32 : ML RL 32 yX11_print := Or.inl (inT mt_3 199 (by decide +kernel) rfl)
set_option maxRecDepth 100000 in
theorem mcX11_print : MCv yX11_print cX11_print 3 (some .int) 1 := ⟨⟨inT mt_1 1 (by decide +kernel) rfl, inT mt_3 202 rfl rfl, ⟨by decide +kernel, by decide +kernel⟩, by decide +kernel⟩, inT mt_3 200 (by decide +kernel) rfl, inT mt_3 201 (by decide +kernel) rfl⟩
theorem mlX11_72 : ML RX11 72 yX6_clear := Or.inl (inT mt_3 203 (by decide +kernel) rfl)
set_option maxRecDepth 100000 in
theorem mcX6_clear : MCv yX6_clear cX6_clear 1 none 0 := ⟨⟨inT mt_1 2 (by decide +kernel) rfl, inT mt_3 206 rfl rfl, ⟨by decide +kernel, by decide +kernel⟩, by decide +kernel⟩, inT mt_3 204 (by decide +kernel) rfl, inT mt_3 205 (by decide +kernel) rfl⟩
theorem mlX11_75 : ML RX11 75 yX9_startJob := Or.inl (inT mt_3 207 (by decide +kernel) rfl)
set_option maxRecDepth 100000 in
theorem mcX9_startJob : MCv yX9_startJob cX9_startJob 1 none 0 := ⟨⟨inT mt_1 3 (by decide +kernel) rfl, inT mt_3 210 rfl rfl, ⟨by decide +kernel, by decide +kernel⟩, by decide +kernel⟩, inT mt_3 208 (by decide +kernel) rfl, inT mt_3 209 (by decide +kernel) rfl⟩
theorem mlX9_98 : ML RX9 98 yX0_startJob := Or.inl (inT mt_3 211 (by decide +kernel) rfl)
set_option maxRecDepth 100000 in
theorem mcX0_startJob : MCv yX0_startJob cX0_startJob 1 none 0 := ⟨⟨inT mt_1 4 (by decide +kernel) rfl, inT mt_3 214 rfl rfl, ⟨by decide +kernel, by decide +kernel⟩, by decide +kernel⟩, inT mt_3 212 (by decide +kernel) rfl, inT mt_3 213 (by decide +kernel) rfl⟩
theorem mlX0_36 : ML RX0 36 yX0_clear := Or.inl (inT mt_3 215 (by decide +kernel) rfl)
set_option maxRecDepth 100000 in
theorem mcX0_clear : MCv yX0_clear cX0_clear 1 none 0 := ⟨⟨inT mt_1 4 (by decide +kernel) rfl, inT mt_3 218 rfl rfl, ⟨by decide +kernel, by decide +kernel⟩, by decide +kernel⟩, inT mt_3 216 (by decide +kernel) rfl, inT mt_3 217 (by decide +kernel) rfl⟩
theorem mlX0_42 : ML RX0 42 yJ7_fill_53178 := Or.inl (inT mt_3 219 (by decide +kernel) rfl)
theorem mlX11_78 : ML RX11 78 yX9_run := Or.inl (inT mt_3 220 (by decide +kernel) rfl)
set_option maxRecDepth 100000 in
theorem mcX9_run : MCv yX9_run cX9_run 4 none 3 := ⟨⟨inT mt_1 3 (by decide +kernel) rfl, inT mt_3 223 rfl rfl, ⟨by decide +kernel, by decide +kernel⟩, by decide +kernel⟩, inT mt_3 221 (by decide +kernel) rfl, inT mt_3 222 (by decide +kernel) rfl⟩
theorem mlX9_101 : ML RX9 101 yX1_reset := Or.inl (inT mt_3 224 (by decide +kernel) rfl)
set_option maxRecDepth 100000 in
theorem mcX1_reset : MCv yX1_reset cX1_reset 3 none 2 := ⟨⟨inT mt_1 10 (by decide +kernel) rfl, inT mt_3 227 rfl rfl, ⟨by decide +kernel, by decide +kernel⟩, by decide +kernel⟩, inT mt_3 225 (by decide +kernel) rfl, inT mt_3 226 (by decide +kernel) rfl⟩
theorem mlX1_107 : ML RX1 107 yX7_reset := Or.inl (inT mt_3 228 (by decide +kernel) rfl)
set_option maxRecDepth 100000 in
theorem mcX7_reset : MCv yX7_reset cX7_reset 1 none 0 := ⟨⟨inT mt_1 11 (by decide +kernel) rfl, inT mt_3 231 rfl rfl, ⟨by decide +kernel, by decide +kernel⟩, by decide +kernel⟩, inT mt_3 229 (by decide +kernel) rfl, inT mt_3 230 (by decide +kernel) rfl⟩
theorem mlX1_110 : ML RX1 110 yX7_turn := Or.inl (inT mt_3 232 (by decide +kernel) rfl)
set_option maxRecDepth 100000 in
theorem mcX7_turn : MCv yX7_turn cX7_turn 3 none 2 := ⟨⟨inT mt_1 11 (by decide +kernel) rfl, inT mt_3 235 rfl rfl, ⟨by decide +kernel, by decide +kernel⟩, by decide +kernel⟩, inT mt_3 233 (by decide +kernel) rfl, inT mt_3 234 (by decide +kernel) rfl⟩
theorem mlX7_58 : ML RX7 58 yX7_down := Or.inl (inT mt_3 236 (by decide +kernel) rfl)
set_option maxRecDepth 100000 in
theorem mcX7_down : MCv yX7_down cX7_down 1 (some .int) 0 := ⟨⟨inT mt_1 11 (by decide +kernel) rfl, inT mt_3 239 rfl rfl, ⟨by decide +kernel, by decide +kernel⟩, by decide +kernel⟩, inT mt_3 237 (by decide +kernel) rfl, inT mt_3 238 (by decide +kernel) rfl⟩
theorem mlX7_84 : ML RX7 84 yX7_dotsDown := Or.inl (inT mt_4 0 (by decide +kernel) rfl)
set_option maxRecDepth 100000 in
theorem mcX7_dotsDown : MCv yX7_dotsDown cX7_dotsDown 1 (some .int) 0 := ⟨⟨inT mt_1 11 (by decide +kernel) rfl, inT mt_4 3 rfl rfl, ⟨by decide +kernel, by decide +kernel⟩, by decide +kernel⟩, inT mt_4 1 (by decide +kernel) rfl, inT mt_4 2 (by decide +kernel) rfl⟩
theorem gsX7_78 : Cond.fieldLinkNest RX7 78 "PrinterHouse" "FORMAT_HIGH" "[I" "PrinterHouse" ∈ NST := inN mt_4 4 (by decide +kernel) rfl
theorem gsX7_75 : Cond.fieldLinkNest RX7 75 "PrinterHouse" "FORMAT_WIDE" "[I" "PrinterHouse" ∈ NST := inN mt_4 6 (by decide +kernel) rfl
theorem mlX7_62 : ML RX7 62 yX7_clearMargins := Or.inl (inT mt_4 8 (by decide +kernel) rfl)
set_option maxRecDepth 100000 in
theorem mcX7_clearMargins : MCv yX7_clearMargins cX7_clearMargins 1 none 0 := ⟨⟨inT mt_1 11 (by decide +kernel) rfl, inT mt_4 11 rfl rfl, ⟨by decide +kernel, by decide +kernel⟩, by decide +kernel⟩, inT mt_4 9 (by decide +kernel) rfl, inT mt_4 10 (by decide +kernel) rfl⟩
theorem mlX7_72 : ML RX7 72 yX7_across := Or.inl (inT mt_4 12 (by decide +kernel) rfl)
set_option maxRecDepth 100000 in
theorem mcX7_across : MCv yX7_across cX7_across 1 (some .int) 0 := ⟨⟨inT mt_1 11 (by decide +kernel) rfl, inT mt_4 15 rfl rfl, ⟨by decide +kernel, by decide +kernel⟩, by decide +kernel⟩, inT mt_4 13 (by decide +kernel) rfl, inT mt_4 14 (by decide +kernel) rfl⟩
theorem mlX7_81 : ML RX7 81 yX7_dotsAcross := Or.inl (inT mt_4 16 (by decide +kernel) rfl)
set_option maxRecDepth 100000 in
theorem mcX7_dotsAcross : MCv yX7_dotsAcross cX7_dotsAcross 1 (some .int) 0 := ⟨⟨inT mt_1 11 (by decide +kernel) rfl, inT mt_4 19 rfl rfl, ⟨by decide +kernel, by decide +kernel⟩, by decide +kernel⟩, inT mt_4 17 (by decide +kernel) rfl, inT mt_4 18 (by decide +kernel) rfl⟩
theorem mlX7_65 : ML RX7 65 yX7_moveX := Or.inl (inT mt_4 20 (by decide +kernel) rfl)
set_option maxRecDepth 100000 in
theorem mcX7_moveX : MCv yX7_moveX cX7_moveX 3 none 1 := ⟨⟨inT mt_1 11 (by decide +kernel) rfl, inT mt_4 23 rfl rfl, ⟨by decide +kernel, by decide +kernel⟩, by decide +kernel⟩, inT mt_4 21 (by decide +kernel) rfl, inT mt_4 22 (by decide +kernel) rfl⟩
theorem mlX7_90 : ML RX7 90 yJ9_min_f86c9 := Or.inl (inT mt_4 24 (by decide +kernel) rfl)
set_option maxRecDepth 100000 in
theorem mcJ9_min_f86c9 : MCs yJ9_min_f86c9 cJ9_min_f86c9 4 (some .long) 2 := ⟨⟨inT mt_1 20 (by decide +kernel) rfl, inT mt_4 26 rfl rfl, ⟨by decide +kernel, by decide +kernel⟩, by decide +kernel⟩, inT mt_4 25 (by decide +kernel) rfl⟩
theorem mlX7_96 : ML RX7 96 yJ9_max_f86c9 := Or.inl (inT mt_4 27 (by decide +kernel) rfl)
set_option maxRecDepth 100000 in
theorem mcJ9_max_f86c9 : MCs yJ9_max_f86c9 cJ9_max_f86c9 4 (some .long) 2 := ⟨⟨inT mt_1 20 (by decide +kernel) rfl, inT mt_4 29 rfl rfl, ⟨by decide +kernel, by decide +kernel⟩, by decide +kernel⟩, inT mt_4 28 (by decide +kernel) rfl⟩
theorem mlX7_69 : ML RX7 69 yX7_homeY := Or.inl (inT mt_4 30 (by decide +kernel) rfl)
set_option maxRecDepth 100000 in
theorem mcX7_homeY : MCv yX7_homeY cX7_homeY 1 none 0 := ⟨⟨inT mt_1 11 (by decide +kernel) rfl, inT mt_4 33 rfl rfl, ⟨by decide +kernel, by decide +kernel⟩, by decide +kernel⟩, inT mt_4 31 (by decide +kernel) rfl, inT mt_4 32 (by decide +kernel) rfl⟩
theorem mlX7_87 : ML RX7 87 yX7_moveY := Or.inl (inT mt_4 34 (by decide +kernel) rfl)
set_option maxRecDepth 100000 in
theorem mcX7_moveY : MCv yX7_moveY cX7_moveY 3 none 1 := ⟨⟨inT mt_1 11 (by decide +kernel) rfl, inT mt_4 37 rfl rfl, ⟨by decide +kernel, by decide +kernel⟩, by decide +kernel⟩, inT mt_4 35 (by decide +kernel) rfl, inT mt_4 36 (by decide +kernel) rfl⟩
theorem mlX1_114 : ML RX1 114 yX4_reset := Or.inl (inT mt_4 38 (by decide +kernel) rfl)
set_option maxRecDepth 100000 in
theorem mcX4_reset : MCv yX4_reset cX4_reset 1 none 0 := ⟨⟨inT mt_1 12 (by decide +kernel) rfl, inT mt_4 41 rfl rfl, ⟨by decide +kernel, by decide +kernel⟩, by decide +kernel⟩, inT mt_4 39 (by decide +kernel) rfl, inT mt_4 40 (by decide +kernel) rfl⟩
theorem mlX4_42 : ML RX4 42 yX4_clearRow := Or.inl (inT mt_4 42 (by decide +kernel) rfl)
set_option maxRecDepth 100000 in
theorem mcX4_clearRow : MCv yX4_clearRow cX4_clearRow 1 none 0 := ⟨⟨inT mt_1 12 (by decide +kernel) rfl, inT mt_4 45 rfl rfl, ⟨by decide +kernel, by decide +kernel⟩, by decide +kernel⟩, inT mt_4 43 (by decide +kernel) rfl, inT mt_4 44 (by decide +kernel) rfl⟩
theorem mlX4_49 : ML RX4 49 yJ7_fill_53178 := Or.inl (inT mt_4 46 (by decide +kernel) rfl)
theorem mlX4_45 : ML RX4 45 yX4_end := Or.inl (inT mt_4 47 (by decide +kernel) rfl)
set_option maxRecDepth 100000 in
theorem mcX4_end : MCv yX4_end cX4_end 2 none 1 := ⟨⟨inT mt_1 12 (by decide +kernel) rfl, inT mt_4 50 rfl rfl, ⟨by decide +kernel, by decide +kernel⟩, by decide +kernel⟩, inT mt_4 48 (by decide +kernel) rfl, inT mt_4 49 (by decide +kernel) rfl⟩
theorem mlX1_115 : ML RX1 115 yX10_solid := Or.inl (inT mt_4 51 (by decide +kernel) rfl)
set_option maxRecDepth 100000 in
theorem mcX10_solid : MCv yX10_solid cX10_solid 1 none 0 := ⟨⟨inT mt_1 5 (by decide +kernel) rfl, inT mt_4 54 rfl rfl, ⟨by decide +kernel, by decide +kernel⟩, by decide +kernel⟩, inT mt_4 52 (by decide +kernel) rfl, inT mt_4 53 (by decide +kernel) rfl⟩
theorem mlX10_39 : ML RX10 39 yX10_size := Or.inl (inT mt_4 55 (by decide +kernel) rfl)
set_option maxRecDepth 100000 in
theorem mcX10_size : MCv yX10_size cX10_size 3 none 2 := ⟨⟨inT mt_1 5 (by decide +kernel) rfl, inT mt_4 58 rfl rfl, ⟨by decide +kernel, by decide +kernel⟩, by decide +kernel⟩, inT mt_4 56 (by decide +kernel) rfl, inT mt_4 57 (by decide +kernel) rfl⟩
theorem mlX10_30 : ML RX10 30 yJ9_min_7cf53 := Or.inl (inT mt_4 59 (by decide +kernel) rfl)
set_option maxRecDepth 100000 in
theorem mcJ9_min_7cf53 : MCs yJ9_min_7cf53 cJ9_min_7cf53 2 (some .int) 2 := ⟨⟨inT mt_1 20 (by decide +kernel) rfl, inT mt_4 61 rfl rfl, ⟨by decide +kernel, by decide +kernel⟩, by decide +kernel⟩, inT mt_4 60 (by decide +kernel) rfl⟩
theorem mlX10_36 : ML RX10 36 yJ9_max_7cf53 := Or.inl (inT mt_4 62 (by decide +kernel) rfl)
set_option maxRecDepth 100000 in
theorem mcJ9_max_7cf53 : MCs yJ9_max_7cf53 cJ9_max_7cf53 2 (some .int) 2 := ⟨⟨inT mt_1 20 (by decide +kernel) rfl, inT mt_4 64 rfl rfl, ⟨by decide +kernel, by decide +kernel⟩, by decide +kernel⟩, inT mt_4 63 (by decide +kernel) rfl⟩
theorem mlX10_43 : ML RX10 43 yX10_setRow := Or.inl (inT mt_4 65 (by decide +kernel) rfl)
set_option maxRecDepth 100000 in
theorem mcX10_setRow : MCv yX10_setRow cX10_setRow 6 none 2 := ⟨⟨inT mt_1 5 (by decide +kernel) rfl, inT mt_4 68 rfl rfl, ⟨by decide +kernel, by decide +kernel⟩, by decide +kernel⟩, inT mt_4 66 (by decide +kernel) rfl, inT mt_4 67 (by decide +kernel) rfl⟩
theorem mlX1_118 : ML RX1 118 yX2_firstWishes := Or.inl (inT mt_4 69 (by decide +kernel) rfl)
theorem mlX9_105 : ML RX9 105 yX0_clear := Or.inl (inT mt_4 70 (by decide +kernel) rfl)
theorem mlX9_114 : ML RX9 114 yX9_goThrough := Or.inl (inT mt_4 71 (by decide +kernel) rfl)
set_option maxRecDepth 100000 in
theorem mcX9_goThrough : MCv yX9_goThrough cX9_goThrough 7 none 3 := ⟨⟨inT mt_1 3 (by decide +kernel) rfl, inT mt_4 74 rfl rfl, ⟨by decide +kernel, by decide +kernel⟩, by decide +kernel⟩, inT mt_4 73 (by decide +kernel) rfl, inT mt_0 2 (by decide +kernel) rfl⟩
theorem mlX9_207 : ML RX9 207 yX5_open := Or.inl (inT mt_4 75 (by decide +kernel) rfl)
set_option maxRecDepth 100000 in
theorem mcX5_open : MCv yX5_open cX5_open 4 none 3 := ⟨⟨inT mt_1 13 (by decide +kernel) rfl, inT mt_4 78 rfl rfl, ⟨by decide +kernel, by decide +kernel⟩, by decide +kernel⟩, inT mt_4 76 (by decide +kernel) rfl, inT mt_4 77 (by decide +kernel) rfl⟩
theorem mlX5_15 : ML RX5 15 yJ9_max_7cf53 := Or.inl (inT mt_4 79 (by decide +kernel) rfl)
theorem mlX5_25 : ML RX5 25 yJ9_min_7cf53 := Or.inl (inT mt_4 80 (by decide +kernel) rfl)
theorem kcX9_210 : Cond.constant RX9 210 (1000000) ∈ TBL := inT mt_4 81 (by decide +kernel) rfl
theorem mlX9_211 : ML RX9 211 yX5_hasMore := Or.inl (inT mt_4 82 (by decide +kernel) rfl)
set_option maxRecDepth 100000 in
theorem mcX5_hasMore : MCv yX5_hasMore cX5_hasMore 1 (some .boolean) 0 := ⟨⟨inT mt_1 13 (by decide +kernel) rfl, inT mt_4 85 rfl rfl, ⟨by decide +kernel, by decide +kernel⟩, by decide +kernel⟩, inT mt_4 83 (by decide +kernel) rfl, inT mt_4 84 (by decide +kernel) rfl⟩
theorem mlX9_118 : ML RX9 118 yX9_isMuch := Or.inl (inT mt_4 86 (by decide +kernel) rfl)
set_option maxRecDepth 100000 in
theorem mcX9_isMuch : MCv yX9_isMuch cX9_isMuch 1 (some .boolean) 0 := ⟨⟨inT mt_1 3 (by decide +kernel) rfl, inT mt_4 89 rfl rfl, ⟨by decide +kernel, by decide +kernel⟩, by decide +kernel⟩, inT mt_4 87 (by decide +kernel) rfl, inT mt_4 88 (by decide +kernel) rfl⟩
theorem kcX9_90 : Cond.constant RX9 90 (60000) ∈ TBL := inT mt_4 90 (by decide +kernel) rfl
theorem mlX9_214 : ML RX9 214 yX5_next := Or.inl (inT mt_4 91 (by decide +kernel) rfl)
set_option maxRecDepth 100000 in
theorem mcX5_next : MCv yX5_next cX5_next 1 (some .int) 0 := ⟨⟨inT mt_1 13 (by decide +kernel) rfl, inT mt_4 94 rfl rfl, ⟨by decide +kernel, by decide +kernel⟩, by decide +kernel⟩, inT mt_4 92 (by decide +kernel) rfl, inT mt_4 93 (by decide +kernel) rfl⟩
theorem mlX5_34 : ML RX5 34 yX5_byteAt := Or.inl (inT mt_4 95 (by decide +kernel) rfl)
set_option maxRecDepth 100000 in
theorem mcX5_byteAt : MCv yX5_byteAt cX5_byteAt 2 (some .int) 1 := ⟨⟨inT mt_1 13 (by decide +kernel) rfl, inT mt_4 98 rfl rfl, ⟨by decide +kernel, by decide +kernel⟩, by decide +kernel⟩, inT mt_4 96 (by decide +kernel) rfl, inT mt_4 97 (by decide +kernel) rfl⟩
theorem mlX9_204 : ML RX9 204 yX9_pass := Or.inl (inT mt_4 99 (by decide +kernel) rfl)
set_option maxRecDepth 100000 in
theorem mcX9_pass : MCv yX9_pass cX9_pass 2 (some .boolean) 1 := ⟨⟨inT mt_1 3 (by decide +kernel) rfl, inT mt_4 102 rfl rfl, ⟨by decide +kernel, by decide +kernel⟩, by decide +kernel⟩, inT mt_4 101 (by decide +kernel) rfl, inT mt_0 3 (by decide +kernel) rfl⟩
theorem mlX9_220 : ML RX9 220 yX9_other := Or.inl (inT mt_4 103 (by decide +kernel) rfl)
set_option maxRecDepth 100000 in
theorem mcX9_other : MCv yX9_other cX9_other 2 none 1 := ⟨⟨inT mt_1 3 (by decide +kernel) rfl, inT mt_4 106 rfl rfl, ⟨by decide +kernel, by decide +kernel⟩, by decide +kernel⟩, inT mt_4 105 (by decide +kernel) rfl, inT mt_0 4 (by decide +kernel) rfl⟩
theorem mlX9_246 : ML RX9 246 yX7_moveX := Or.inl (inT mt_4 107 (by decide +kernel) rfl)
theorem mlX9_250 : ML RX9 250 yX7_tab := Or.inl (inT mt_4 108 (by decide +kernel) rfl)
set_option maxRecDepth 100000 in
theorem mcX7_tab : MCv yX7_tab cX7_tab 3 none 0 := ⟨⟨inT mt_1 11 (by decide +kernel) rfl, inT mt_4 111 rfl rfl, ⟨by decide +kernel, by decide +kernel⟩, by decide +kernel⟩, inT mt_4 109 (by decide +kernel) rfl, inT mt_4 110 (by decide +kernel) rfl⟩
theorem mlX7_99 : ML RX7 99 yJ9_min_7cf53 := Or.inl (inT mt_4 112 (by decide +kernel) rfl)
theorem mlX7_102 : ML RX7 102 yJ9_max_7cf53 := Or.inl (inT mt_4 113 (by decide +kernel) rfl)
theorem mlX9_253 : ML RX9 253 yX9_line := Or.inl (inT mt_4 114 (by decide +kernel) rfl)
set_option maxRecDepth 100000 in
theorem mcX9_line : MCv yX9_line cX9_line 3 none 1 := ⟨⟨inT mt_1 3 (by decide +kernel) rfl, inT mt_4 117 rfl rfl, ⟨by decide +kernel, by decide +kernel⟩, by decide +kernel⟩, inT mt_4 116 (by decide +kernel) rfl, inT mt_0 5 (by decide +kernel) rfl⟩
theorem mlX9_283 : ML RX9 283 yX7_down := Or.inl (inT mt_4 118 (by decide +kernel) rfl)
theorem mlX9_259 : ML RX9 259 yX9_form := Or.inl (inT mt_4 119 (by decide +kernel) rfl)
set_option maxRecDepth 100000 in
theorem mcX9_form : MCv yX9_form cX9_form 1 none 0 := ⟨⟨inT mt_1 3 (by decide +kernel) rfl, inT mt_4 122 rfl rfl, ⟨by decide +kernel, by decide +kernel⟩, by decide +kernel⟩, inT mt_4 121 (by decide +kernel) rfl, inT mt_0 6 (by decide +kernel) rfl⟩
theorem mlX9_240 : ML RX9 240 yX9_eject := Or.inl (inT mt_4 123 (by decide +kernel) rfl)
set_option maxRecDepth 100000 in
theorem mcX9_eject : MCv yX9_eject cX9_eject 3 none 0 := ⟨⟨inT mt_1 3 (by decide +kernel) rfl, inT mt_4 126 rfl rfl, ⟨by decide +kernel, by decide +kernel⟩, by decide +kernel⟩, inT mt_4 125 (by decide +kernel) rfl, inT mt_0 7 (by decide +kernel) rfl⟩
theorem mlX9_192 : ML RX9 192 yX8_has := Or.inl (inT mt_4 127 (by decide +kernel) rfl)
set_option maxRecDepth 100000 in
theorem mcX8_has : MCv yX8_has cX8_has 2 (some .boolean) 1 := ⟨⟨inT mt_1 7 (by decide +kernel) rfl, inT mt_4 130 rfl rfl, ⟨by decide +kernel, by decide +kernel⟩, by decide +kernel⟩, inT mt_4 128 (by decide +kernel) rfl, inT mt_4 129 (by decide +kernel) rfl⟩
theorem mlX9_233 : ML RX9 233 yX1_copy := Or.inl (inT mt_4 131 (by decide +kernel) rfl)
set_option maxRecDepth 100000 in
theorem mcX1_copy : MCv yX1_copy cX1_copy 2 none 1 := ⟨⟨inT mt_1 10 (by decide +kernel) rfl, inT mt_4 134 rfl rfl, ⟨by decide +kernel, by decide +kernel⟩, by decide +kernel⟩, inT mt_4 132 (by decide +kernel) rfl, inT mt_4 133 (by decide +kernel) rfl⟩
theorem mlX1_41 : ML RX1 41 yX7_copy := Or.inl (inT mt_4 135 (by decide +kernel) rfl)
set_option maxRecDepth 100000 in
theorem mcX7_copy : MCv yX7_copy cX7_copy 2 none 1 := ⟨⟨inT mt_1 11 (by decide +kernel) rfl, inT mt_4 138 rfl rfl, ⟨by decide +kernel, by decide +kernel⟩, by decide +kernel⟩, inT mt_4 136 (by decide +kernel) rfl, inT mt_4 137 (by decide +kernel) rfl⟩
theorem mlX7_52 : Cond.methodLink RX7 52 ⟨"java/lang/System", "arraycopy", "(Ljava/lang/Object;ILjava/lang/Object;II)V"⟩ ∈ TBL := inT mt_4 139 (by decide +kernel) rfl
theorem mlX1_45 : ML RX1 45 yX4_copy := Or.inl (inT mt_4 140 (by decide +kernel) rfl)
set_option maxRecDepth 100000 in
theorem mcX4_copy : MCv yX4_copy cX4_copy 2 none 1 := ⟨⟨inT mt_1 12 (by decide +kernel) rfl, inT mt_4 143 rfl rfl, ⟨by decide +kernel, by decide +kernel⟩, by decide +kernel⟩, inT mt_4 141 (by decide +kernel) rfl, inT mt_4 142 (by decide +kernel) rfl⟩
theorem mlX4_36 : Cond.methodLink RX4 36 ⟨"java/lang/System", "arraycopy", "(Ljava/lang/Object;ILjava/lang/Object;II)V"⟩ ∈ TBL := inT mt_4 144 (by decide +kernel) rfl
theorem mlX1_48 : ML RX1 48 yX10_copy := Or.inl (inT mt_4 145 (by decide +kernel) rfl)
set_option maxRecDepth 100000 in
theorem mcX10_copy : MCv yX10_copy cX10_copy 2 none 1 := ⟨⟨inT mt_1 5 (by decide +kernel) rfl, inT mt_4 148 rfl rfl, ⟨by decide +kernel, by decide +kernel⟩, by decide +kernel⟩, inT mt_4 146 (by decide +kernel) rfl, inT mt_4 147 (by decide +kernel) rfl⟩
theorem mlX10_24 : Cond.methodLink RX10 24 ⟨"java/lang/System", "arraycopy", "(Ljava/lang/Object;ILjava/lang/Object;II)V"⟩ ∈ TBL := inT mt_4 149 (by decide +kernel) rfl
theorem mlX1_51 : Cond.methodLink RX1 51 ⟨"java/lang/System", "arraycopy", "(Ljava/lang/Object;ILjava/lang/Object;II)V"⟩ ∈ TBL := inT mt_4 150 (by decide +kernel) rfl
theorem mlX9_237 : ML RX9 237 yX9_goMacro := Or.inl (inT mt_4 151 (by decide +kernel) rfl)
set_option maxRecDepth 100000 in
theorem mcX9_goMacro : MCv yX9_goMacro cX9_goMacro 3 none 1 := ⟨⟨inT mt_1 3 (by decide +kernel) rfl, inT mt_4 154 rfl rfl, ⟨by decide +kernel, by decide +kernel⟩, by decide +kernel⟩, inT mt_4 153 (by decide +kernel) rfl, inT mt_0 8 (by decide +kernel) rfl⟩
theorem mlX9_508 : ML RX9 508 yX6_nextPage := Or.inl (inT mt_4 155 (by decide +kernel) rfl)
set_option maxRecDepth 100000 in
theorem mcX6_nextPage : MCv yX6_nextPage cX6_nextPage 1 (some (.array .int)) 0 := ⟨⟨inT mt_1 2 (by decide +kernel) rfl, inT mt_4 158 rfl rfl, ⟨by decide +kernel, by decide +kernel⟩, by decide +kernel⟩, inT mt_4 156 (by decide +kernel) rfl, inT mt_4 157 (by decide +kernel) rfl⟩
theorem mlX6_49 : ML RX6 49 yJ9_min_7cf53 := Or.inl (inT mt_4 159 (by decide +kernel) rfl)
theorem mlX6_55 : ML RX6 55 yJ9_max_7cf53 := Or.inl (inT mt_4 160 (by decide +kernel) rfl)
theorem mlX9_511 : ML RX9 511 yX0_copyTo := Or.inl (inT mt_4 161 (by decide +kernel) rfl)
set_option maxRecDepth 100000 in
theorem mcX0_copyTo : MCv yX0_copyTo cX0_copyTo 7 none 2 := ⟨⟨inT mt_1 4 (by decide +kernel) rfl, inT mt_4 164 rfl rfl, ⟨by decide +kernel, by decide +kernel⟩, by decide +kernel⟩, inT mt_4 162 (by decide +kernel) rfl, inT mt_4 163 (by decide +kernel) rfl⟩
theorem mlX0_86 : ML RX0 86 yX7_dotsAcross := Or.inl (inT mt_4 165 (by decide +kernel) rfl)
theorem mlX0_92 : ML RX0 92 yJ9_min_7cf53 := Or.inl (inT mt_4 166 (by decide +kernel) rfl)
theorem mlX0_101 : ML RX0 101 yX7_dotsDown := Or.inl (inT mt_4 167 (by decide +kernel) rfl)
theorem mlX0_151 : ML RX0 151 yX7_pageHigh := Or.inl (inT mt_4 168 (by decide +kernel) rfl)
set_option maxRecDepth 100000 in
theorem mcX7_pageHigh : MCv yX7_pageHigh cX7_pageHigh 1 (some .int) 0 := ⟨⟨inT mt_1 11 (by decide +kernel) rfl, inT mt_4 171 rfl rfl, ⟨by decide +kernel, by decide +kernel⟩, by decide +kernel⟩, inT mt_4 169 (by decide +kernel) rfl, inT mt_4 170 (by decide +kernel) rfl⟩
theorem mlX0_154 : ML RX0 154 yX0_turnWord := Or.inl (inT mt_4 172 (by decide +kernel) rfl)
set_option maxRecDepth 100000 in
theorem mcX0_turnWord : MCs yX0_turnWord cX0_turnWord 7 none 4 := ⟨⟨inT mt_1 4 (by decide +kernel) rfl, inT mt_4 174 rfl rfl, ⟨by decide +kernel, by decide +kernel⟩, by decide +kernel⟩, inT mt_4 173 (by decide +kernel) rfl⟩
theorem mlX9_515 : ML RX9 515 yX7_pageWide := Or.inl (inT mt_4 175 (by decide +kernel) rfl)
set_option maxRecDepth 100000 in
theorem mcX7_pageWide : MCv yX7_pageWide cX7_pageWide 1 (some .int) 0 := ⟨⟨inT mt_1 11 (by decide +kernel) rfl, inT mt_4 178 rfl rfl, ⟨by decide +kernel, by decide +kernel⟩, by decide +kernel⟩, inT mt_4 176 (by decide +kernel) rfl, inT mt_4 177 (by decide +kernel) rfl⟩
theorem mlX9_518 : ML RX9 518 yX7_pageHigh := Or.inl (inT mt_4 179 (by decide +kernel) rfl)
theorem mlX9_521 : ML RX9 521 yX6_come := Or.inl (inT mt_4 180 (by decide +kernel) rfl)
set_option maxRecDepth 100000 in
theorem mcX6_come : MCv yX6_come cX6_come 6 none 2 := ⟨⟨inT mt_1 2 (by decide +kernel) rfl, inT mt_4 183 rfl rfl, ⟨by decide +kernel, by decide +kernel⟩, by decide +kernel⟩, inT mt_4 181 (by decide +kernel) rfl, inT mt_4 182 (by decide +kernel) rfl⟩
theorem kcX6_58 : Cond.constant RX6 58 (2771273) ∈ TBL := inT mt_4 184 (by decide +kernel) rfl
theorem mlX6_59 : ML RX6 59 yX6_putNumber := Or.inl (inT mt_4 185 (by decide +kernel) rfl)
set_option maxRecDepth 100000 in
theorem mcX6_putNumber : MCv yX6_putNumber cX6_putNumber 4 none 2 := ⟨⟨inT mt_1 2 (by decide +kernel) rfl, inT mt_4 188 rfl rfl, ⟨by decide +kernel, by decide +kernel⟩, by decide +kernel⟩, inT mt_4 187 (by decide +kernel) rfl, inT mt_0 9 (by decide +kernel) rfl⟩
theorem mlX6_83 : ML RX6 83 yX6_putByte := Or.inl (inT mt_4 189 (by decide +kernel) rfl)
set_option maxRecDepth 100000 in
theorem mcX6_putByte : MCv yX6_putByte cX6_putByte 2 none 1 := ⟨⟨inT mt_1 2 (by decide +kernel) rfl, inT mt_4 192 rfl rfl, ⟨by decide +kernel, by decide +kernel⟩, by decide +kernel⟩, inT mt_4 191 (by decide +kernel) rfl, inT mt_0 10 (by decide +kernel) rfl⟩
theorem mlX6_72 : ML RX6 72 yX6_nextPage := Or.inl (inT mt_4 193 (by decide +kernel) rfl)
theorem mlX6_76 : ML RX6 76 yX6_writeRow := Or.inl (inT mt_4 194 (by decide +kernel) rfl)
set_option maxRecDepth 100000 in
theorem mcX6_writeRow : MCv yX6_writeRow cX6_writeRow 15 none 3 := ⟨⟨inT mt_1 2 (by decide +kernel) rfl, inT mt_4 197 rfl rfl, ⟨by decide +kernel, by decide +kernel⟩, by decide +kernel⟩, inT mt_4 196 (by decide +kernel) rfl, inT mt_0 11 (by decide +kernel) rfl⟩
theorem mlX6_104 : ML RX6 104 yX11_firstOther := Or.inr ⟨"PrinterHouse", inN mt_4 198 (by decide +kernel) rfl⟩
set_option maxRecDepth 100000 in
theorem mcX11_firstOther : MCs yX11_firstOther cX11_firstOther 9 (some .int) 5 := ⟨⟨inT mt_1 1 (by decide +kernel) rfl, inT mt_4 200 rfl rfl, ⟨by decide +kernel, by decide +kernel⟩, by decide +kernel⟩, inT mt_4 199 (by decide +kernel) rfl⟩
theorem mlX11_153 : ML RX11 153 yX11_zerosAhead := Or.inl (inT mt_4 201 (by decide +kernel) rfl)
set_option maxRecDepth 100000 in
theorem mcX11_zerosAhead : MCs yX11_zerosAhead cX11_zerosAhead 2 (some .int) 1 := ⟨⟨inT mt_1 1 (by decide +kernel) rfl, inT mt_4 203 rfl rfl, ⟨by decide +kernel, by decide +kernel⟩, by decide +kernel⟩, inT mt_4 202 (by decide +kernel) rfl⟩
theorem mlX11_148 : ML RX11 148 yJ6_bitCount_0f7a4 := Or.inl (inT mt_4 204 (by decide +kernel) rfl)
set_option maxRecDepth 100000 in
theorem mcJ6_bitCount_0f7a4 : MCs yJ6_bitCount_0f7a4 cJ6_bitCount_0f7a4 1 (some .int) 1 := ⟨⟨inT mt_1 21 (by decide +kernel) rfl, inT mt_4 206 rfl rfl, ⟨by decide +kernel, by decide +kernel⟩, by decide +kernel⟩, inT mt_4 205 (by decide +kernel) rfl⟩
theorem kcJ6_265 : Cond.constant RJ6 265 (1431655765) ∈ TBL := inT mt_4 207 (by decide +kernel) rfl
theorem kcJ6_266 : Cond.constant RJ6 266 (858993459) ∈ TBL := inT mt_4 208 (by decide +kernel) rfl
theorem kcJ6_267 : Cond.constant RJ6 267 (252645135) ∈ TBL := inT mt_4 209 (by decide +kernel) rfl
theorem mlX11_156 : ML RX11 156 yJ9_min_7cf53 := Or.inl (inT mt_4 210 (by decide +kernel) rfl)
theorem mlX6_108 : ML RX6 108 yX11_firstChange := Or.inr ⟨"PrinterHouse", inN mt_4 211 (by decide +kernel) rfl⟩
set_option maxRecDepth 100000 in
theorem mcX11_firstChange : MCs yX11_firstChange cX11_firstChange 8 (some .int) 5 := ⟨⟨inT mt_1 1 (by decide +kernel) rfl, inT mt_4 213 rfl rfl, ⟨by decide +kernel, by decide +kernel⟩, by decide +kernel⟩, inT mt_4 212 (by decide +kernel) rfl⟩
theorem mlX11_131 : ML RX11 131 yX11_dotAt := Or.inl (inT mt_4 214 (by decide +kernel) rfl)
set_option maxRecDepth 100000 in
theorem mcX11_dotAt : MCs yX11_dotAt cX11_dotAt 4 (some .int) 3 := ⟨⟨inT mt_1 1 (by decide +kernel) rfl, inT mt_4 216 rfl rfl, ⟨by decide +kernel, by decide +kernel⟩, by decide +kernel⟩, inT mt_4 215 (by decide +kernel) rfl⟩
theorem mlX11_161 : ML RX11 161 yX11_firstOther := Or.inl (inT mt_4 217 (by decide +kernel) rfl)
theorem mlX6_80 : ML RX6 80 yX6_putBits := Or.inl (inT mt_4 218 (by decide +kernel) rfl)
set_option maxRecDepth 100000 in
theorem mcX6_putBits : MCv yX6_putBits cX6_putBits 3 none 2 := ⟨⟨inT mt_1 2 (by decide +kernel) rfl, inT mt_4 221 rfl rfl, ⟨by decide +kernel, by decide +kernel⟩, by decide +kernel⟩, inT mt_4 220 (by decide +kernel) rfl, inT mt_0 12 (by decide +kernel) rfl⟩
theorem gsX6_111 : Cond.fieldLinkNest RX6 111 "PrinterHouse" "NEAR_CODES" "[I" "PrinterHouse" ∈ NST := inN mt_4 222 (by decide +kernel) rfl
theorem gsX6_114 : Cond.fieldLinkNest RX6 114 "PrinterHouse" "NEAR_BITS" "[I" "PrinterHouse" ∈ NST := inN mt_4 224 (by decide +kernel) rfl
theorem mlX6_117 : ML RX6 117 yX6_putRun := Or.inl (inT mt_4 226 (by decide +kernel) rfl)
set_option maxRecDepth 100000 in
theorem mcX6_putRun : MCv yX6_putRun cX6_putRun 5 none 2 := ⟨⟨inT mt_1 2 (by decide +kernel) rfl, inT mt_4 229 rfl rfl, ⟨by decide +kernel, by decide +kernel⟩, by decide +kernel⟩, inT mt_4 228 (by decide +kernel) rfl, inT mt_0 13 (by decide +kernel) rfl⟩
theorem gsX6_98 : Cond.fieldLinkNest RX6 98 "PrinterHouse" "RUN_CODES" "[I" "PrinterHouse" ∈ NST := inN mt_4 230 (by decide +kernel) rfl
theorem gsX6_101 : Cond.fieldLinkNest RX6 101 "PrinterHouse" "RUN_BITS" "[I" "PrinterHouse" ∈ NST := inN mt_4 231 (by decide +kernel) rfl
theorem mlX6_87 : ML RX6 87 yX6_writeDirectory := Or.inl (inT mt_4 232 (by decide +kernel) rfl)
set_option maxRecDepth 100000 in
theorem mcX6_writeDirectory : MCv yX6_writeDirectory cX6_writeDirectory 6 none 4 := ⟨⟨inT mt_1 2 (by decide +kernel) rfl, inT mt_4 235 rfl rfl, ⟨by decide +kernel, by decide +kernel⟩, by decide +kernel⟩, inT mt_4 234 (by decide +kernel) rfl, inT mt_0 14 (by decide +kernel) rfl⟩
theorem mlX6_91 : ML RX6 91 yX6_setNumber := Or.inl (inT mt_4 236 (by decide +kernel) rfl)
set_option maxRecDepth 100000 in
theorem mcX6_setNumber : MCv yX6_setNumber cX6_setNumber 4 none 2 := ⟨⟨inT mt_1 2 (by decide +kernel) rfl, inT mt_4 239 rfl rfl, ⟨by decide +kernel, by decide +kernel⟩, by decide +kernel⟩, inT mt_4 238 (by decide +kernel) rfl, inT mt_0 15 (by decide +kernel) rfl⟩
theorem mlX6_94 : ML RX6 94 yX6_putEntry := Or.inl (inT mt_5 0 (by decide +kernel) rfl)
set_option maxRecDepth 100000 in
theorem mcX6_putEntry : MCv yX6_putEntry cX6_putEntry 4 none 3 := ⟨⟨inT mt_1 2 (by decide +kernel) rfl, inT mt_5 3 rfl rfl, ⟨by decide +kernel, by decide +kernel⟩, by decide +kernel⟩, inT mt_5 2 (by decide +kernel) rfl, inT mt_0 16 (by decide +kernel) rfl⟩
theorem mlX9_289 : ML RX9 289 yX7_homeY := Or.inl (inT mt_5 4 (by decide +kernel) rfl)
theorem mlX9_286 : ML RX9 286 yX7_moveY := Or.inl (inT mt_5 5 (by decide +kernel) rfl)
theorem mlX9_256 : ML RX9 256 yX9_endWithReturn := Or.inl (inT mt_5 6 (by decide +kernel) rfl)
set_option maxRecDepth 100000 in
theorem mcX9_endWithReturn : MCv yX9_endWithReturn cX9_endWithReturn 1 none 0 := ⟨⟨inT mt_1 3 (by decide +kernel) rfl, inT mt_5 9 rfl rfl, ⟨by decide +kernel, by decide +kernel⟩, by decide +kernel⟩, inT mt_5 8 (by decide +kernel) rfl, inT mt_0 17 (by decide +kernel) rfl⟩
theorem mlX9_262 : ML RX9 262 yX9_carriageReturn := Or.inl (inT mt_5 10 (by decide +kernel) rfl)
set_option maxRecDepth 100000 in
theorem mcX9_carriageReturn : MCv yX9_carriageReturn cX9_carriageReturn 1 none 0 := ⟨⟨inT mt_1 3 (by decide +kernel) rfl, inT mt_5 13 rfl rfl, ⟨by decide +kernel, by decide +kernel⟩, by decide +kernel⟩, inT mt_5 12 (by decide +kernel) rfl, inT mt_0 18 (by decide +kernel) rfl⟩
theorem mlX9_271 : ML RX9 271 yX9_followPitch := Or.inl (inT mt_5 14 (by decide +kernel) rfl)
set_option maxRecDepth 100000 in
theorem mcX9_followPitch : MCv yX9_followPitch cX9_followPitch 1 none 0 := ⟨⟨inT mt_1 3 (by decide +kernel) rfl, inT mt_5 17 rfl rfl, ⟨by decide +kernel, by decide +kernel⟩, by decide +kernel⟩, inT mt_5 16 (by decide +kernel) rfl, inT mt_0 19 (by decide +kernel) rfl⟩
theorem mlX9_159 : ML RX9 159 yX1_wishes := Or.inl (inT mt_5 18 (by decide +kernel) rfl)
set_option maxRecDepth 100000 in
theorem mcX1_wishes : MCv yX1_wishes cX1_wishes 1 (some (.array .int)) 0 := ⟨⟨inT mt_1 10 (by decide +kernel) rfl, inT mt_5 21 rfl rfl, ⟨by decide +kernel, by decide +kernel⟩, by decide +kernel⟩, inT mt_5 19 (by decide +kernel) rfl, inT mt_5 20 (by decide +kernel) rfl⟩
theorem mlX9_163 : ML RX9 163 yX2_inUse := Or.inl (inT mt_5 22 (by decide +kernel) rfl)
set_option maxRecDepth 100000 in
theorem mcX2_inUse : MCv yX2_inUse cX2_inUse 4 (some .int) 1 := ⟨⟨inT mt_1 6 (by decide +kernel) rfl, inT mt_5 25 rfl rfl, ⟨by decide +kernel, by decide +kernel⟩, by decide +kernel⟩, inT mt_5 23 (by decide +kernel) rfl, inT mt_5 24 (by decide +kernel) rfl⟩
theorem mlX2_62 : ML RX2 62 yX2_has := Or.inl (inT mt_5 26 (by decide +kernel) rfl)
set_option maxRecDepth 100000 in
theorem mcX2_has : MCv yX2_has cX2_has 2 (some .boolean) 1 := ⟨⟨inT mt_1 6 (by decide +kernel) rfl, inT mt_5 29 rfl rfl, ⟨by decide +kernel, by decide +kernel⟩, by decide +kernel⟩, inT mt_5 27 (by decide +kernel) rfl, inT mt_5 28 (by decide +kernel) rfl⟩
theorem mlX2_58 : ML RX2 58 yX8_has := Or.inl (inT mt_5 30 (by decide +kernel) rfl)
theorem mlX2_106 : ML RX2 106 yX2_choose := Or.inl (inT mt_5 31 (by decide +kernel) rfl)
set_option maxRecDepth 100000 in
theorem mcX2_choose : MCv yX2_choose cX2_choose 3 (some .int) 0 := ⟨⟨inT mt_1 6 (by decide +kernel) rfl, inT mt_5 34 rfl rfl, ⟨by decide +kernel, by decide +kernel⟩, by decide +kernel⟩, inT mt_5 33 (by decide +kernel) rfl, inT mt_0 20 (by decide +kernel) rfl⟩
theorem kcX2_113 : Cond.constant RX2 113 (65536) ∈ TBL := inT mt_5 35 (by decide +kernel) rfl
theorem mlX2_114 : ML RX2 114 yX2_alike := Or.inl (inT mt_5 36 (by decide +kernel) rfl)
set_option maxRecDepth 100000 in
theorem mcX2_alike : MCv yX2_alike cX2_alike 8 (some .int) 3 := ⟨⟨inT mt_1 6 (by decide +kernel) rfl, inT mt_5 39 rfl rfl, ⟨by decide +kernel, by decide +kernel⟩, by decide +kernel⟩, inT mt_5 38 (by decide +kernel) rfl, inT mt_0 21 (by decide +kernel) rfl⟩
theorem mlX2_118 : ML RX2 118 yX2_nearest := Or.inl (inT mt_5 40 (by decide +kernel) rfl)
set_option maxRecDepth 100000 in
theorem mcX2_nearest : MCv yX2_nearest cX2_nearest 10 (some .int) 2 := ⟨⟨inT mt_1 6 (by decide +kernel) rfl, inT mt_5 43 rfl rfl, ⟨by decide +kernel, by decide +kernel⟩, by decide +kernel⟩, inT mt_5 42 (by decide +kernel) rfl, inT mt_0 22 (by decide +kernel) rfl⟩
theorem mlX2_124 : ML RX2 124 yJ9_abs_0f7a4 := Or.inl (inT mt_5 44 (by decide +kernel) rfl)
set_option maxRecDepth 100000 in
theorem mcJ9_abs_0f7a4 : MCs yJ9_abs_0f7a4 cJ9_abs_0f7a4 1 (some .int) 1 := ⟨⟨inT mt_1 20 (by decide +kernel) rfl, inT mt_5 46 rfl rfl, ⟨by decide +kernel, by decide +kernel⟩, by decide +kernel⟩, inT mt_5 45 (by decide +kernel) rfl⟩
theorem mlX2_121 : ML RX2 121 yX11_zerosAhead := Or.inr ⟨"PrinterHouse", inN mt_5 47 (by decide +kernel) rfl⟩
theorem mlX9_292 : ML RX9 292 yX2_number := Or.inl (inT mt_5 48 (by decide +kernel) rfl)
set_option maxRecDepth 100000 in
theorem mcX2_number : MCv yX2_number cX2_number 4 (some .int) 2 := ⟨⟨inT mt_1 6 (by decide +kernel) rfl, inT mt_5 51 rfl rfl, ⟨by decide +kernel, by decide +kernel⟩, by decide +kernel⟩, inT mt_5 49 (by decide +kernel) rfl, inT mt_5 50 (by decide +kernel) rfl⟩
theorem mlX9_274 : ML RX9 274 yX9_beginSequence := Or.inl (inT mt_5 52 (by decide +kernel) rfl)
set_option maxRecDepth 100000 in
theorem mcX9_beginSequence : MCv yX9_beginSequence cX9_beginSequence 3 none 0 := ⟨⟨inT mt_1 3 (by decide +kernel) rfl, inT mt_5 55 rfl rfl, ⟨by decide +kernel, by decide +kernel⟩, by decide +kernel⟩, inT mt_5 54 (by decide +kernel) rfl, inT mt_0 23 (by decide +kernel) rfl⟩
theorem mlX9_296 : ML RX9 296 yX9_twoBytes := Or.inl (inT mt_5 56 (by decide +kernel) rfl)
set_option maxRecDepth 100000 in
theorem mcX9_twoBytes : MCv yX9_twoBytes cX9_twoBytes 2 none 1 := ⟨⟨inT mt_1 3 (by decide +kernel) rfl, inT mt_5 59 rfl rfl, ⟨by decide +kernel, by decide +kernel⟩, by decide +kernel⟩, inT mt_5 58 (by decide +kernel) rfl, inT mt_0 24 (by decide +kernel) rfl⟩
theorem mlX9_124 : ML RX9 124 yX9_reset := Or.inl (inT mt_5 60 (by decide +kernel) rfl)
set_option maxRecDepth 100000 in
theorem mcX9_reset : MCv yX9_reset cX9_reset 1 none 0 := ⟨⟨inT mt_1 3 (by decide +kernel) rfl, inT mt_5 63 rfl rfl, ⟨by decide +kernel, by decide +kernel⟩, by decide +kernel⟩, inT mt_5 62 (by decide +kernel) rfl, inT mt_0 25 (by decide +kernel) rfl⟩
theorem mlX9_308 : ML RX9 308 yX9_dropTemporary := Or.inl (inT mt_5 64 (by decide +kernel) rfl)
set_option maxRecDepth 100000 in
theorem mcX9_dropTemporary : MCv yX9_dropTemporary cX9_dropTemporary 1 none 0 := ⟨⟨inT mt_1 3 (by decide +kernel) rfl, inT mt_5 67 rfl rfl, ⟨by decide +kernel, by decide +kernel⟩, by decide +kernel⟩, inT mt_5 65 (by decide +kernel) rfl, inT mt_5 66 (by decide +kernel) rfl⟩
theorem mlX9_196 : ML RX9 196 yX2_removeMany := Or.inl (inT mt_5 68 (by decide +kernel) rfl)
set_option maxRecDepth 100000 in
theorem mcX2_removeMany : MCv yX2_removeMany cX2_removeMany 3 none 1 := ⟨⟨inT mt_1 6 (by decide +kernel) rfl, inT mt_5 71 rfl rfl, ⟨by decide +kernel, by decide +kernel⟩, by decide +kernel⟩, inT mt_5 69 (by decide +kernel) rfl, inT mt_5 70 (by decide +kernel) rfl⟩
theorem mlX2_103 : ML RX2 103 yX8_isTemporary := Or.inl (inT mt_5 72 (by decide +kernel) rfl)
set_option maxRecDepth 100000 in
theorem mcX8_isTemporary : MCv yX8_isTemporary cX8_isTemporary 2 (some .boolean) 1 := ⟨⟨inT mt_1 7 (by decide +kernel) rfl, inT mt_5 75 rfl rfl, ⟨by decide +kernel, by decide +kernel⟩, by decide +kernel⟩, inT mt_5 73 (by decide +kernel) rfl, inT mt_5 74 (by decide +kernel) rfl⟩
theorem mlX8_13 : ML RX8 13 yX8_has := Or.inl (inT mt_5 76 (by decide +kernel) rfl)
theorem mlX2_73 : ML RX2 73 yX2_remove := Or.inl (inT mt_5 77 (by decide +kernel) rfl)
set_option maxRecDepth 100000 in
theorem mcX2_remove : MCv yX2_remove cX2_remove 3 none 1 := ⟨⟨inT mt_1 6 (by decide +kernel) rfl, inT mt_5 80 rfl rfl, ⟨by decide +kernel, by decide +kernel⟩, by decide +kernel⟩, inT mt_5 78 (by decide +kernel) rfl, inT mt_5 79 (by decide +kernel) rfl⟩
theorem mlX2_98 : ML RX2 98 yX2_removeGlyph := Or.inl (inT mt_5 81 (by decide +kernel) rfl)
set_option maxRecDepth 100000 in
theorem mcX2_removeGlyph : MCv yX2_removeGlyph cX2_removeGlyph 5 none 2 := ⟨⟨inT mt_1 6 (by decide +kernel) rfl, inT mt_5 84 rfl rfl, ⟨by decide +kernel, by decide +kernel⟩, by decide +kernel⟩, inT mt_5 82 (by decide +kernel) rfl, inT mt_5 83 (by decide +kernel) rfl⟩
theorem mlX2_102 : ML RX2 102 yX8_remove := Or.inl (inT mt_5 85 (by decide +kernel) rfl)
set_option maxRecDepth 100000 in
theorem mcX8_remove : MCv yX8_remove cX8_remove 2 none 1 := ⟨⟨inT mt_1 7 (by decide +kernel) rfl, inT mt_5 88 rfl rfl, ⟨by decide +kernel, by decide +kernel⟩, by decide +kernel⟩, inT mt_5 86 (by decide +kernel) rfl, inT mt_5 87 (by decide +kernel) rfl⟩
theorem mlX9_200 : ML RX9 200 yX8_removeMany := Or.inl (inT mt_5 89 (by decide +kernel) rfl)
set_option maxRecDepth 100000 in
theorem mcX8_removeMany : MCv yX8_removeMany cX8_removeMany 3 none 1 := ⟨⟨inT mt_1 7 (by decide +kernel) rfl, inT mt_5 92 rfl rfl, ⟨by decide +kernel, by decide +kernel⟩, by decide +kernel⟩, inT mt_5 90 (by decide +kernel) rfl, inT mt_5 91 (by decide +kernel) rfl⟩
theorem mlX9_302 : ML RX9 302 yX7_clearMargins := Or.inl (inT mt_5 93 (by decide +kernel) rfl)
theorem mlX9_305 : ML RX9 305 yX9_showAll := Or.inl (inT mt_5 94 (by decide +kernel) rfl)
set_option maxRecDepth 100000 in
theorem mcX9_showAll : MCv yX9_showAll cX9_showAll 5 none 0 := ⟨⟨inT mt_1 3 (by decide +kernel) rfl, inT mt_5 97 rfl rfl, ⟨by decide +kernel, by decide +kernel⟩, by decide +kernel⟩, inT mt_5 96 (by decide +kernel) rfl, inT mt_0 26 (by decide +kernel) rfl⟩
theorem mlX9_311 : ML RX9 311 yX5_byteAt := Or.inl (inT mt_5 98 (by decide +kernel) rfl)
theorem mlX9_315 : ML RX9 315 yX9_passEach := Or.inl (inT mt_5 99 (by decide +kernel) rfl)
set_option maxRecDepth 100000 in
theorem mcX9_passEach : MCv yX9_passEach cX9_passEach 4 (some .boolean) 1 := ⟨⟨inT mt_1 3 (by decide +kernel) rfl, inT mt_5 102 rfl rfl, ⟨by decide +kernel, by decide +kernel⟩, by decide +kernel⟩, inT mt_5 101 (by decide +kernel) rfl, inT mt_0 27 (by decide +kernel) rfl⟩
theorem mlX9_277 : ML RX9 277 yX9_show := Or.inl (inT mt_5 103 (by decide +kernel) rfl)
set_option maxRecDepth 100000 in
theorem mcX9_show : MCv yX9_show cX9_show 6 none 1 := ⟨⟨inT mt_1 3 (by decide +kernel) rfl, inT mt_5 106 rfl rfl, ⟨by decide +kernel, by decide +kernel⟩, by decide +kernel⟩, inT mt_5 105 (by decide +kernel) rfl, inT mt_0 28 (by decide +kernel) rfl⟩
theorem mlX9_527 : ML RX9 527 yX2_glyphOf := Or.inl (inT mt_5 107 (by decide +kernel) rfl)
set_option maxRecDepth 100000 in
theorem mcX2_glyphOf : MCv yX2_glyphOf cX2_glyphOf 4 (some .int) 2 := ⟨⟨inT mt_1 6 (by decide +kernel) rfl, inT mt_5 110 rfl rfl, ⟨by decide +kernel, by decide +kernel⟩, by decide +kernel⟩, inT mt_5 108 (by decide +kernel) rfl, inT mt_5 109 (by decide +kernel) rfl⟩
theorem mlX9_530 : ML RX9 530 yX9_advance := Or.inl (inT mt_5 111 (by decide +kernel) rfl)
set_option maxRecDepth 100000 in
theorem mcX9_advance : MCv yX9_advance cX9_advance 4 (some .int) 2 := ⟨⟨inT mt_1 3 (by decide +kernel) rfl, inT mt_5 114 rfl rfl, ⟨by decide +kernel, by decide +kernel⟩, by decide +kernel⟩, inT mt_5 113 (by decide +kernel) rfl, inT mt_0 29 (by decide +kernel) rfl⟩
theorem mlX9_524 : ML RX9 524 yX2_head := Or.inl (inT mt_5 115 (by decide +kernel) rfl)
set_option maxRecDepth 100000 in
theorem mcX2_head : MCv yX2_head cX2_head 4 (some .int) 2 := ⟨⟨inT mt_1 6 (by decide +kernel) rfl, inT mt_5 118 rfl rfl, ⟨by decide +kernel, by decide +kernel⟩, by decide +kernel⟩, inT mt_5 116 (by decide +kernel) rfl, inT mt_5 117 (by decide +kernel) rfl⟩
theorem mlX9_533 : ML RX9 533 yX7_across := Or.inl (inT mt_5 119 (by decide +kernel) rfl)
theorem mlX9_536 : ML RX9 536 yX9_markGlyph := Or.inl (inT mt_5 120 (by decide +kernel) rfl)
set_option maxRecDepth 100000 in
theorem mcX9_markGlyph : MCv yX9_markGlyph cX9_markGlyph 7 none 1 := ⟨⟨inT mt_1 3 (by decide +kernel) rfl, inT mt_5 123 rfl rfl, ⟨by decide +kernel, by decide +kernel⟩, by decide +kernel⟩, inT mt_5 122 (by decide +kernel) rfl, inT mt_0 30 (by decide +kernel) rfl⟩
theorem mlX9_542 : ML RX9 542 yX0_ink := Or.inl (inT mt_5 124 (by decide +kernel) rfl)
set_option maxRecDepth 100000 in
theorem mcX0_ink : MCv yX0_ink cX0_ink 3 none 2 := ⟨⟨inT mt_1 4 (by decide +kernel) rfl, inT mt_5 127 rfl rfl, ⟨by decide +kernel, by decide +kernel⟩, by decide +kernel⟩, inT mt_5 125 (by decide +kernel) rfl, inT mt_5 126 (by decide +kernel) rfl⟩
theorem mlX9_546 : ML RX9 546 yX0_mark := Or.inl (inT mt_5 128 (by decide +kernel) rfl)
set_option maxRecDepth 100000 in
theorem mcX0_mark : MCv yX0_mark cX0_mark 7 (some .boolean) 5 := ⟨⟨inT mt_1 4 (by decide +kernel) rfl, inT mt_5 131 rfl rfl, ⟨by decide +kernel, by decide +kernel⟩, by decide +kernel⟩, inT mt_5 129 (by decide +kernel) rfl, inT mt_5 130 (by decide +kernel) rfl⟩
theorem mlX0_77 : ML RX0 77 yJ9_max_7cf53 := Or.inl (inT mt_5 132 (by decide +kernel) rfl)
theorem kcX0_107 : Cond.constant RX0 107 (5000000) ∈ TBL := inT mt_5 133 (by decide +kernel) rfl
theorem mlX9_555 : ML RX9 555 yX2_rowOf := Or.inl (inT mt_5 134 (by decide +kernel) rfl)
set_option maxRecDepth 100000 in
theorem mcX2_rowOf : MCv yX2_rowOf cX2_rowOf 4 (some .int) 2 := ⟨⟨inT mt_1 6 (by decide +kernel) rfl, inT mt_5 137 rfl rfl, ⟨by decide +kernel, by decide +kernel⟩, by decide +kernel⟩, inT mt_5 135 (by decide +kernel) rfl, inT mt_5 136 (by decide +kernel) rfl⟩
theorem mlX9_558 : ML RX9 558 yX0_layWord := Or.inl (inT mt_5 138 (by decide +kernel) rfl)
set_option maxRecDepth 100000 in
theorem mcX0_layWord : MCv yX0_layWord cX0_layWord 5 none 2 := ⟨⟨inT mt_1 4 (by decide +kernel) rfl, inT mt_5 141 rfl rfl, ⟨by decide +kernel, by decide +kernel⟩, by decide +kernel⟩, inT mt_5 139 (by decide +kernel) rfl, inT mt_5 140 (by decide +kernel) rfl⟩
theorem mlX0_108 : ML RX0 108 yJ9_floorDiv_7cf53 := Or.inl (inT mt_5 142 (by decide +kernel) rfl)
set_option maxRecDepth 100000 in
theorem mcJ9_floorDiv_7cf53 : MCs yJ9_floorDiv_7cf53 cJ9_floorDiv_7cf53 3 (some .int) 2 := ⟨⟨inT mt_1 20 (by decide +kernel) rfl, inT mt_5 144 rfl rfl, ⟨by decide +kernel, by decide +kernel⟩, by decide +kernel⟩, inT mt_5 143 (by decide +kernel) rfl⟩
theorem mlX0_111 : ML RX0 111 yJ9_floorMod_7cf53 := Or.inl (inT mt_5 145 (by decide +kernel) rfl)
set_option maxRecDepth 100000 in
theorem mcJ9_floorMod_7cf53 : MCs yJ9_floorMod_7cf53 cJ9_floorMod_7cf53 3 (some .int) 2 := ⟨⟨inT mt_1 20 (by decide +kernel) rfl, inT mt_5 147 rfl rfl, ⟨by decide +kernel, by decide +kernel⟩, by decide +kernel⟩, inT mt_5 146 (by decide +kernel) rfl⟩
theorem mlX9_561 : ML RX9 561 yX0_paintRow := Or.inl (inT mt_5 148 (by decide +kernel) rfl)
set_option maxRecDepth 100000 in
theorem mcX0_paintRow : MCv yX0_paintRow cX0_paintRow 14 none 1 := ⟨⟨inT mt_1 4 (by decide +kernel) rfl, inT mt_5 151 rfl rfl, ⟨by decide +kernel, by decide +kernel⟩, by decide +kernel⟩, inT mt_5 149 (by decide +kernel) rfl, inT mt_5 150 (by decide +kernel) rfl⟩
theorem mlX0_136 : ML RX0 136 yX10_rowAt := Or.inl (inT mt_5 152 (by decide +kernel) rfl)
set_option maxRecDepth 100000 in
theorem mcX10_rowAt : MCv yX10_rowAt cX10_rowAt 3 (some .long) 1 := ⟨⟨inT mt_1 5 (by decide +kernel) rfl, inT mt_5 155 rfl rfl, ⟨by decide +kernel, by decide +kernel⟩, by decide +kernel⟩, inT mt_5 153 (by decide +kernel) rfl, inT mt_5 154 (by decide +kernel) rfl⟩
theorem mlX10_54 : ML RX10 54 yJ9_floorMod_7cf53 := Or.inl (inT mt_5 156 (by decide +kernel) rfl)
theorem mlX0_140 : ML RX0 140 yX11_maskOf := Or.inr ⟨"PrinterHouse", inN mt_5 157 (by decide +kernel) rfl⟩
set_option maxRecDepth 100000 in
theorem mcX11_maskOf : MCs yX11_maskOf cX11_maskOf 5 (some .int) 3 := ⟨⟨inT mt_1 1 (by decide +kernel) rfl, inT mt_5 159 rfl rfl, ⟨by decide +kernel, by decide +kernel⟩, by decide +kernel⟩, inT mt_5 158 (by decide +kernel) rfl⟩
theorem mlX11_165 : ML RX11 165 yJ9_max_7cf53 := Or.inl (inT mt_5 160 (by decide +kernel) rfl)
theorem mlX0_144 : ML RX0 144 yX10_dotsFrom := Or.inl (inT mt_5 161 (by decide +kernel) rfl)
set_option maxRecDepth 100000 in
theorem mcX10_dotsFrom : MCv yX10_dotsFrom cX10_dotsFrom 4 (some .int) 2 := ⟨⟨inT mt_1 5 (by decide +kernel) rfl, inT mt_5 164 rfl rfl, ⟨by decide +kernel, by decide +kernel⟩, by decide +kernel⟩, inT mt_5 162 (by decide +kernel) rfl, inT mt_5 163 (by decide +kernel) rfl⟩
theorem mlX9_224 : ML RX9 224 yX9_readField := Or.inl (inT mt_5 165 (by decide +kernel) rfl)
set_option maxRecDepth 100000 in
theorem mcX9_readField : MCv yX9_readField cX9_readField 5 (some .boolean) 0 := ⟨⟨inT mt_1 3 (by decide +kernel) rfl, inT mt_5 168 rfl rfl, ⟨by decide +kernel, by decide +kernel⟩, by decide +kernel⟩, inT mt_5 167 (by decide +kernel) rfl, inT mt_0 31 (by decide +kernel) rfl⟩
theorem mlX9_324 : ML RX9 324 yX5_readValue := Or.inl (inT mt_5 169 (by decide +kernel) rfl)
set_option maxRecDepth 100000 in
theorem mcX5_readValue : MCv yX5_readValue cX5_readValue 4 (some .int) 0 := ⟨⟨inT mt_1 13 (by decide +kernel) rfl, inT mt_5 172 rfl rfl, ⟨by decide +kernel, by decide +kernel⟩, by decide +kernel⟩, inT mt_5 170 (by decide +kernel) rfl, inT mt_5 171 (by decide +kernel) rfl⟩
theorem mlX5_51 : ML RX5 51 yX5_isDigit := Or.inl (inT mt_5 173 (by decide +kernel) rfl)
set_option maxRecDepth 100000 in
theorem mcX5_isDigit : MCv yX5_isDigit cX5_isDigit 3 (some .boolean) 1 := ⟨⟨inT mt_1 13 (by decide +kernel) rfl, inT mt_5 176 rfl rfl, ⟨by decide +kernel, by decide +kernel⟩, by decide +kernel⟩, inT mt_5 175 (by decide +kernel) rfl, inT mt_0 32 (by decide +kernel) rfl⟩
theorem mlX9_333 : ML RX9 333 yX5_n := Or.inl (inT mt_5 177 (by decide +kernel) rfl)
set_option maxRecDepth 100000 in
theorem mcX5_n : MCv yX5_n cX5_n 1 (some .int) 0 := ⟨⟨inT mt_1 13 (by decide +kernel) rfl, inT mt_5 180 rfl rfl, ⟨by decide +kernel, by decide +kernel⟩, by decide +kernel⟩, inT mt_5 178 (by decide +kernel) rfl, inT mt_5 179 (by decide +kernel) rfl⟩
theorem mlX9_339 : ML RX9 339 yJ9_min_7cf53 := Or.inl (inT mt_5 181 (by decide +kernel) rfl)
theorem mlX9_344 : ML RX9 344 yJ9_max_7cf53 := Or.inl (inT mt_5 182 (by decide +kernel) rfl)
theorem mlX9_227 : ML RX9 227 yX9_obey := Or.inl (inT mt_5 183 (by decide +kernel) rfl)
set_option maxRecDepth 100000 in
theorem mcX9_obey : MCv yX9_obey cX9_obey 1 none 0 := ⟨⟨inT mt_1 3 (by decide +kernel) rfl, inT mt_5 186 rfl rfl, ⟨by decide +kernel, by decide +kernel⟩, by decide +kernel⟩, inT mt_5 185 (by decide +kernel) rfl, inT mt_0 33 (by decide +kernel) rfl⟩
theorem mlX9_347 : ML RX9 347 yX9_pageField := Or.inl (inT mt_5 187 (by decide +kernel) rfl)
set_option maxRecDepth 100000 in
theorem mcX9_pageField : MCv yX9_pageField cX9_pageField 3 none 1 := ⟨⟨inT mt_1 3 (by decide +kernel) rfl, inT mt_5 190 rfl rfl, ⟨by decide +kernel, by decide +kernel⟩, by decide +kernel⟩, inT mt_5 189 (by decide +kernel) rfl, inT mt_0 34 (by decide +kernel) rfl⟩
theorem gsX9_413 : Cond.fieldLinkNest RX9 413 "PrinterHouse" "FORMAT_WIDE" "[I" "PrinterHouse" ∈ NST := inN mt_5 191 (by decide +kernel) rfl
theorem mlX9_416 : ML RX9 416 yX7_turn := Or.inl (inT mt_5 192 (by decide +kernel) rfl)
theorem mlX9_422 : ML RX9 422 yX9_spacing := Or.inl (inT mt_5 193 (by decide +kernel) rfl)
set_option maxRecDepth 100000 in
theorem mcX9_spacing : MCv yX9_spacing cX9_spacing 5 (some .int) 2 := ⟨⟨inT mt_1 3 (by decide +kernel) rfl, inT mt_5 196 rfl rfl, ⟨by decide +kernel, by decide +kernel⟩, by decide +kernel⟩, inT mt_5 195 (by decide +kernel) rfl, inT mt_0 35 (by decide +kernel) rfl⟩
theorem mlX9_431 : ML RX9 431 yX5_units := Or.inl (inT mt_5 197 (by decide +kernel) rfl)
set_option maxRecDepth 100000 in
theorem mcX5_units : MCv yX5_units cX5_units 2 (some .long) 1 := ⟨⟨inT mt_1 13 (by decide +kernel) rfl, inT mt_5 200 rfl rfl, ⟨by decide +kernel, by decide +kernel⟩, by decide +kernel⟩, inT mt_5 198 (by decide +kernel) rfl, inT mt_5 199 (by decide +kernel) rfl⟩
theorem mlX5_57 : ML RX5 57 yX5_exact := Or.inl (inT mt_5 201 (by decide +kernel) rfl)
set_option maxRecDepth 100000 in
theorem mcX5_exact : MCv yX5_exact cX5_exact 3 (some .long) 0 := ⟨⟨inT mt_1 13 (by decide +kernel) rfl, inT mt_5 204 rfl rfl, ⟨by decide +kernel, by decide +kernel⟩, by decide +kernel⟩, inT mt_5 202 (by decide +kernel) rfl, inT mt_5 203 (by decide +kernel) rfl⟩
theorem kcX5_55 : Cond.constantLong RX5 55 (10000) ∈ TBL := inT mt_5 205 (by decide +kernel) rfl
theorem kcX9_435 : Cond.constantLong RX9 435 (32000) ∈ TBL := inT mt_5 206 (by decide +kernel) rfl
theorem mlX9_425 : ML RX9 425 yX7_topMargin := Or.inl (inT mt_5 207 (by decide +kernel) rfl)
set_option maxRecDepth 100000 in
theorem mcX7_topMargin : MCv yX7_topMargin cX7_topMargin 2 none 1 := ⟨⟨inT mt_1 11 (by decide +kernel) rfl, inT mt_5 210 rfl rfl, ⟨by decide +kernel, by decide +kernel⟩, by decide +kernel⟩, inT mt_5 208 (by decide +kernel) rfl, inT mt_5 209 (by decide +kernel) rfl⟩
theorem mlX9_428 : ML RX9 428 yX7_bottomMargin := Or.inl (inT mt_5 211 (by decide +kernel) rfl)
set_option maxRecDepth 100000 in
theorem mcX7_bottomMargin : MCv yX7_bottomMargin cX7_bottomMargin 3 none 1 := ⟨⟨inT mt_1 11 (by decide +kernel) rfl, inT mt_5 214 rfl rfl, ⟨by decide +kernel, by decide +kernel⟩, by decide +kernel⟩, inT mt_5 212 (by decide +kernel) rfl, inT mt_5 213 (by decide +kernel) rfl⟩
theorem mlX9_350 : ML RX9 350 yX9_placeField := Or.inl (inT mt_5 215 (by decide +kernel) rfl)
set_option maxRecDepth 100000 in
theorem mcX9_placeField : MCv yX9_placeField cX9_placeField 3 none 1 := ⟨⟨inT mt_1 3 (by decide +kernel) rfl, inT mt_5 218 rfl rfl, ⟨by decide +kernel, by decide +kernel⟩, by decide +kernel⟩, inT mt_5 217 (by decide +kernel) rfl, inT mt_0 36 (by decide +kernel) rfl⟩
theorem mlX9_437 : ML RX9 437 yX9_moveAcross := Or.inl (inT mt_5 219 (by decide +kernel) rfl)
set_option maxRecDepth 100000 in
theorem mcX9_moveAcross : MCv yX9_moveAcross cX9_moveAcross 3 none 1 := ⟨⟨inT mt_1 3 (by decide +kernel) rfl, inT mt_5 222 rfl rfl, ⟨by decide +kernel, by decide +kernel⟩, by decide +kernel⟩, inT mt_5 221 (by decide +kernel) rfl, inT mt_0 37 (by decide +kernel) rfl⟩
theorem mlX9_440 : ML RX9 440 yX9_moveDown := Or.inl (inT mt_5 223 (by decide +kernel) rfl)
set_option maxRecDepth 100000 in
theorem mcX9_moveDown : MCv yX9_moveDown cX9_moveDown 4 none 2 := ⟨⟨inT mt_1 3 (by decide +kernel) rfl, inT mt_5 226 rfl rfl, ⟨by decide +kernel, by decide +kernel⟩, by decide +kernel⟩, inT mt_5 225 (by decide +kernel) rfl, inT mt_0 38 (by decide +kernel) rfl⟩
theorem mlX9_444 : ML RX9 444 yX7_leftMargin := Or.inl (inT mt_5 227 (by decide +kernel) rfl)
set_option maxRecDepth 100000 in
theorem mcX7_leftMargin : MCv yX7_leftMargin cX7_leftMargin 2 none 1 := ⟨⟨inT mt_1 11 (by decide +kernel) rfl, inT mt_5 230 rfl rfl, ⟨by decide +kernel, by decide +kernel⟩, by decide +kernel⟩, inT mt_5 228 (by decide +kernel) rfl, inT mt_5 229 (by decide +kernel) rfl⟩
theorem mlX9_447 : ML RX9 447 yX7_rightMargin := Or.inl (inT mt_5 231 (by decide +kernel) rfl)
set_option maxRecDepth 100000 in
theorem mcX7_rightMargin : MCv yX7_rightMargin cX7_rightMargin 3 none 1 := ⟨⟨inT mt_1 11 (by decide +kernel) rfl, inT mt_5 234 rfl rfl, ⟨by decide +kernel, by decide +kernel⟩, by decide +kernel⟩, inT mt_5 232 (by decide +kernel) rfl, inT mt_5 233 (by decide +kernel) rfl⟩
theorem mlX9_353 : ML RX9 353 yX9_spaceField := Or.inl (inT mt_5 235 (by decide +kernel) rfl)
set_option maxRecDepth 100000 in
theorem mcX9_spaceField : MCv yX9_spaceField cX9_spaceField 2 none 1 := ⟨⟨inT mt_1 3 (by decide +kernel) rfl, inT mt_5 238 rfl rfl, ⟨by decide +kernel, by decide +kernel⟩, by decide +kernel⟩, inT mt_5 237 (by decide +kernel) rfl, inT mt_0 39 (by decide +kernel) rfl⟩
theorem mlX9_356 : ML RX9 356 yX9_wrapField := Or.inl (inT mt_5 239 (by decide +kernel) rfl)
set_option maxRecDepth 100000 in
theorem mcX9_wrapField : MCv yX9_wrapField cX9_wrapField 2 none 1 := ⟨⟨inT mt_1 3 (by decide +kernel) rfl, inT mt_6 2 rfl rfl, ⟨by decide +kernel, by decide +kernel⟩, by decide +kernel⟩, inT mt_6 1 (by decide +kernel) rfl, inT mt_0 40 (by decide +kernel) rfl⟩
theorem mlX9_359 : ML RX9 359 yX9_macroField := Or.inl (inT mt_6 3 (by decide +kernel) rfl)
set_option maxRecDepth 100000 in
theorem mcX9_macroField : MCv yX9_macroField cX9_macroField 2 none 1 := ⟨⟨inT mt_1 3 (by decide +kernel) rfl, inT mt_6 6 rfl rfl, ⟨by decide +kernel, by decide +kernel⟩, by decide +kernel⟩, inT mt_6 5 (by decide +kernel) rfl, inT mt_0 41 (by decide +kernel) rfl⟩
theorem mlX9_465 : ML RX9 465 yX7_keepPlace := Or.inl (inT mt_6 7 (by decide +kernel) rfl)
set_option maxRecDepth 100000 in
theorem mcX7_keepPlace : MCv yX7_keepPlace cX7_keepPlace 2 none 0 := ⟨⟨inT mt_1 11 (by decide +kernel) rfl, inT mt_6 10 rfl rfl, ⟨by decide +kernel, by decide +kernel⟩, by decide +kernel⟩, inT mt_6 8 (by decide +kernel) rfl, inT mt_6 9 (by decide +kernel) rfl⟩
theorem mlX9_468 : ML RX9 468 yX7_recallPlace := Or.inl (inT mt_6 11 (by decide +kernel) rfl)
set_option maxRecDepth 100000 in
theorem mcX7_recallPlace : MCv yX7_recallPlace cX7_recallPlace 2 none 0 := ⟨⟨inT mt_1 11 (by decide +kernel) rfl, inT mt_6 14 rfl rfl, ⟨by decide +kernel, by decide +kernel⟩, by decide +kernel⟩, inT mt_6 12 (by decide +kernel) rfl, inT mt_6 13 (by decide +kernel) rfl⟩
theorem mlX9_471 : ML RX9 471 yX9_macroTask := Or.inl (inT mt_6 15 (by decide +kernel) rfl)
set_option maxRecDepth 100000 in
theorem mcX9_macroTask : MCv yX9_macroTask cX9_macroTask 2 none 1 := ⟨⟨inT mt_1 3 (by decide +kernel) rfl, inT mt_6 18 rfl rfl, ⟨by decide +kernel, by decide +kernel⟩, by decide +kernel⟩, inT mt_6 17 (by decide +kernel) rfl, inT mt_0 42 (by decide +kernel) rfl⟩
theorem mlX9_474 : ML RX9 474 yX9_tellMacro := Or.inl (inT mt_6 19 (by decide +kernel) rfl)
set_option maxRecDepth 100000 in
theorem mcX9_tellMacro : MCv yX9_tellMacro cX9_tellMacro 6 none 1 := ⟨⟨inT mt_1 3 (by decide +kernel) rfl, inT mt_6 22 rfl rfl, ⟨by decide +kernel, by decide +kernel⟩, by decide +kernel⟩, inT mt_6 21 (by decide +kernel) rfl, inT mt_0 43 (by decide +kernel) rfl⟩
theorem mlX9_490 : ML RX9 490 yX9_isMacroEnd := Or.inl (inT mt_6 23 (by decide +kernel) rfl)
set_option maxRecDepth 100000 in
theorem mcX9_isMacroEnd : MCv yX9_isMacroEnd cX9_isMacroEnd 2 (some .boolean) 1 := ⟨⟨inT mt_1 3 (by decide +kernel) rfl, inT mt_6 26 rfl rfl, ⟨by decide +kernel, by decide +kernel⟩, by decide +kernel⟩, inT mt_6 25 (by decide +kernel) rfl, inT mt_0 44 (by decide +kernel) rfl⟩
theorem mlX9_496 : Cond.methodLink RX9 496 ⟨"java/lang/System", "arraycopy", "(Ljava/lang/Object;ILjava/lang/Object;II)V"⟩ ∈ TBL := inT mt_6 27 (by decide +kernel) rfl
theorem mlX9_502 : ML RX9 502 yX8_put := Or.inl (inT mt_6 28 (by decide +kernel) rfl)
set_option maxRecDepth 100000 in
theorem mcX8_put : MCv yX8_put cX8_put 2 none 1 := ⟨⟨inT mt_1 7 (by decide +kernel) rfl, inT mt_6 31 rfl rfl, ⟨by decide +kernel, by decide +kernel⟩, by decide +kernel⟩, inT mt_6 29 (by decide +kernel) rfl, inT mt_6 30 (by decide +kernel) rfl⟩
theorem mlX9_477 : ML RX9 477 yX9_callMacro := Or.inl (inT mt_6 32 (by decide +kernel) rfl)
set_option maxRecDepth 100000 in
theorem mcX9_callMacro : MCv yX9_callMacro cX9_callMacro 4 none 1 := ⟨⟨inT mt_1 3 (by decide +kernel) rfl, inT mt_6 35 rfl rfl, ⟨by decide +kernel, by decide +kernel⟩, by decide +kernel⟩, inT mt_6 34 (by decide +kernel) rfl, inT mt_0 45 (by decide +kernel) rfl⟩
theorem mlX9_483 : ML RX9 483 yX8_remove := Or.inl (inT mt_6 36 (by decide +kernel) rfl)
theorem mlX9_486 : ML RX9 486 yX8_mark := Or.inl (inT mt_6 37 (by decide +kernel) rfl)
set_option maxRecDepth 100000 in
theorem mcX8_mark : MCv yX8_mark cX8_mark 3 none 2 := ⟨⟨inT mt_1 7 (by decide +kernel) rfl, inT mt_6 40 rfl rfl, ⟨by decide +kernel, by decide +kernel⟩, by decide +kernel⟩, inT mt_6 38 (by decide +kernel) rfl, inT mt_6 39 (by decide +kernel) rfl⟩
theorem mlX9_362 : ML RX9 362 yX9_showData := Or.inl (inT mt_6 41 (by decide +kernel) rfl)
set_option maxRecDepth 100000 in
theorem mcX9_showData : MCv yX9_showData cX9_showData 3 none 0 := ⟨⟨inT mt_1 3 (by decide +kernel) rfl, inT mt_6 44 rfl rfl, ⟨by decide +kernel, by decide +kernel⟩, by decide +kernel⟩, inT mt_6 43 (by decide +kernel) rfl, inT mt_0 46 (by decide +kernel) rfl⟩
theorem mlX9_321 : ML RX9 321 yX5_dataByte := Or.inl (inT mt_6 45 (by decide +kernel) rfl)
set_option maxRecDepth 100000 in
theorem mcX5_dataByte : MCv yX5_dataByte cX5_dataByte 3 (some .int) 1 := ⟨⟨inT mt_1 13 (by decide +kernel) rfl, inT mt_6 48 rfl rfl, ⟨by decide +kernel, by decide +kernel⟩, by decide +kernel⟩, inT mt_6 46 (by decide +kernel) rfl, inT mt_6 47 (by decide +kernel) rfl⟩
theorem mlX9_365 : ML RX9 365 yX9_dotPlaceField := Or.inl (inT mt_6 49 (by decide +kernel) rfl)
set_option maxRecDepth 100000 in
theorem mcX9_dotPlaceField : MCv yX9_dotPlaceField cX9_dotPlaceField 1 none 0 := ⟨⟨inT mt_1 3 (by decide +kernel) rfl, inT mt_6 52 rfl rfl, ⟨by decide +kernel, by decide +kernel⟩, by decide +kernel⟩, inT mt_6 51 (by decide +kernel) rfl, inT mt_0 47 (by decide +kernel) rfl⟩
theorem mlX9_368 : ML RX9 368 yX9_controlField := Or.inl (inT mt_6 53 (by decide +kernel) rfl)
set_option maxRecDepth 100000 in
theorem mcX9_controlField : MCv yX9_controlField cX9_controlField 2 none 1 := ⟨⟨inT mt_1 3 (by decide +kernel) rfl, inT mt_6 56 rfl rfl, ⟨by decide +kernel, by decide +kernel⟩, by decide +kernel⟩, inT mt_6 55 (by decide +kernel) rfl, inT mt_0 48 (by decide +kernel) rfl⟩
theorem mlX9_584 : ML RX9 584 yX9_fontTask := Or.inl (inT mt_6 57 (by decide +kernel) rfl)
set_option maxRecDepth 100000 in
theorem mcX9_fontTask : MCv yX9_fontTask cX9_fontTask 2 none 1 := ⟨⟨inT mt_1 3 (by decide +kernel) rfl, inT mt_6 60 rfl rfl, ⟨by decide +kernel, by decide +kernel⟩, by decide +kernel⟩, inT mt_6 59 (by decide +kernel) rfl, inT mt_0 49 (by decide +kernel) rfl⟩
theorem mlX9_621 : ML RX9 621 yX2_remove := Or.inl (inT mt_6 61 (by decide +kernel) rfl)
theorem mlX9_622 : ML RX9 622 yX2_removeGlyph := Or.inl (inT mt_6 62 (by decide +kernel) rfl)
theorem mlX9_590 : ML RX9 590 yX9_tellTile := Or.inl (inT mt_6 63 (by decide +kernel) rfl)
set_option maxRecDepth 100000 in
theorem mcX9_tellTile : MCv yX9_tellTile cX9_tellTile 10 none 1 := ⟨⟨inT mt_1 3 (by decide +kernel) rfl, inT mt_6 66 rfl rfl, ⟨by decide +kernel, by decide +kernel⟩, by decide +kernel⟩, inT mt_6 65 (by decide +kernel) rfl, inT mt_0 50 (by decide +kernel) rfl⟩
theorem mlX9_625 : ML RX9 625 yX10_size := Or.inl (inT mt_6 67 (by decide +kernel) rfl)
theorem mlX9_628 : ML RX9 628 yX10_setRow := Or.inl (inT mt_6 68 (by decide +kernel) rfl)
theorem mlX9_593 : ML RX9 593 yX9_tileTask := Or.inl (inT mt_6 69 (by decide +kernel) rfl)
set_option maxRecDepth 100000 in
theorem mcX9_tileTask : MCv yX9_tileTask cX9_tileTask 2 none 1 := ⟨⟨inT mt_1 3 (by decide +kernel) rfl, inT mt_6 72 rfl rfl, ⟨by decide +kernel, by decide +kernel⟩, by decide +kernel⟩, inT mt_6 71 (by decide +kernel) rfl, inT mt_0 51 (by decide +kernel) rfl⟩
theorem mlX9_602 : ML RX9 602 yX9_boxSide := Or.inl (inT mt_6 73 (by decide +kernel) rfl)
set_option maxRecDepth 100000 in
theorem mcX9_boxSide : MCv yX9_boxSide cX9_boxSide 4 (some .int) 1 := ⟨⟨inT mt_1 3 (by decide +kernel) rfl, inT mt_6 76 rfl rfl, ⟨by decide +kernel, by decide +kernel⟩, by decide +kernel⟩, inT mt_6 75 (by decide +kernel) rfl, inT mt_0 52 (by decide +kernel) rfl⟩
theorem kcX9_608 : Cond.constantLong RX9 608 (96) ∈ TBL := inT mt_6 77 (by decide +kernel) rfl
theorem mlX9_605 : ML RX9 605 yX9_box := Or.inl (inT mt_6 78 (by decide +kernel) rfl)
set_option maxRecDepth 100000 in
theorem mcX9_box : MCv yX9_box cX9_box 5 none 1 := ⟨⟨inT mt_1 3 (by decide +kernel) rfl, inT mt_6 81 rfl rfl, ⟨by decide +kernel, by decide +kernel⟩, by decide +kernel⟩, inT mt_6 80 (by decide +kernel) rfl, inT mt_0 53 (by decide +kernel) rfl⟩
theorem mlX9_610 : ML RX9 610 yX9_setTile := Or.inl (inT mt_6 82 (by decide +kernel) rfl)
set_option maxRecDepth 100000 in
theorem mcX9_setTile : MCv yX9_setTile cX9_setTile 4 (some .boolean) 2 := ⟨⟨inT mt_1 3 (by decide +kernel) rfl, inT mt_6 85 rfl rfl, ⟨by decide +kernel, by decide +kernel⟩, by decide +kernel⟩, inT mt_6 84 (by decide +kernel) rfl, inT mt_0 54 (by decide +kernel) rfl⟩
theorem mlX9_631 : ML RX9 631 yX10_solid := Or.inl (inT mt_6 86 (by decide +kernel) rfl)
theorem mlX9_634 : ML RX9 634 yX10_white := Or.inl (inT mt_6 87 (by decide +kernel) rfl)
set_option maxRecDepth 100000 in
theorem mcX10_white : MCv yX10_white cX10_white 1 none 0 := ⟨⟨inT mt_1 5 (by decide +kernel) rfl, inT mt_6 90 rfl rfl, ⟨by decide +kernel, by decide +kernel⟩, by decide +kernel⟩, inT mt_6 88 (by decide +kernel) rfl, inT mt_6 89 (by decide +kernel) rfl⟩
theorem mlX9_637 : ML RX9 637 yX10_shade := Or.inl (inT mt_6 91 (by decide +kernel) rfl)
set_option maxRecDepth 100000 in
theorem mcX10_shade : MCv yX10_shade cX10_shade 6 none 1 := ⟨⟨inT mt_1 5 (by decide +kernel) rfl, inT mt_6 94 rfl rfl, ⟨by decide +kernel, by decide +kernel⟩, by decide +kernel⟩, inT mt_6 92 (by decide +kernel) rfl, inT mt_6 93 (by decide +kernel) rfl⟩
theorem gsX10_46 : Cond.fieldLink RX10 46 "PrinterHouse$Tile" "SHADES" "[I" ∈ TBL := inT mt_6 95 (by decide +kernel) rfl
theorem mlX9_640 : ML RX9 640 yX10_hatch := Or.inl (inT mt_6 97 (by decide +kernel) rfl)
set_option maxRecDepth 100000 in
theorem mcX10_hatch : MCv yX10_hatch cX10_hatch 5 none 1 := ⟨⟨inT mt_1 5 (by decide +kernel) rfl, inT mt_6 100 rfl rfl, ⟨by decide +kernel, by decide +kernel⟩, by decide +kernel⟩, inT mt_6 98 (by decide +kernel) rfl, inT mt_6 99 (by decide +kernel) rfl⟩
theorem mlX10_50 : ML RX10 50 yX10_isHatched := Or.inl (inT mt_6 101 (by decide +kernel) rfl)
set_option maxRecDepth 100000 in
theorem mcX10_isHatched : MCs yX10_isHatched cX10_isHatched 5 (some .boolean) 3 := ⟨⟨inT mt_1 5 (by decide +kernel) rfl, inT mt_6 103 rfl rfl, ⟨by decide +kernel, by decide +kernel⟩, by decide +kernel⟩, inT mt_6 102 (by decide +kernel) rfl⟩
theorem mlX9_643 : ML RX9 643 yX10_copy := Or.inl (inT mt_6 104 (by decide +kernel) rfl)
theorem mlX9_614 : ML RX9 614 yX0_layBlack := Or.inl (inT mt_6 105 (by decide +kernel) rfl)
set_option maxRecDepth 100000 in
theorem mcX0_layBlack : MCv yX0_layBlack cX0_layBlack 1 none 0 := ⟨⟨inT mt_1 4 (by decide +kernel) rfl, inT mt_6 108 rfl rfl, ⟨by decide +kernel, by decide +kernel⟩, by decide +kernel⟩, inT mt_6 106 (by decide +kernel) rfl, inT mt_6 107 (by decide +kernel) rfl⟩
theorem mlX9_617 : ML RX9 617 yX9_markBox := Or.inl (inT mt_6 109 (by decide +kernel) rfl)
set_option maxRecDepth 100000 in
theorem mcX9_markBox : MCv yX9_markBox cX9_markBox 7 none 5 := ⟨⟨inT mt_1 3 (by decide +kernel) rfl, inT mt_6 112 rfl rfl, ⟨by decide +kernel, by decide +kernel⟩, by decide +kernel⟩, inT mt_6 111 (by decide +kernel) rfl, inT mt_0 55 (by decide +kernel) rfl⟩
theorem mlX9_371 : ML RX9 371 yX9_inkField := Or.inl (inT mt_6 113 (by decide +kernel) rfl)
set_option maxRecDepth 100000 in
theorem mcX9_inkField : MCv yX9_inkField cX9_inkField 3 none 1 := ⟨⟨inT mt_1 3 (by decide +kernel) rfl, inT mt_6 116 rfl rfl, ⟨by decide +kernel, by decide +kernel⟩, by decide +kernel⟩, inT mt_6 115 (by decide +kernel) rfl, inT mt_0 56 (by decide +kernel) rfl⟩
theorem mlX9_374 : ML RX9 374 yX9_scaleField := Or.inl (inT mt_6 117 (by decide +kernel) rfl)
set_option maxRecDepth 100000 in
theorem mcX9_scaleField : MCv yX9_scaleField cX9_scaleField 3 none 1 := ⟨⟨inT mt_1 3 (by decide +kernel) rfl, inT mt_6 120 rfl rfl, ⟨by decide +kernel, by decide +kernel⟩, by decide +kernel⟩, inT mt_6 119 (by decide +kernel) rfl, inT mt_0 57 (by decide +kernel) rfl⟩
theorem mlX9_377 : ML RX9 377 yX9_rasterField := Or.inl (inT mt_6 121 (by decide +kernel) rfl)
set_option maxRecDepth 100000 in
theorem mcX9_rasterField : MCv yX9_rasterField cX9_rasterField 3 none 1 := ⟨⟨inT mt_1 3 (by decide +kernel) rfl, inT mt_6 124 rfl rfl, ⟨by decide +kernel, by decide +kernel⟩, by decide +kernel⟩, inT mt_6 123 (by decide +kernel) rfl, inT mt_0 58 (by decide +kernel) rfl⟩
theorem mlX9_664 : ML RX9 664 yX9_beginRaster := Or.inl (inT mt_6 125 (by decide +kernel) rfl)
set_option maxRecDepth 100000 in
theorem mcX9_beginRaster : MCv yX9_beginRaster cX9_beginRaster 2 none 1 := ⟨⟨inT mt_1 3 (by decide +kernel) rfl, inT mt_6 128 rfl rfl, ⟨by decide +kernel, by decide +kernel⟩, by decide +kernel⟩, inT mt_6 127 (by decide +kernel) rfl, inT mt_0 59 (by decide +kernel) rfl⟩
theorem mlX9_675 : ML RX9 675 yX4_begin := Or.inl (inT mt_6 129 (by decide +kernel) rfl)
set_option maxRecDepth 100000 in
theorem mcX4_begin : MCv yX4_begin cX4_begin 2 none 1 := ⟨⟨inT mt_1 12 (by decide +kernel) rfl, inT mt_6 132 rfl rfl, ⟨by decide +kernel, by decide +kernel⟩, by decide +kernel⟩, inT mt_6 130 (by decide +kernel) rfl, inT mt_6 131 (by decide +kernel) rfl⟩
theorem mlX9_667 : ML RX9 667 yX4_end := Or.inl (inT mt_6 133 (by decide +kernel) rfl)
theorem mlX9_380 : ML RX9 380 yX9_rowField := Or.inl (inT mt_6 134 (by decide +kernel) rfl)
set_option maxRecDepth 100000 in
theorem mcX9_rowField : MCv yX9_rowField cX9_rowField 4 none 1 := ⟨⟨inT mt_1 3 (by decide +kernel) rfl, inT mt_6 137 rfl rfl, ⟨by decide +kernel, by decide +kernel⟩, by decide +kernel⟩, inT mt_6 136 (by decide +kernel) rfl, inT mt_0 60 (by decide +kernel) rfl⟩
theorem mlX9_684 : ML RX9 684 yX4_clearRow := Or.inl (inT mt_6 138 (by decide +kernel) rfl)
theorem mlX9_687 : ML RX9 687 yX9_growRows := Or.inl (inT mt_6 139 (by decide +kernel) rfl)
set_option maxRecDepth 100000 in
theorem mcX9_growRows : MCv yX9_growRows cX9_growRows 3 none 1 := ⟨⟨inT mt_1 3 (by decide +kernel) rfl, inT mt_6 142 rfl rfl, ⟨by decide +kernel, by decide +kernel⟩, by decide +kernel⟩, inT mt_6 141 (by decide +kernel) rfl, inT mt_0 61 (by decide +kernel) rfl⟩
theorem mlX9_690 : ML RX9 690 yX9_rasterRow := Or.inl (inT mt_6 143 (by decide +kernel) rfl)
set_option maxRecDepth 100000 in
theorem mcX9_rasterRow : MCv yX9_rasterRow cX9_rasterRow 4 none 0 := ⟨⟨inT mt_1 3 (by decide +kernel) rfl, inT mt_6 146 rfl rfl, ⟨by decide +kernel, by decide +kernel⟩, by decide +kernel⟩, inT mt_6 145 (by decide +kernel) rfl, inT mt_0 62 (by decide +kernel) rfl⟩
theorem mlX9_693 : ML RX9 693 yX4_isFull := Or.inl (inT mt_6 147 (by decide +kernel) rfl)
set_option maxRecDepth 100000 in
theorem mcX4_isFull : MCv yX4_isFull cX4_isFull 1 (some .boolean) 0 := ⟨⟨inT mt_1 12 (by decide +kernel) rfl, inT mt_6 150 rfl rfl, ⟨by decide +kernel, by decide +kernel⟩, by decide +kernel⟩, inT mt_6 148 (by decide +kernel) rfl, inT mt_6 149 (by decide +kernel) rfl⟩
theorem mlX9_696 : ML RX9 696 yX4_unpack := Or.inl (inT mt_6 151 (by decide +kernel) rfl)
set_option maxRecDepth 100000 in
theorem mcX4_unpack : MCv yX4_unpack cX4_unpack 3 none 1 := ⟨⟨inT mt_1 12 (by decide +kernel) rfl, inT mt_6 154 rfl rfl, ⟨by decide +kernel, by decide +kernel⟩, by decide +kernel⟩, inT mt_6 152 (by decide +kernel) rfl, inT mt_6 153 (by decide +kernel) rfl⟩
theorem mlX4_61 : ML RX4 61 yX4_unpackPairs := Or.inl (inT mt_6 155 (by decide +kernel) rfl)
set_option maxRecDepth 100000 in
theorem mcX4_unpackPairs : MCv yX4_unpackPairs cX4_unpackPairs 5 none 1 := ⟨⟨inT mt_1 12 (by decide +kernel) rfl, inT mt_6 158 rfl rfl, ⟨by decide +kernel, by decide +kernel⟩, by decide +kernel⟩, inT mt_6 157 (by decide +kernel) rfl, inT mt_0 63 (by decide +kernel) rfl⟩
theorem mlX4_76 : ML RX4 76 yX5_dataByte := Or.inl (inT mt_6 159 (by decide +kernel) rfl)
theorem mlX4_80 : ML RX4 80 yX4_put := Or.inl (inT mt_6 160 (by decide +kernel) rfl)
set_option maxRecDepth 100000 in
theorem mcX4_put : MCv yX4_put cX4_put 7 none 3 := ⟨⟨inT mt_1 12 (by decide +kernel) rfl, inT mt_6 163 rfl rfl, ⟨by decide +kernel, by decide +kernel⟩, by decide +kernel⟩, inT mt_6 162 (by decide +kernel) rfl, inT mt_0 64 (by decide +kernel) rfl⟩
theorem mlX4_65 : ML RX4 65 yX4_unpackMixed := Or.inl (inT mt_6 164 (by decide +kernel) rfl)
set_option maxRecDepth 100000 in
theorem mcX4_unpackMixed : MCv yX4_unpackMixed cX4_unpackMixed 6 none 1 := ⟨⟨inT mt_1 12 (by decide +kernel) rfl, inT mt_6 167 rfl rfl, ⟨by decide +kernel, by decide +kernel⟩, by decide +kernel⟩, inT mt_6 166 (by decide +kernel) rfl, inT mt_0 65 (by decide +kernel) rfl⟩
theorem mlX4_68 : ML RX4 68 yX4_unpackChanges := Or.inl (inT mt_6 168 (by decide +kernel) rfl)
set_option maxRecDepth 100000 in
theorem mcX4_unpackChanges : MCv yX4_unpackChanges cX4_unpackChanges 8 none 1 := ⟨⟨inT mt_1 12 (by decide +kernel) rfl, inT mt_6 171 rfl rfl, ⟨by decide +kernel, by decide +kernel⟩, by decide +kernel⟩, inT mt_6 170 (by decide +kernel) rfl, inT mt_0 66 (by decide +kernel) rfl⟩
theorem mlX9_700 : ML RX9 700 yX0_layRow := Or.inl (inT mt_6 172 (by decide +kernel) rfl)
set_option maxRecDepth 100000 in
theorem mcX0_layRow : MCv yX0_layRow cX0_layRow 8 none 1 := ⟨⟨inT mt_1 4 (by decide +kernel) rfl, inT mt_6 175 rfl rfl, ⟨by decide +kernel, by decide +kernel⟩, by decide +kernel⟩, inT mt_6 173 (by decide +kernel) rfl, inT mt_6 174 (by decide +kernel) rfl⟩
theorem mlX0_114 : ML RX0 114 yX4_dotsInRow := Or.inl (inT mt_6 176 (by decide +kernel) rfl)
set_option maxRecDepth 100000 in
theorem mcX4_dotsInRow : MCv yX4_dotsInRow cX4_dotsInRow 1 (some .int) 0 := ⟨⟨inT mt_1 12 (by decide +kernel) rfl, inT mt_6 179 rfl rfl, ⟨by decide +kernel, by decide +kernel⟩, by decide +kernel⟩, inT mt_6 177 (by decide +kernel) rfl, inT mt_6 178 (by decide +kernel) rfl⟩
theorem mlX4_55 : ML RX4 55 yJ9_min_7cf53 := Or.inl (inT mt_6 180 (by decide +kernel) rfl)
theorem mlX0_122 : ML RX0 122 yX11_firstOther := Or.inr ⟨"PrinterHouse", inN mt_6 181 (by decide +kernel) rfl⟩
theorem mlX0_132 : ML RX0 132 yX11_blacken := Or.inr ⟨"PrinterHouse", inN mt_6 182 (by decide +kernel) rfl⟩
set_option maxRecDepth 100000 in
theorem mcX11_blacken : MCs yX11_blacken cX11_blacken 6 none 4 := ⟨⟨inT mt_1 1 (by decide +kernel) rfl, inT mt_6 184 rfl rfl, ⟨by decide +kernel, by decide +kernel⟩, by decide +kernel⟩, inT mt_6 183 (by decide +kernel) rfl⟩
theorem mlX11_168 : ML RX11 168 yX11_maskOf := Or.inl (inT mt_6 185 (by decide +kernel) rfl)
theorem mlX9_704 : ML RX9 704 yX4_dotsInRow := Or.inl (inT mt_6 186 (by decide +kernel) rfl)
theorem mlX9_383 : ML RX9 383 yX9_obeyFont := Or.inl (inT mt_6 187 (by decide +kernel) rfl)
set_option maxRecDepth 100000 in
theorem mcX9_obeyFont : MCv yX9_obeyFont cX9_obeyFont 4 none 0 := ⟨⟨inT mt_1 3 (by decide +kernel) rfl, inT mt_6 190 rfl rfl, ⟨by decide +kernel, by decide +kernel⟩, by decide +kernel⟩, inT mt_6 189 (by decide +kernel) rfl, inT mt_0 67 (by decide +kernel) rfl⟩
theorem mlX9_392 : ML RX9 392 yX9_fontField := Or.inl (inT mt_6 191 (by decide +kernel) rfl)
set_option maxRecDepth 100000 in
theorem mcX9_fontField : MCv yX9_fontField cX9_fontField 5 (some .boolean) 2 := ⟨⟨inT mt_1 3 (by decide +kernel) rfl, inT mt_6 194 rfl rfl, ⟨by decide +kernel, by decide +kernel⟩, by decide +kernel⟩, inT mt_6 193 (by decide +kernel) rfl, inT mt_0 68 (by decide +kernel) rfl⟩
theorem mlX9_564 : ML RX9 564 yX2_wishFor := Or.inl (inT mt_6 195 (by decide +kernel) rfl)
set_option maxRecDepth 100000 in
theorem mcX2_wishFor : MCv yX2_wishFor cX2_wishFor 3 (some .boolean) 2 := ⟨⟨inT mt_1 6 (by decide +kernel) rfl, inT mt_6 198 rfl rfl, ⟨by decide +kernel, by decide +kernel⟩, by decide +kernel⟩, inT mt_6 196 (by decide +kernel) rfl, inT mt_6 197 (by decide +kernel) rfl⟩
theorem mlX9_568 : ML RX9 568 yX9_wish := Or.inl (inT mt_6 199 (by decide +kernel) rfl)
set_option maxRecDepth 100000 in
theorem mcX9_wish : MCs yX9_wish cX9_wish 3 (some .boolean) 3 := ⟨⟨inT mt_1 3 (by decide +kernel) rfl, inT mt_6 201 rfl rfl, ⟨by decide +kernel, by decide +kernel⟩, by decide +kernel⟩, inT mt_6 200 (by decide +kernel) rfl⟩
theorem mlX9_396 : ML RX9 396 yX9_styleField := Or.inl (inT mt_6 202 (by decide +kernel) rfl)
set_option maxRecDepth 100000 in
theorem mcX9_styleField : MCv yX9_styleField cX9_styleField 4 (some .boolean) 2 := ⟨⟨inT mt_1 3 (by decide +kernel) rfl, inT mt_6 205 rfl rfl, ⟨by decide +kernel, by decide +kernel⟩, by decide +kernel⟩, inT mt_6 204 (by decide +kernel) rfl, inT mt_0 69 (by decide +kernel) rfl⟩
theorem mlX9_572 : ML RX9 572 yX9_wishPitch := Or.inl (inT mt_6 206 (by decide +kernel) rfl)
set_option maxRecDepth 100000 in
theorem mcX9_wishPitch : MCv yX9_wishPitch cX9_wishPitch 7 (some .boolean) 1 := ⟨⟨inT mt_1 3 (by decide +kernel) rfl, inT mt_6 209 rfl rfl, ⟨by decide +kernel, by decide +kernel⟩, by decide +kernel⟩, inT mt_6 208 (by decide +kernel) rfl, inT mt_0 70 (by decide +kernel) rfl⟩
theorem mlX9_576 : ML RX9 576 yX5_exact := Or.inl (inT mt_6 210 (by decide +kernel) rfl)
theorem kcX9_580 : Cond.constantLong RX9 580 (72000000) ∈ TBL := inT mt_6 211 (by decide +kernel) rfl
theorem kcX9_582 : Cond.constantLong RX9 582 (7200) ∈ TBL := inT mt_6 212 (by decide +kernel) rfl
theorem mlX9_405 : ML RX9 405 yX2_sendGlyph := Or.inl (inT mt_6 213 (by decide +kernel) rfl)
set_option maxRecDepth 100000 in
theorem mcX2_sendGlyph : MCv yX2_sendGlyph cX2_sendGlyph 12 none 3 := ⟨⟨inT mt_1 6 (by decide +kernel) rfl, inT mt_6 216 rfl rfl, ⟨by decide +kernel, by decide +kernel⟩, by decide +kernel⟩, inT mt_6 214 (by decide +kernel) rfl, inT mt_6 215 (by decide +kernel) rfl⟩
theorem mlX2_80 : ML RX2 80 yX5_dataByte := Or.inl (inT mt_6 217 (by decide +kernel) rfl)
theorem mlX2_63 : ML RX2 63 yX5_dataTwo := Or.inl (inT mt_6 218 (by decide +kernel) rfl)
set_option maxRecDepth 100000 in
theorem mcX5_dataTwo : MCv yX5_dataTwo cX5_dataTwo 2 (some .int) 1 := ⟨⟨inT mt_1 13 (by decide +kernel) rfl, inT mt_6 221 rfl rfl, ⟨by decide +kernel, by decide +kernel⟩, by decide +kernel⟩, inT mt_6 219 (by decide +kernel) rfl, inT mt_6 220 (by decide +kernel) rfl⟩
theorem mlX5_67 : ML RX5 67 yX5_dataByte := Or.inl (inT mt_6 222 (by decide +kernel) rfl)
theorem mlX2_87 : ML RX2 87 yX2_slotFor := Or.inl (inT mt_6 223 (by decide +kernel) rfl)
set_option maxRecDepth 100000 in
theorem mcX2_slotFor : MCv yX2_slotFor cX2_slotFor 5 (some .int) 2 := ⟨⟨inT mt_1 6 (by decide +kernel) rfl, inT mt_6 226 rfl rfl, ⟨by decide +kernel, by decide +kernel⟩, by decide +kernel⟩, inT mt_6 225 (by decide +kernel) rfl, inT mt_0 71 (by decide +kernel) rfl⟩
theorem mlX9_409 : ML RX9 409 yX2_send := Or.inl (inT mt_6 227 (by decide +kernel) rfl)
set_option maxRecDepth 100000 in
theorem mcX2_send : MCv yX2_send cX2_send 5 none 2 := ⟨⟨inT mt_1 6 (by decide +kernel) rfl, inT mt_6 230 rfl rfl, ⟨by decide +kernel, by decide +kernel⟩, by decide +kernel⟩, inT mt_6 228 (by decide +kernel) rfl, inT mt_6 229 (by decide +kernel) rfl⟩
theorem mlX2_77 : ML RX2 77 yX8_put := Or.inl (inT mt_6 231 (by decide +kernel) rfl)
theorem mlX2_83 : ML RX2 83 yX2_setNumber := Or.inl (inT mt_6 232 (by decide +kernel) rfl)
set_option maxRecDepth 100000 in
theorem mcX2_setNumber : MCv yX2_setNumber cX2_setNumber 5 none 3 := ⟨⟨inT mt_1 6 (by decide +kernel) rfl, inT mt_6 235 rfl rfl, ⟨by decide +kernel, by decide +kernel⟩, by decide +kernel⟩, inT mt_6 234 (by decide +kernel) rfl, inT mt_0 72 (by decide +kernel) rfl⟩
theorem mlX9_121 : ML RX9 121 yX9_keepStates := Or.inl (inT mt_6 236 (by decide +kernel) rfl)
set_option maxRecDepth 100000 in
theorem mcX9_keepStates : MCv yX9_keepStates cX9_keepStates 2 none 0 := ⟨⟨inT mt_1 3 (by decide +kernel) rfl, inT mt_6 239 rfl rfl, ⟨by decide +kernel, by decide +kernel⟩, by decide +kernel⟩, inT mt_6 238 (by decide +kernel) rfl, inT mt_0 73 (by decide +kernel) rfl⟩
theorem mlX11_82 : ML RX11 82 yX9_isMuch := Or.inl (inT mt_7 0 (by decide +kernel) rfl)
theorem mlX11_86 : ML RX11 86 yX3_read := Or.inl (inT mt_7 1 (by decide +kernel) rfl)
set_option maxRecDepth 100000 in
theorem mcX3_read : MCv yX3_read cX3_read 7 none 3 := ⟨⟨inT mt_1 14 (by decide +kernel) rfl, inT mt_7 4 rfl rfl, ⟨by decide +kernel, by decide +kernel⟩, by decide +kernel⟩, inT mt_7 2 (by decide +kernel) rfl, inT mt_7 3 (by decide +kernel) rfl⟩
theorem mlX3_53 : ML RX3 53 yX3_readHeader := Or.inl (inT mt_7 5 (by decide +kernel) rfl)
set_option maxRecDepth 100000 in
theorem mcX3_readHeader : MCv yX3_readHeader cX3_readHeader 4 none 0 := ⟨⟨inT mt_1 14 (by decide +kernel) rfl, inT mt_7 8 rfl rfl, ⟨by decide +kernel, by decide +kernel⟩, by decide +kernel⟩, inT mt_7 7 (by decide +kernel) rfl, inT mt_0 74 (by decide +kernel) rfl⟩
theorem mlX3_76 : ML RX3 76 yX3_byteAt := Or.inl (inT mt_7 9 (by decide +kernel) rfl)
set_option maxRecDepth 100000 in
theorem mcX3_byteAt : MCv yX3_byteAt cX3_byteAt 5 (some .int) 1 := ⟨⟨inT mt_1 14 (by decide +kernel) rfl, inT mt_7 12 rfl rfl, ⟨by decide +kernel, by decide +kernel⟩, by decide +kernel⟩, inT mt_7 11 (by decide +kernel) rfl, inT mt_0 75 (by decide +kernel) rfl⟩
theorem mlX3_80 : ML RX3 80 yX3_fail := Or.inl (inT mt_7 13 (by decide +kernel) rfl)
set_option maxRecDepth 100000 in
theorem mcX3_fail : MCv yX3_fail cX3_fail 4 none 2 := ⟨⟨inT mt_1 14 (by decide +kernel) rfl, inT mt_7 16 rfl rfl, ⟨by decide +kernel, by decide +kernel⟩, by decide +kernel⟩, inT mt_7 15 (by decide +kernel) rfl, inT mt_0 76 (by decide +kernel) rfl⟩
theorem mlX3_66 : ML RX3 66 yJ9_min_f86c9 := Or.inl (inT mt_7 17 (by decide +kernel) rfl)
theorem kcX3_56 : Cond.constantLong RX3 56 (4) ∈ TBL := inT mt_7 18 (by decide +kernel) rfl
theorem mlX3_58 : ML RX3 58 yX3_number := Or.inl (inT mt_7 19 (by decide +kernel) rfl)
set_option maxRecDepth 100000 in
theorem mcX3_number : MCv yX3_number cX3_number 7 (some .long) 2 := ⟨⟨inT mt_1 14 (by decide +kernel) rfl, inT mt_7 22 rfl rfl, ⟨by decide +kernel, by decide +kernel⟩, by decide +kernel⟩, inT mt_7 21 (by decide +kernel) rfl, inT mt_0 77 (by decide +kernel) rfl⟩
theorem mlX3_62 : ML RX3 62 yX3_readDirectory := Or.inl (inT mt_7 23 (by decide +kernel) rfl)
set_option maxRecDepth 100000 in
theorem mcX3_readDirectory : MCv yX3_readDirectory cX3_readDirectory 7 (some .long) 1 := ⟨⟨inT mt_1 14 (by decide +kernel) rfl, inT mt_7 26 rfl rfl, ⟨by decide +kernel, by decide +kernel⟩, by decide +kernel⟩, inT mt_7 25 (by decide +kernel) rfl, inT mt_0 78 (by decide +kernel) rfl⟩
theorem kcX3_84 : Cond.constantLong RX3 84 (2) ∈ TBL := inT mt_7 27 (by decide +kernel) rfl
theorem kcX3_86 : Cond.constantLong RX3 86 (12) ∈ TBL := inT mt_7 28 (by decide +kernel) rfl
theorem mlX3_88 : ML RX3 88 yX3_isDirectory := Or.inl (inT mt_7 29 (by decide +kernel) rfl)
set_option maxRecDepth 100000 in
theorem mcX3_isDirectory : MCv yX3_isDirectory cX3_isDirectory 7 (some .boolean) 2 := ⟨⟨inT mt_1 14 (by decide +kernel) rfl, inT mt_7 32 rfl rfl, ⟨by decide +kernel, by decide +kernel⟩, by decide +kernel⟩, inT mt_7 31 (by decide +kernel) rfl, inT mt_0 79 (by decide +kernel) rfl⟩
theorem mlX3_92 : ML RX3 92 yX3_startEntries := Or.inl (inT mt_7 33 (by decide +kernel) rfl)
set_option maxRecDepth 100000 in
theorem mcX3_startEntries : MCv yX3_startEntries cX3_startEntries 1 none 0 := ⟨⟨inT mt_1 14 (by decide +kernel) rfl, inT mt_7 36 rfl rfl, ⟨by decide +kernel, by decide +kernel⟩, by decide +kernel⟩, inT mt_7 35 (by decide +kernel) rfl, inT mt_0 80 (by decide +kernel) rfl⟩
theorem kcX3_121 : Cond.constantLong RX3 121 (-1) ∈ TBL := inT mt_7 37 (by decide +kernel) rfl
theorem mlX3_95 : ML RX3 95 yX3_readEntry := Or.inl (inT mt_7 38 (by decide +kernel) rfl)
set_option maxRecDepth 100000 in
theorem mcX3_readEntry : MCv yX3_readEntry cX3_readEntry 10 none 1 := ⟨⟨inT mt_1 14 (by decide +kernel) rfl, inT mt_7 41 rfl rfl, ⟨by decide +kernel, by decide +kernel⟩, by decide +kernel⟩, inT mt_7 40 (by decide +kernel) rfl, inT mt_0 81 (by decide +kernel) rfl⟩
theorem mlX3_141 : ML RX3 141 yX3_isOfOne := Or.inl (inT mt_7 42 (by decide +kernel) rfl)
set_option maxRecDepth 100000 in
theorem mcX3_isOfOne : MCs yX3_isOfOne cX3_isOfOne 1 (some .boolean) 1 := ⟨⟨inT mt_1 14 (by decide +kernel) rfl, inT mt_7 44 rfl rfl, ⟨by decide +kernel, by decide +kernel⟩, by decide +kernel⟩, inT mt_7 43 (by decide +kernel) rfl⟩
theorem kcX3_145 : Cond.constantLong RX3 145 (8) ∈ TBL := inT mt_7 45 (by decide +kernel) rfl
theorem mlX3_147 : ML RX3 147 yX3_tell := Or.inl (inT mt_7 46 (by decide +kernel) rfl)
set_option maxRecDepth 100000 in
theorem mcX3_tell : MCv yX3_tell cX3_tell 4 (some .boolean) 2 := ⟨⟨inT mt_1 14 (by decide +kernel) rfl, inT mt_7 49 rfl rfl, ⟨by decide +kernel, by decide +kernel⟩, by decide +kernel⟩, inT mt_7 48 (by decide +kernel) rfl, inT mt_0 82 (by decide +kernel) rfl⟩
theorem kcX3_151 : Cond.constantLong RX3 151 (640) ∈ TBL := inT mt_7 50 (by decide +kernel) rfl
theorem kcX3_153 : Cond.constantLong RX3 153 (800) ∈ TBL := inT mt_7 51 (by decide +kernel) rfl
theorem mlX3_99 : ML RX3 99 yX3_checkEntries := Or.inl (inT mt_7 52 (by decide +kernel) rfl)
set_option maxRecDepth 100000 in
theorem mcX3_checkEntries : MCv yX3_checkEntries cX3_checkEntries 3 none 1 := ⟨⟨inT mt_1 14 (by decide +kernel) rfl, inT mt_7 55 rfl rfl, ⟨by decide +kernel, by decide +kernel⟩, by decide +kernel⟩, inT mt_7 54 (by decide +kernel) rfl, inT mt_0 83 (by decide +kernel) rfl⟩
theorem mlX3_155 : ML RX3 155 yX3_isList := Or.inl (inT mt_7 56 (by decide +kernel) rfl)
set_option maxRecDepth 100000 in
theorem mcX3_isList : MCv yX3_isList cX3_isList 9 (some .boolean) 1 := ⟨⟨inT mt_1 14 (by decide +kernel) rfl, inT mt_7 59 rfl rfl, ⟨by decide +kernel, by decide +kernel⟩, by decide +kernel⟩, inT mt_7 58 (by decide +kernel) rfl, inT mt_0 84 (by decide +kernel) rfl⟩
theorem kcX3_162 : Cond.constantLong RX3 162 (3) ∈ TBL := inT mt_7 60 (by decide +kernel) rfl
theorem mlX3_164 : ML RX3 164 yX3_strips := Or.inl (inT mt_7 61 (by decide +kernel) rfl)
set_option maxRecDepth 100000 in
theorem mcX3_strips : MCv yX3_strips cX3_strips 1 (some .long) 0 := ⟨⟨inT mt_1 14 (by decide +kernel) rfl, inT mt_7 64 rfl rfl, ⟨by decide +kernel, by decide +kernel⟩, by decide +kernel⟩, inT mt_7 63 (by decide +kernel) rfl, inT mt_0 85 (by decide +kernel) rfl⟩
theorem mlX3_159 : ML RX3 159 yJ9_max_f86c9 := Or.inl (inT mt_7 65 (by decide +kernel) rfl)
theorem kcX3_168 : Cond.constantLong RX3 168 (40) ∈ TBL := inT mt_7 66 (by decide +kernel) rfl
theorem mlX3_102 : ML RX3 102 yX3_readStrips := Or.inl (inT mt_7 67 (by decide +kernel) rfl)
set_option maxRecDepth 100000 in
theorem mcX3_readStrips : MCv yX3_readStrips cX3_readStrips 11 none 0 := ⟨⟨inT mt_1 14 (by decide +kernel) rfl, inT mt_7 70 rfl rfl, ⟨by decide +kernel, by decide +kernel⟩, by decide +kernel⟩, inT mt_7 69 (by decide +kernel) rfl, inT mt_0 86 (by decide +kernel) rfl⟩
theorem mlX3_170 : ML RX3 170 yX6_nextPage := Or.inl (inT mt_7 71 (by decide +kernel) rfl)
theorem mlX3_174 : ML RX3 174 yJ7_fill_53178 := Or.inl (inT mt_7 72 (by decide +kernel) rfl)
theorem mlX3_180 : ML RX3 180 yX3_listed := Or.inl (inT mt_7 73 (by decide +kernel) rfl)
set_option maxRecDepth 100000 in
theorem mcX3_listed : MCv yX3_listed cX3_listed 7 (some .long) 2 := ⟨⟨inT mt_1 14 (by decide +kernel) rfl, inT mt_7 76 rfl rfl, ⟨by decide +kernel, by decide +kernel⟩, by decide +kernel⟩, inT mt_7 75 (by decide +kernel) rfl, inT mt_0 87 (by decide +kernel) rfl⟩
theorem mlX3_183 : ML RX3 183 yX3_openStrip := Or.inl (inT mt_7 77 (by decide +kernel) rfl)
set_option maxRecDepth 100000 in
theorem mcX3_openStrip : MCv yX3_openStrip cX3_openStrip 5 none 2 := ⟨⟨inT mt_1 14 (by decide +kernel) rfl, inT mt_7 80 rfl rfl, ⟨by decide +kernel, by decide +kernel⟩, by decide +kernel⟩, inT mt_7 79 (by decide +kernel) rfl, inT mt_0 88 (by decide +kernel) rfl⟩
theorem mlX3_201 : ML RX3 201 yJ9_min_7cf53 := Or.inl (inT mt_7 81 (by decide +kernel) rfl)
theorem mlX3_186 : ML RX3 186 yX3_readRow := Or.inl (inT mt_7 82 (by decide +kernel) rfl)
set_option maxRecDepth 100000 in
theorem mcX3_readRow : MCv yX3_readRow cX3_readRow 14 (some .boolean) 3 := ⟨⟨inT mt_1 14 (by decide +kernel) rfl, inT mt_7 85 rfl rfl, ⟨by decide +kernel, by decide +kernel⟩, by decide +kernel⟩, inT mt_7 84 (by decide +kernel) rfl, inT mt_0 89 (by decide +kernel) rfl⟩
theorem kcX3_220 : Cond.constant RX3 220 (1000000) ∈ TBL := inT mt_7 86 (by decide +kernel) rfl
theorem mlX3_221 : ML RX3 221 yJ9_max_7cf53 := Or.inl (inT mt_7 87 (by decide +kernel) rfl)
theorem mlX3_223 : ML RX3 223 yX11_firstChange := Or.inr ⟨"PrinterHouse", inN mt_7 88 (by decide +kernel) rfl⟩
theorem mlX3_227 : ML RX3 227 yX3_readMode := Or.inl (inT mt_7 89 (by decide +kernel) rfl)
set_option maxRecDepth 100000 in
theorem mcX3_readMode : MCv yX3_readMode cX3_readMode 3 (some .int) 0 := ⟨⟨inT mt_1 14 (by decide +kernel) rfl, inT mt_7 92 rfl rfl, ⟨by decide +kernel, by decide +kernel⟩, by decide +kernel⟩, inT mt_7 91 (by decide +kernel) rfl, inT mt_0 90 (by decide +kernel) rfl⟩
theorem mlX3_207 : ML RX3 207 yX3_peek := Or.inl (inT mt_7 93 (by decide +kernel) rfl)
set_option maxRecDepth 100000 in
theorem mcX3_peek : MCv yX3_peek cX3_peek 6 (some .int) 1 := ⟨⟨inT mt_1 14 (by decide +kernel) rfl, inT mt_7 96 rfl rfl, ⟨by decide +kernel, by decide +kernel⟩, by decide +kernel⟩, inT mt_7 95 (by decide +kernel) rfl, inT mt_0 91 (by decide +kernel) rfl⟩
theorem mlX3_211 : ML RX3 211 yX3_skipBits := Or.inl (inT mt_7 97 (by decide +kernel) rfl)
set_option maxRecDepth 100000 in
theorem mcX3_skipBits : MCv yX3_skipBits cX3_skipBits 2 (some .boolean) 1 := ⟨⟨inT mt_1 14 (by decide +kernel) rfl, inT mt_7 100 rfl rfl, ⟨by decide +kernel, by decide +kernel⟩, by decide +kernel⟩, inT mt_7 99 (by decide +kernel) rfl, inT mt_0 92 (by decide +kernel) rfl⟩
theorem gsX3_214 : Cond.fieldLinkNest RX3 214 "PrinterHouse" "NEAR_CODES" "[I" "PrinterHouse" ∈ NST := inN mt_7 101 (by decide +kernel) rfl
theorem gsX3_217 : Cond.fieldLinkNest RX3 217 "PrinterHouse" "NEAR_BITS" "[I" "PrinterHouse" ∈ NST := inN mt_7 102 (by decide +kernel) rfl
theorem mlX3_231 : ML RX3 231 yX11_firstOther := Or.inr ⟨"PrinterHouse", inN mt_7 103 (by decide +kernel) rfl⟩
theorem mlX3_234 : ML RX3 234 yX3_readRun := Or.inl (inT mt_7 104 (by decide +kernel) rfl)
set_option maxRecDepth 100000 in
theorem mcX3_readRun : MCv yX3_readRun cX3_readRun 7 (some .int) 1 := ⟨⟨inT mt_1 14 (by decide +kernel) rfl, inT mt_7 107 rfl rfl, ⟨by decide +kernel, by decide +kernel⟩, by decide +kernel⟩, inT mt_7 106 (by decide +kernel) rfl, inT mt_0 93 (by decide +kernel) rfl⟩
theorem mlX3_237 : ML RX3 237 yX11_blacken := Or.inr ⟨"PrinterHouse", inN mt_7 108 (by decide +kernel) rfl⟩
theorem mlX3_190 : ML RX3 190 yX3_invert := Or.inl (inT mt_7 109 (by decide +kernel) rfl)
set_option maxRecDepth 100000 in
theorem mcX3_invert : MCv yX3_invert cX3_invert 5 none 1 := ⟨⟨inT mt_1 14 (by decide +kernel) rfl, inT mt_7 112 rfl rfl, ⟨by decide +kernel, by decide +kernel⟩, by decide +kernel⟩, inT mt_7 111 (by decide +kernel) rfl, inT mt_0 94 (by decide +kernel) rfl⟩
theorem mlX3_194 : ML RX3 194 yX11_maskOf := Or.inr ⟨"PrinterHouse", inN mt_7 113 (by decide +kernel) rfl⟩
theorem mlX3_112 : ML RX3 112 yX6_come := Or.inl (inT mt_7 114 (by decide +kernel) rfl)
theorem mlX11_96 : ML RX11 96 yX9_dropTemporary := Or.inl (inT mt_7 115 (by decide +kernel) rfl)
theorem mlL_36 : ML RL 36 yX11_fault := Or.inl (inT mt_7 116 (by decide +kernel) rfl)
set_option maxRecDepth 100000 in
theorem mcX11_fault : MCv yX11_fault cX11_fault 2 (some .int) 1 := ⟨⟨inT mt_1 1 (by decide +kernel) rfl, inT mt_7 119 rfl rfl, ⟨by decide +kernel, by decide +kernel⟩, by decide +kernel⟩, inT mt_7 117 (by decide +kernel) rfl, inT mt_7 118 (by decide +kernel) rfl⟩
theorem mlL_40 : ML RL 40 yX11_outs := Or.inl (inT mt_7 120 (by decide +kernel) rfl)
set_option maxRecDepth 100000 in
theorem mcX11_outs : MCv yX11_outs cX11_outs 1 (some .int) 0 := ⟨⟨inT mt_1 1 (by decide +kernel) rfl, inT mt_7 123 rfl rfl, ⟨by decide +kernel, by decide +kernel⟩, by decide +kernel⟩, inT mt_7 121 (by decide +kernel) rfl, inT mt_7 122 (by decide +kernel) rfl⟩
theorem mlL_44 : ML RL 44 yX11_out := Or.inl (inT mt_7 124 (by decide +kernel) rfl)
set_option maxRecDepth 100000 in
theorem mcX11_out : MCv yX11_out cX11_out 2 (some .int) 1 := ⟨⟨inT mt_1 1 (by decide +kernel) rfl, inT mt_7 127 rfl rfl, ⟨by decide +kernel, by decide +kernel⟩, by decide +kernel⟩, inT mt_7 125 (by decide +kernel) rfl, inT mt_7 126 (by decide +kernel) rfl⟩
theorem mlX11_102 : ML RX11 102 yX6_byteAt := Or.inl (inT mt_7 128 (by decide +kernel) rfl)
set_option maxRecDepth 100000 in
theorem mcX6_byteAt : MCv yX6_byteAt cX6_byteAt 2 (some .int) 1 := ⟨⟨inT mt_1 2 (by decide +kernel) rfl, inT mt_7 131 rfl rfl, ⟨by decide +kernel, by decide +kernel⟩, by decide +kernel⟩, inT mt_7 129 (by decide +kernel) rfl, inT mt_7 130 (by decide +kernel) rfl⟩
theorem mlL_48 : ML RL 48 yX11_sum := Or.inl (inT mt_7 132 (by decide +kernel) rfl)
set_option maxRecDepth 100000 in
theorem mcX11_sum : MCv yX11_sum cX11_sum 1 (some .int) 0 := ⟨⟨inT mt_1 1 (by decide +kernel) rfl, inT mt_7 135 rfl rfl, ⟨by decide +kernel, by decide +kernel⟩, by decide +kernel⟩, inT mt_7 133 (by decide +kernel) rfl, inT mt_7 134 (by decide +kernel) rfl⟩
theorem mlX11_106 : ML RX11 106 yX6_sumOfBytes := Or.inl (inT mt_7 136 (by decide +kernel) rfl)
set_option maxRecDepth 100000 in
theorem mcX6_sumOfBytes : MCv yX6_sumOfBytes cX6_sumOfBytes 3 (some .int) 0 := ⟨⟨inT mt_1 2 (by decide +kernel) rfl, inT mt_7 139 rfl rfl, ⟨by decide +kernel, by decide +kernel⟩, by decide +kernel⟩, inT mt_7 137 (by decide +kernel) rfl, inT mt_7 138 (by decide +kernel) rfl⟩
theorem mlL_52 : ML RL 52 yX11_take := Or.inl (inT mt_7 140 (by decide +kernel) rfl)
set_option maxRecDepth 100000 in
theorem mcX11_take : MCv yX11_take cX11_take 2 (some .int) 0 := ⟨⟨inT mt_1 1 (by decide +kernel) rfl, inT mt_7 143 rfl rfl, ⟨by decide +kernel, by decide +kernel⟩, by decide +kernel⟩, inT mt_7 141 (by decide +kernel) rfl, inT mt_7 142 (by decide +kernel) rfl⟩
theorem mlL_56 : ML RL 56 yX11_pages := Or.inl (inT mt_7 144 (by decide +kernel) rfl)
set_option maxRecDepth 100000 in
theorem mcX11_pages : MCv yX11_pages cX11_pages 1 (some .int) 0 := ⟨⟨inT mt_1 1 (by decide +kernel) rfl, inT mt_7 147 rfl rfl, ⟨by decide +kernel, by decide +kernel⟩, by decide +kernel⟩, inT mt_7 145 (by decide +kernel) rfl, inT mt_7 146 (by decide +kernel) rfl⟩
theorem mlL_60 : ML RL 60 yX11_width := Or.inl (inT mt_7 148 (by decide +kernel) rfl)
set_option maxRecDepth 100000 in
theorem mcX11_width : MCv yX11_width cX11_width 2 (some .int) 1 := ⟨⟨inT mt_1 1 (by decide +kernel) rfl, inT mt_7 151 rfl rfl, ⟨by decide +kernel, by decide +kernel⟩, by decide +kernel⟩, inT mt_7 149 (by decide +kernel) rfl, inT mt_7 150 (by decide +kernel) rfl⟩
theorem mlX11_113 : ML RX11 113 yX6_hasPage := Or.inl (inT mt_7 152 (by decide +kernel) rfl)
set_option maxRecDepth 100000 in
theorem mcX6_hasPage : MCv yX6_hasPage cX6_hasPage 2 (some .boolean) 1 := ⟨⟨inT mt_1 2 (by decide +kernel) rfl, inT mt_7 155 rfl rfl, ⟨by decide +kernel, by decide +kernel⟩, by decide +kernel⟩, inT mt_7 153 (by decide +kernel) rfl, inT mt_7 154 (by decide +kernel) rfl⟩
theorem mlL_64 : ML RL 64 yX11_height := Or.inl (inT mt_7 156 (by decide +kernel) rfl)
set_option maxRecDepth 100000 in
theorem mcX11_height : MCv yX11_height cX11_height 2 (some .int) 1 := ⟨⟨inT mt_1 1 (by decide +kernel) rfl, inT mt_7 159 rfl rfl, ⟨by decide +kernel, by decide +kernel⟩, by decide +kernel⟩, inT mt_7 157 (by decide +kernel) rfl, inT mt_7 158 (by decide +kernel) rfl⟩
theorem mlL_68 : ML RL 68 yX11_dot := Or.inl (inT mt_7 160 (by decide +kernel) rfl)
set_option maxRecDepth 100000 in
theorem mcX11_dot : MCv yX11_dot cX11_dot 4 (some .int) 3 := ⟨⟨inT mt_1 1 (by decide +kernel) rfl, inT mt_7 163 rfl rfl, ⟨by decide +kernel, by decide +kernel⟩, by decide +kernel⟩, inT mt_7 161 (by decide +kernel) rfl, inT mt_7 162 (by decide +kernel) rfl⟩
theorem mlX11_123 : ML RX11 123 yX6_hasRow := Or.inl (inT mt_7 164 (by decide +kernel) rfl)
set_option maxRecDepth 100000 in
theorem mcX6_hasRow : MCv yX6_hasRow cX6_hasRow 3 (some .boolean) 2 := ⟨⟨inT mt_1 2 (by decide +kernel) rfl, inT mt_7 167 rfl rfl, ⟨by decide +kernel, by decide +kernel⟩, by decide +kernel⟩, inT mt_7 165 (by decide +kernel) rfl, inT mt_7 166 (by decide +kernel) rfl⟩
theorem mlX6_39 : ML RX6 39 yX6_hasPage := Or.inl (inT mt_7 168 (by decide +kernel) rfl)
theorem mlL_73 : ML RL 73 yX11_black := Or.inl (inT mt_7 169 (by decide +kernel) rfl)
set_option maxRecDepth 100000 in
theorem mcX11_black : MCv yX11_black cX11_black 3 (some .int) 2 := ⟨⟨inT mt_1 1 (by decide +kernel) rfl, inT mt_7 172 rfl rfl, ⟨by decide +kernel, by decide +kernel⟩, by decide +kernel⟩, inT mt_7 170 (by decide +kernel) rfl, inT mt_7 171 (by decide +kernel) rfl⟩
theorem mlX11_135 : ML RX11 135 yX6_blackDots := Or.inl (inT mt_7 173 (by decide +kernel) rfl)
set_option maxRecDepth 100000 in
theorem mcX6_blackDots : MCv yX6_blackDots cX6_blackDots 7 (some .int) 2 := ⟨⟨inT mt_1 2 (by decide +kernel) rfl, inT mt_7 176 rfl rfl, ⟨by decide +kernel, by decide +kernel⟩, by decide +kernel⟩, inT mt_7 174 (by decide +kernel) rfl, inT mt_7 175 (by decide +kernel) rfl⟩
theorem mlX6_43 : ML RX6 43 yJ6_bitCount_0f7a4 := Or.inl (inT mt_7 177 (by decide +kernel) rfl)
theorem mlL_78 : ML RL 78 yX11_state := Or.inl (inT mt_7 178 (by decide +kernel) rfl)
set_option maxRecDepth 100000 in
theorem mcX11_state : MCv yX11_state cX11_state 2 (some .int) 1 := ⟨⟨inT mt_1 1 (by decide +kernel) rfl, inT mt_7 181 rfl rfl, ⟨by decide +kernel, by decide +kernel⟩, by decide +kernel⟩, inT mt_7 179 (by decide +kernel) rfl, inT mt_7 180 (by decide +kernel) rfl⟩
theorem mlX11_139 : ML RX11 139 yX9_lastState := Or.inl (inT mt_7 182 (by decide +kernel) rfl)
set_option maxRecDepth 100000 in
theorem mcX9_lastState : MCv yX9_lastState cX9_lastState 2 (some .int) 1 := ⟨⟨inT mt_1 3 (by decide +kernel) rfl, inT mt_7 185 rfl rfl, ⟨by decide +kernel, by decide +kernel⟩, by decide +kernel⟩, inT mt_7 183 (by decide +kernel) rfl, inT mt_7 184 (by decide +kernel) rfl⟩
theorem mlL_82 : ML RL 82 yX11_held := Or.inl (inT mt_7 186 (by decide +kernel) rfl)
set_option maxRecDepth 100000 in
theorem mcX11_held : MCv yX11_held cX11_held 2 (some .int) 1 := ⟨⟨inT mt_1 1 (by decide +kernel) rfl, inT mt_7 189 rfl rfl, ⟨by decide +kernel, by decide +kernel⟩, by decide +kernel⟩, inT mt_7 187 (by decide +kernel) rfl, inT mt_7 188 (by decide +kernel) rfl⟩
theorem mlX11_142 : ML RX11 142 yX9_number := Or.inl (inT mt_7 190 (by decide +kernel) rfl)
set_option maxRecDepth 100000 in
theorem mcX9_number : MCv yX9_number cX9_number 2 (some .int) 1 := ⟨⟨inT mt_1 3 (by decide +kernel) rfl, inT mt_7 193 rfl rfl, ⟨by decide +kernel, by decide +kernel⟩, by decide +kernel⟩, inT mt_7 191 (by decide +kernel) rfl, inT mt_7 192 (by decide +kernel) rfl⟩
theorem mlX9_179 : ML RX9 179 yX8_count := Or.inl (inT mt_7 194 (by decide +kernel) rfl)
set_option maxRecDepth 100000 in
theorem mcX8_count : MCv yX8_count cX8_count 3 (some .int) 0 := ⟨⟨inT mt_1 7 (by decide +kernel) rfl, inT mt_7 197 rfl rfl, ⟨by decide +kernel, by decide +kernel⟩, by decide +kernel⟩, inT mt_7 195 (by decide +kernel) rfl, inT mt_7 196 (by decide +kernel) rfl⟩
theorem mlX9_186 : ML RX9 186 yX9_bytesOfMacros := Or.inl (inT mt_7 198 (by decide +kernel) rfl)
set_option maxRecDepth 100000 in
theorem mcX9_bytesOfMacros : MCv yX9_bytesOfMacros cX9_bytesOfMacros 3 (some .int) 0 := ⟨⟨inT mt_1 3 (by decide +kernel) rfl, inT mt_7 201 rfl rfl, ⟨by decide +kernel, by decide +kernel⟩, by decide +kernel⟩, inT mt_7 200 (by decide +kernel) rfl, inT mt_0 95 (by decide +kernel) rfl⟩
theorem mlL_86 : ML RL 86 yX11_off := Or.inl (inT mt_7 202 (by decide +kernel) rfl)
set_option maxRecDepth 100000 in
theorem mcX11_off : MCv yX11_off cX11_off 1 (some .int) 0 := ⟨⟨inT mt_1 1 (by decide +kernel) rfl, inT mt_7 205 rfl rfl, ⟨by decide +kernel, by decide +kernel⟩, by decide +kernel⟩, inT mt_7 203 (by decide +kernel) rfl, inT mt_7 204 (by decide +kernel) rfl⟩
theorem mlX11_145 : ML RX11 145 yX9_dropAll := Or.inl (inT mt_7 206 (by decide +kernel) rfl)
set_option maxRecDepth 100000 in
theorem mcX9_dropAll : MCv yX9_dropAll cX9_dropAll 2 (some .int) 0 := ⟨⟨inT mt_1 3 (by decide +kernel) rfl, inT mt_7 209 rfl rfl, ⟨by decide +kernel, by decide +kernel⟩, by decide +kernel⟩, inT mt_7 207 (by decide +kernel) rfl, inT mt_7 208 (by decide +kernel) rfl⟩
theorem klL_10 : Cond.classLink RL 10 RX12 ∈ TBL := inT mt_7 210 (by decide +kernel) rfl
theorem knX12 : Cond.instantiable RX12 80 ∈ TBL := inT mt_7 211 (by decide +kernel) rfl
theorem mlL_12 : ML RL 12 yX12_init := Or.inl (inT mt_7 212 (by decide +kernel) rfl)
set_option maxRecDepth 100000 in
theorem mcX12_init : MCi yX12_init cX12_init 2 0 := ⟨⟨inT mt_1 15 (by decide +kernel) rfl, inT mt_7 214 rfl rfl, ⟨by decide +kernel, by decide +kernel⟩, by decide +kernel⟩, inT mt_7 213 (by decide +kernel) rfl, rfl⟩
theorem mlX12_1 : ML RX12 1 objectInit := Or.inl (inT mt_7 215 (by decide +kernel) rfl)
theorem kcX12_81 : Cond.constant RX12 81 (64000) ∈ TBL := inT mt_7 216 (by decide +kernel) rfl
theorem kcX12_85 : Cond.constant RX12 85 (768000) ∈ TBL := inT mt_7 217 (by decide +kernel) rfl
theorem kcX12_95 : Cond.constant RX12 95 (60008) ∈ TBL := inT mt_7 218 (by decide +kernel) rfl
theorem mlX12_143 : ML RX12 143 yX12_readCodes := Or.inl (inT mt_7 219 (by decide +kernel) rfl)
set_option maxRecDepth 100000 in
theorem mcX12_readCodes : MCv yX12_readCodes cX12_readCodes 1 none 0 := ⟨⟨inT mt_1 15 (by decide +kernel) rfl, inT mt_7 222 rfl rfl, ⟨by decide +kernel, by decide +kernel⟩, by decide +kernel⟩, inT mt_7 221 (by decide +kernel) rfl, inT mt_0 96 (by decide +kernel) rfl⟩
theorem mlX12_507 : ML RX12 507 yX12_readRow := Or.inl (inT mt_7 224 (by decide +kernel) rfl)
set_option maxRecDepth 100000 in
theorem mcX12_readRow : MCv yX12_readRow cX12_readRow 9 none 2 := ⟨⟨inT mt_1 15 (by decide +kernel) rfl, inT mt_7 227 rfl rfl, ⟨by decide +kernel, by decide +kernel⟩, by decide +kernel⟩, inT mt_7 226 (by decide +kernel) rfl, inT mt_0 97 (by decide +kernel) rfl⟩
theorem mlX12_513 : ML RX12 513 yJ0_length_8abf5 := Or.inl (inT mt_7 228 (by decide +kernel) rfl)
set_option maxRecDepth 100000 in
theorem mcJ0_length_8abf5 : MCv yJ0_length_8abf5 cJ0_length_8abf5 1 (some .int) 0 := ⟨⟨inT mt_1 16 (by decide +kernel) rfl, inT mt_7 231 rfl rfl, ⟨by decide +kernel, by decide +kernel⟩, by decide +kernel⟩, inT mt_7 229 (by decide +kernel) rfl, inT mt_7 230 (by decide +kernel) rfl⟩
theorem mlJ0_335 : ML RJ0 335 yJ0_coder_7d493 := Or.inl (inT mt_7 232 (by decide +kernel) rfl)
set_option maxRecDepth 100000 in
theorem mcJ0_coder_7d493 : MCv yJ0_coder_7d493 cJ0_coder_7d493 1 (some .byte) 0 := ⟨⟨inT mt_1 16 (by decide +kernel) rfl, inT mt_7 235 rfl rfl, ⟨by decide +kernel, by decide +kernel⟩, by decide +kernel⟩, inT mt_7 233 (by decide +kernel) rfl, inT mt_7 234 (by decide +kernel) rfl⟩
theorem gsJ0_38 : Cond.fieldLink RJ0 38 "java/lang/String" "COMPACT_STRINGS" "Z" ∈ TBL := inT mt_7 236 (by decide +kernel) rfl
theorem mlX12_518 : ML RX12 518 yJ0_charAt_5068e := Or.inl (inT mt_7 238 (by decide +kernel) rfl)
set_option maxRecDepth 100000 in
theorem mcJ0_charAt_5068e : MCv yJ0_charAt_5068e cJ0_charAt_5068e 2 (some .char) 1 := ⟨⟨inT mt_1 16 (by decide +kernel) rfl, inT mt_8 1 rfl rfl, ⟨by decide +kernel, by decide +kernel⟩, by decide +kernel⟩, inT mt_7 239 (by decide +kernel) rfl, inT mt_8 0 (by decide +kernel) rfl⟩
theorem mlJ0_492 : ML RJ0 492 yJ0_isLatin1_aae02 := Or.inl (inT mt_8 2 (by decide +kernel) rfl)
set_option maxRecDepth 100000 in
theorem mcJ0_isLatin1_aae02 : MCv yJ0_isLatin1_aae02 cJ0_isLatin1_aae02 1 (some .boolean) 0 := ⟨⟨inT mt_1 16 (by decide +kernel) rfl, inT mt_8 5 rfl rfl, ⟨by decide +kernel, by decide +kernel⟩, by decide +kernel⟩, inT mt_8 3 (by decide +kernel) rfl, inT mt_8 4 (by decide +kernel) rfl⟩
theorem mlJ0_495 : ML RJ0 495 yJ1_charAt_3b067 := Or.inl (inT mt_8 6 (by decide +kernel) rfl)
set_option maxRecDepth 100000 in
theorem mcJ1_charAt_3b067 : MCs yJ1_charAt_3b067 cJ1_charAt_3b067 2 (some .char) 2 := ⟨⟨inT mt_1 17 (by decide +kernel) rfl, inT mt_8 8 rfl rfl, ⟨by decide +kernel, by decide +kernel⟩, by decide +kernel⟩, inT mt_8 7 (by decide +kernel) rfl⟩
theorem mlJ1_9 : ML RJ1 9 yJ0_checkIndex_df160 := Or.inl (inT mt_8 9 (by decide +kernel) rfl)
set_option maxRecDepth 100000 in
theorem mcJ0_checkIndex_df160 : MCs yJ0_checkIndex_df160 cJ0_checkIndex_df160 2 none 2 := ⟨⟨inT mt_1 16 (by decide +kernel) rfl, inT mt_8 11 rfl rfl, ⟨by decide +kernel, by decide +kernel⟩, by decide +kernel⟩, inT mt_8 10 (by decide +kernel) rfl⟩
theorem gsJ0_1053 : Cond.fieldLink RJ0 1053 "jdk/internal/util/Preconditions" "SIOOBE_FORMATTER" "Ljava/util/function/BiFunction;" ∈ TBL := inT mt_8 12 (by decide +kernel) rfl
theorem mlJ0_1059 : ML RJ0 1059 yJ3_checkIndex_8e157 := Or.inl (inT mt_8 14 (by decide +kernel) rfl)
set_option maxRecDepth 100000 in
theorem mcJ3_checkIndex_8e157 : MCs yJ3_checkIndex_8e157 cJ3_checkIndex_8e157 3 (some .int) 3 := ⟨⟨inT mt_1 18 (by decide +kernel) rfl, inT mt_8 16 rfl rfl, ⟨by decide +kernel, by decide +kernel⟩, by decide +kernel⟩, inT mt_8 15 (by decide +kernel) rfl⟩
theorem mlJ0_498 : ML RJ0 498 yJ2_charAt_3b067 := Or.inl (inT mt_8 17 (by decide +kernel) rfl)
set_option maxRecDepth 100000 in
theorem mcJ2_charAt_3b067 : MCs yJ2_charAt_3b067 cJ2_charAt_3b067 2 (some .char) 2 := ⟨⟨inT mt_1 19 (by decide +kernel) rfl, inT mt_8 19 rfl rfl, ⟨by decide +kernel, by decide +kernel⟩, by decide +kernel⟩, inT mt_8 18 (by decide +kernel) rfl⟩
theorem mlJ2_67 : ML RJ2 67 yJ2_checkIndex_2214a := Or.inl (inT mt_8 20 (by decide +kernel) rfl)
set_option maxRecDepth 100000 in
theorem mcJ2_checkIndex_2214a : MCs yJ2_checkIndex_2214a cJ2_checkIndex_2214a 2 none 2 := ⟨⟨inT mt_1 19 (by decide +kernel) rfl, inT mt_8 22 rfl rfl, ⟨by decide +kernel, by decide +kernel⟩, by decide +kernel⟩, inT mt_8 21 (by decide +kernel) rfl⟩
theorem mlJ2_48 : ML RJ2 48 yJ2_length_9d52b := Or.inl (inT mt_8 23 (by decide +kernel) rfl)
set_option maxRecDepth 100000 in
theorem mcJ2_length_9d52b : MCs yJ2_length_9d52b cJ2_length_9d52b 1 (some .int) 1 := ⟨⟨inT mt_1 19 (by decide +kernel) rfl, inT mt_8 25 rfl rfl, ⟨by decide +kernel, by decide +kernel⟩, by decide +kernel⟩, inT mt_8 24 (by decide +kernel) rfl⟩
theorem mlJ2_414 : ML RJ2 414 yJ0_checkIndex_df160 := Or.inl (inT mt_8 26 (by decide +kernel) rfl)
theorem mlJ2_71 : ML RJ2 71 yJ2_getChar_3b067 := Or.inl (inT mt_8 27 (by decide +kernel) rfl)
set_option maxRecDepth 100000 in
theorem mcJ2_getChar_3b067 : MCs yJ2_getChar_3b067 cJ2_getChar_3b067 2 (some .char) 2 := ⟨⟨inT mt_1 19 (by decide +kernel) rfl, inT mt_8 29 rfl rfl, ⟨by decide +kernel, by decide +kernel⟩, by decide +kernel⟩, inT mt_8 28 (by decide +kernel) rfl⟩
theorem gsJ2_44 : Cond.fieldLink RJ2 44 "java/lang/StringUTF16" "$assertionsDisabled" "Z" ∈ TBL := inT mt_8 30 (by decide +kernel) rfl
theorem gsJ2_59 : Cond.fieldLink RJ2 59 "java/lang/StringUTF16" "HI_BYTE_SHIFT" "I" ∈ TBL := inT mt_8 32 (by decide +kernel) rfl
theorem gsJ2_63 : Cond.fieldLink RJ2 63 "java/lang/StringUTF16" "LO_BYTE_SHIFT" "I" ∈ TBL := inT mt_8 34 (by decide +kernel) rfl
theorem flX12_9 : FL RX12 9 12 0 := ⟨(RX12, TX12, 80), rfl, by decide, Or.inl (inT mt_8 37 (by decide +kernel) rfl)⟩
theorem flX12_9o : FLo RX12 9 12 0 := ⟨(RX12, TX12, 80), rfl, by decide, rfl, inT mt_8 37 (by decide +kernel) rfl⟩
theorem flX12_13 : FL RX12 13 12 1 := ⟨(RX12, TX12, 80), rfl, by decide, Or.inl (inT mt_8 38 (by decide +kernel) rfl)⟩
theorem flX12_13o : FLo RX12 13 12 1 := ⟨(RX12, TX12, 80), rfl, by decide, rfl, inT mt_8 38 (by decide +kernel) rfl⟩
theorem flX12_16 : FL RX12 16 12 2 := ⟨(RX12, TX12, 80), rfl, by decide, Or.inl (inT mt_8 39 (by decide +kernel) rfl)⟩
theorem flX12_16o : FLo RX12 16 12 2 := ⟨(RX12, TX12, 80), rfl, by decide, rfl, inT mt_8 39 (by decide +kernel) rfl⟩
theorem flX12_20 : FL RX12 20 12 3 := ⟨(RX12, TX12, 80), rfl, by decide, Or.inl (inT mt_8 40 (by decide +kernel) rfl)⟩
theorem flX12_20o : FLo RX12 20 12 3 := ⟨(RX12, TX12, 80), rfl, by decide, rfl, inT mt_8 40 (by decide +kernel) rfl⟩
theorem flX12_23 : FL RX12 23 12 4 := ⟨(RX12, TX12, 80), rfl, by decide, Or.inl (inT mt_8 41 (by decide +kernel) rfl)⟩
theorem flX12_23o : FLo RX12 23 12 4 := ⟨(RX12, TX12, 80), rfl, by decide, rfl, inT mt_8 41 (by decide +kernel) rfl⟩
theorem flX12_26 : FL RX12 26 12 5 := ⟨(RX12, TX12, 80), rfl, by decide, Or.inl (inT mt_8 42 (by decide +kernel) rfl)⟩
theorem flX12_26o : FLo RX12 26 12 5 := ⟨(RX12, TX12, 80), rfl, by decide, rfl, inT mt_8 42 (by decide +kernel) rfl⟩
theorem flX12_29 : FL RX12 29 12 6 := ⟨(RX12, TX12, 80), rfl, by decide, Or.inl (inT mt_8 43 (by decide +kernel) rfl)⟩
theorem flX12_29o : FLo RX12 29 12 6 := ⟨(RX12, TX12, 80), rfl, by decide, rfl, inT mt_8 43 (by decide +kernel) rfl⟩
theorem flX12_32 : FL RX12 32 12 7 := ⟨(RX12, TX12, 80), rfl, by decide, Or.inl (inT mt_8 44 (by decide +kernel) rfl)⟩
theorem flX12_32o : FLo RX12 32 12 7 := ⟨(RX12, TX12, 80), rfl, by decide, rfl, inT mt_8 44 (by decide +kernel) rfl⟩
theorem flX12_35 : FL RX12 35 12 8 := ⟨(RX12, TX12, 80), rfl, by decide, Or.inl (inT mt_8 45 (by decide +kernel) rfl)⟩
theorem flX12_35o : FLo RX12 35 12 8 := ⟨(RX12, TX12, 80), rfl, by decide, rfl, inT mt_8 45 (by decide +kernel) rfl⟩
theorem flX12_260 : FL RX12 260 12 9 := ⟨(RX12, TX12, 80), rfl, by decide, Or.inl (inT mt_8 46 (by decide +kernel) rfl)⟩
theorem flX12_38 : FL RX12 38 12 10 := ⟨(RX12, TX12, 80), rfl, by decide, Or.inl (inT mt_8 47 (by decide +kernel) rfl)⟩
theorem flX12_38o : FLo RX12 38 12 10 := ⟨(RX12, TX12, 80), rfl, by decide, rfl, inT mt_8 47 (by decide +kernel) rfl⟩
theorem flX12_41 : FL RX12 41 12 11 := ⟨(RX12, TX12, 80), rfl, by decide, Or.inl (inT mt_8 48 (by decide +kernel) rfl)⟩
theorem flX12_41o : FLo RX12 41 12 11 := ⟨(RX12, TX12, 80), rfl, by decide, rfl, inT mt_8 48 (by decide +kernel) rfl⟩
theorem flX12_44 : FL RX12 44 12 12 := ⟨(RX12, TX12, 80), rfl, by decide, Or.inl (inT mt_8 49 (by decide +kernel) rfl)⟩
theorem flX12_44o : FLo RX12 44 12 12 := ⟨(RX12, TX12, 80), rfl, by decide, rfl, inT mt_8 49 (by decide +kernel) rfl⟩
theorem flX12_47 : FL RX12 47 12 13 := ⟨(RX12, TX12, 80), rfl, by decide, Or.inl (inT mt_8 50 (by decide +kernel) rfl)⟩
theorem flX12_47o : FLo RX12 47 12 13 := ⟨(RX12, TX12, 80), rfl, by decide, rfl, inT mt_8 50 (by decide +kernel) rfl⟩
theorem flX12_50 : FL RX12 50 12 14 := ⟨(RX12, TX12, 80), rfl, by decide, Or.inl (inT mt_8 51 (by decide +kernel) rfl)⟩
theorem flX12_50o : FLo RX12 50 12 14 := ⟨(RX12, TX12, 80), rfl, by decide, rfl, inT mt_8 51 (by decide +kernel) rfl⟩
theorem flX12_53 : FL RX12 53 12 15 := ⟨(RX12, TX12, 80), rfl, by decide, Or.inl (inT mt_8 52 (by decide +kernel) rfl)⟩
theorem flX12_53o : FLo RX12 53 12 15 := ⟨(RX12, TX12, 80), rfl, by decide, rfl, inT mt_8 52 (by decide +kernel) rfl⟩
theorem flX12_56 : FL RX12 56 12 16 := ⟨(RX12, TX12, 80), rfl, by decide, Or.inl (inT mt_8 53 (by decide +kernel) rfl)⟩
theorem flX12_56o : FLo RX12 56 12 16 := ⟨(RX12, TX12, 80), rfl, by decide, rfl, inT mt_8 53 (by decide +kernel) rfl⟩
theorem flX12_59 : FL RX12 59 12 17 := ⟨(RX12, TX12, 80), rfl, by decide, Or.inl (inT mt_8 54 (by decide +kernel) rfl)⟩
theorem flX12_59o : FLo RX12 59 12 17 := ⟨(RX12, TX12, 80), rfl, by decide, rfl, inT mt_8 54 (by decide +kernel) rfl⟩
theorem flX12_62 : FL RX12 62 12 18 := ⟨(RX12, TX12, 80), rfl, by decide, Or.inl (inT mt_8 55 (by decide +kernel) rfl)⟩
theorem flX12_62o : FLo RX12 62 12 18 := ⟨(RX12, TX12, 80), rfl, by decide, rfl, inT mt_8 55 (by decide +kernel) rfl⟩
theorem flX12_66 : FL RX12 66 12 19 := ⟨(RX12, TX12, 80), rfl, by decide, Or.inl (inT mt_8 56 (by decide +kernel) rfl)⟩
theorem flX12_66o : FLo RX12 66 12 19 := ⟨(RX12, TX12, 80), rfl, by decide, rfl, inT mt_8 56 (by decide +kernel) rfl⟩
theorem flX12_69 : FL RX12 69 12 20 := ⟨(RX12, TX12, 80), rfl, by decide, Or.inl (inT mt_8 57 (by decide +kernel) rfl)⟩
theorem flX12_69o : FLo RX12 69 12 20 := ⟨(RX12, TX12, 80), rfl, by decide, rfl, inT mt_8 57 (by decide +kernel) rfl⟩
theorem flX12_72 : FL RX12 72 12 21 := ⟨(RX12, TX12, 80), rfl, by decide, Or.inl (inT mt_8 58 (by decide +kernel) rfl)⟩
theorem flX12_72o : FLo RX12 72 12 21 := ⟨(RX12, TX12, 80), rfl, by decide, rfl, inT mt_8 58 (by decide +kernel) rfl⟩
theorem flX12_153 : FL RX12 153 12 22 := ⟨(RX12, TX12, 80), rfl, by decide, Or.inl (inT mt_8 59 (by decide +kernel) rfl)⟩
theorem flX12_75 : FL RX12 75 12 23 := ⟨(RX12, TX12, 80), rfl, by decide, Or.inl (inT mt_8 60 (by decide +kernel) rfl)⟩
theorem flX12_75o : FLo RX12 75 12 23 := ⟨(RX12, TX12, 80), rfl, by decide, rfl, inT mt_8 60 (by decide +kernel) rfl⟩
theorem flX12_146 : FL RX12 146 12 24 := ⟨(RX12, TX12, 80), rfl, by decide, Or.inl (inT mt_8 61 (by decide +kernel) rfl)⟩
theorem flX12_78 : FL RX12 78 12 25 := ⟨(RX12, TX12, 80), rfl, by decide, Or.inl (inT mt_8 62 (by decide +kernel) rfl)⟩
theorem flX12_78o : FLo RX12 78 12 25 := ⟨(RX12, TX12, 80), rfl, by decide, rfl, inT mt_8 62 (by decide +kernel) rfl⟩
theorem flX12_272 : FL RX12 272 12 26 := ⟨(RX12, TX12, 80), rfl, by decide, Or.inl (inT mt_8 63 (by decide +kernel) rfl)⟩
theorem flX12_263 : FL RX12 263 12 27 := ⟨(RX12, TX12, 80), rfl, by decide, Or.inl (inT mt_8 64 (by decide +kernel) rfl)⟩
theorem flX12_266 : FL RX12 266 12 28 := ⟨(RX12, TX12, 80), rfl, by decide, Or.inl (inT mt_8 65 (by decide +kernel) rfl)⟩
theorem flX12_222 : FL RX12 222 12 29 := ⟨(RX12, TX12, 80), rfl, by decide, Or.inl (inT mt_8 66 (by decide +kernel) rfl)⟩
theorem flX12_279 : FL RX12 279 12 30 := ⟨(RX12, TX12, 80), rfl, by decide, Or.inl (inT mt_8 67 (by decide +kernel) rfl)⟩
theorem flX12_219 : FL RX12 219 12 31 := ⟨(RX12, TX12, 80), rfl, by decide, Or.inl (inT mt_8 68 (by decide +kernel) rfl)⟩
theorem flX12_275 : FL RX12 275 12 32 := ⟨(RX12, TX12, 80), rfl, by decide, Or.inl (inT mt_8 69 (by decide +kernel) rfl)⟩
theorem flX12_191 : FL RX12 191 12 33 := ⟨(RX12, TX12, 80), rfl, by decide, Or.inl (inT mt_8 70 (by decide +kernel) rfl)⟩
theorem flX12_82 : FL RX12 82 12 34 := ⟨(RX12, TX12, 80), rfl, by decide, Or.inl (inT mt_8 71 (by decide +kernel) rfl)⟩
theorem flX12_82o : FLo RX12 82 12 34 := ⟨(RX12, TX12, 80), rfl, by decide, rfl, inT mt_8 71 (by decide +kernel) rfl⟩
theorem flX12_182 : FL RX12 182 12 35 := ⟨(RX12, TX12, 80), rfl, by decide, Or.inl (inT mt_8 72 (by decide +kernel) rfl)⟩
theorem flX12_195 : FL RX12 195 12 36 := ⟨(RX12, TX12, 80), rfl, by decide, Or.inl (inT mt_8 73 (by decide +kernel) rfl)⟩
theorem flX12_86 : FL RX12 86 12 37 := ⟨(RX12, TX12, 80), rfl, by decide, Or.inl (inT mt_8 74 (by decide +kernel) rfl)⟩
theorem flX12_86o : FLo RX12 86 12 37 := ⟨(RX12, TX12, 80), rfl, by decide, rfl, inT mt_8 74 (by decide +kernel) rfl⟩
theorem flX12_89 : FL RX12 89 12 38 := ⟨(RX12, TX12, 80), rfl, by decide, Or.inl (inT mt_8 75 (by decide +kernel) rfl)⟩
theorem flX12_89o : FLo RX12 89 12 38 := ⟨(RX12, TX12, 80), rfl, by decide, rfl, inT mt_8 75 (by decide +kernel) rfl⟩
theorem flX12_92 : FL RX12 92 12 39 := ⟨(RX12, TX12, 80), rfl, by decide, Or.inl (inT mt_8 76 (by decide +kernel) rfl)⟩
theorem flX12_92o : FLo RX12 92 12 39 := ⟨(RX12, TX12, 80), rfl, by decide, rfl, inT mt_8 76 (by decide +kernel) rfl⟩
theorem flX12_198 : FL RX12 198 12 40 := ⟨(RX12, TX12, 80), rfl, by decide, Or.inl (inT mt_8 77 (by decide +kernel) rfl)⟩
theorem flX12_96 : FL RX12 96 12 41 := ⟨(RX12, TX12, 80), rfl, by decide, Or.inl (inT mt_8 78 (by decide +kernel) rfl)⟩
theorem flX12_96o : FLo RX12 96 12 41 := ⟨(RX12, TX12, 80), rfl, by decide, rfl, inT mt_8 78 (by decide +kernel) rfl⟩
theorem flX12_543 : FL RX12 543 12 42 := ⟨(RX12, TX12, 80), rfl, by decide, Or.inl (inT mt_8 79 (by decide +kernel) rfl)⟩
theorem flX12_586 : FL RX12 586 12 43 := ⟨(RX12, TX12, 80), rfl, by decide, Or.inl (inT mt_8 80 (by decide +kernel) rfl)⟩
theorem flX12_136 : FL RX12 136 12 44 := ⟨(RX12, TX12, 80), rfl, by decide, Or.inl (inT mt_8 81 (by decide +kernel) rfl)⟩
theorem flX12_140 : FL RX12 140 12 45 := ⟨(RX12, TX12, 80), rfl, by decide, Or.inl (inT mt_8 82 (by decide +kernel) rfl)⟩
theorem flX12_99 : FL RX12 99 12 46 := ⟨(RX12, TX12, 80), rfl, by decide, Or.inl (inT mt_8 83 (by decide +kernel) rfl)⟩
theorem flX12_99o : FLo RX12 99 12 46 := ⟨(RX12, TX12, 80), rfl, by decide, rfl, inT mt_8 83 (by decide +kernel) rfl⟩
theorem flX12_661 : FL RX12 661 12 47 := ⟨(RX12, TX12, 80), rfl, by decide, Or.inl (inT mt_8 84 (by decide +kernel) rfl)⟩
theorem flX12_102 : FL RX12 102 12 48 := ⟨(RX12, TX12, 80), rfl, by decide, Or.inl (inT mt_8 85 (by decide +kernel) rfl)⟩
theorem flX12_102o : FLo RX12 102 12 48 := ⟨(RX12, TX12, 80), rfl, by decide, rfl, inT mt_8 85 (by decide +kernel) rfl⟩
theorem flX12_185 : FL RX12 185 12 49 := ⟨(RX12, TX12, 80), rfl, by decide, Or.inl (inT mt_8 86 (by decide +kernel) rfl)⟩
theorem flX12_105 : FL RX12 105 12 50 := ⟨(RX12, TX12, 80), rfl, by decide, Or.inl (inT mt_8 87 (by decide +kernel) rfl)⟩
theorem flX12_105o : FLo RX12 105 12 50 := ⟨(RX12, TX12, 80), rfl, by decide, rfl, inT mt_8 87 (by decide +kernel) rfl⟩
theorem flX12_379 : FL RX12 379 12 51 := ⟨(RX12, TX12, 80), rfl, by decide, Or.inl (inT mt_8 88 (by decide +kernel) rfl)⟩
theorem flX12_370 : FL RX12 370 12 52 := ⟨(RX12, TX12, 80), rfl, by decide, Or.inl (inT mt_8 89 (by decide +kernel) rfl)⟩
theorem flX12_384 : FL RX12 384 12 53 := ⟨(RX12, TX12, 80), rfl, by decide, Or.inl (inT mt_8 90 (by decide +kernel) rfl)⟩
theorem flX12_376 : FL RX12 376 12 54 := ⟨(RX12, TX12, 80), rfl, by decide, Or.inl (inT mt_8 91 (by decide +kernel) rfl)⟩
theorem flX12_496 : FL RX12 496 12 55 := ⟨(RX12, TX12, 80), rfl, by decide, Or.inl (inT mt_8 92 (by decide +kernel) rfl)⟩
theorem flX12_108 : FL RX12 108 12 56 := ⟨(RX12, TX12, 80), rfl, by decide, Or.inl (inT mt_8 93 (by decide +kernel) rfl)⟩
theorem flX12_108o : FLo RX12 108 12 56 := ⟨(RX12, TX12, 80), rfl, by decide, rfl, inT mt_8 93 (by decide +kernel) rfl⟩
theorem flX12_111 : FL RX12 111 12 57 := ⟨(RX12, TX12, 80), rfl, by decide, Or.inl (inT mt_8 94 (by decide +kernel) rfl)⟩
theorem flX12_111o : FLo RX12 111 12 57 := ⟨(RX12, TX12, 80), rfl, by decide, rfl, inT mt_8 94 (by decide +kernel) rfl⟩
theorem flX12_114 : FL RX12 114 12 58 := ⟨(RX12, TX12, 80), rfl, by decide, Or.inl (inT mt_8 95 (by decide +kernel) rfl)⟩
theorem flX12_114o : FLo RX12 114 12 58 := ⟨(RX12, TX12, 80), rfl, by decide, rfl, inT mt_8 95 (by decide +kernel) rfl⟩
theorem flX12_117 : FL RX12 117 12 59 := ⟨(RX12, TX12, 80), rfl, by decide, Or.inl (inT mt_8 96 (by decide +kernel) rfl)⟩
theorem flX12_117o : FLo RX12 117 12 59 := ⟨(RX12, TX12, 80), rfl, by decide, rfl, inT mt_8 96 (by decide +kernel) rfl⟩
theorem flX12_528 : FL RX12 528 12 60 := ⟨(RX12, TX12, 80), rfl, by decide, Or.inl (inT mt_8 97 (by decide +kernel) rfl)⟩
theorem flX12_525 : FL RX12 525 12 61 := ⟨(RX12, TX12, 80), rfl, by decide, Or.inl (inT mt_8 98 (by decide +kernel) rfl)⟩
theorem flX12_522 : FL RX12 522 12 62 := ⟨(RX12, TX12, 80), rfl, by decide, Or.inl (inT mt_8 99 (by decide +kernel) rfl)⟩
theorem flX12_531 : FL RX12 531 12 63 := ⟨(RX12, TX12, 80), rfl, by decide, Or.inl (inT mt_8 100 (by decide +kernel) rfl)⟩
theorem flX12_537 : FL RX12 537 12 64 := ⟨(RX12, TX12, 80), rfl, by decide, Or.inl (inT mt_8 101 (by decide +kernel) rfl)⟩
theorem flX12_534 : FL RX12 534 12 65 := ⟨(RX12, TX12, 80), rfl, by decide, Or.inl (inT mt_8 102 (by decide +kernel) rfl)⟩
theorem flX12_567 : FL RX12 567 12 66 := ⟨(RX12, TX12, 80), rfl, by decide, Or.inl (inT mt_8 103 (by decide +kernel) rfl)⟩
theorem flX12_580 : FL RX12 580 12 67 := ⟨(RX12, TX12, 80), rfl, by decide, Or.inl (inT mt_8 104 (by decide +kernel) rfl)⟩
theorem flX12_589 : FL RX12 589 12 68 := ⟨(RX12, TX12, 80), rfl, by decide, Or.inl (inT mt_8 105 (by decide +kernel) rfl)⟩
theorem flX12_583 : FL RX12 583 12 69 := ⟨(RX12, TX12, 80), rfl, by decide, Or.inl (inT mt_8 106 (by decide +kernel) rfl)⟩
theorem flX12_120 : FL RX12 120 12 70 := ⟨(RX12, TX12, 80), rfl, by decide, Or.inl (inT mt_8 107 (by decide +kernel) rfl)⟩
theorem flX12_120o : FLo RX12 120 12 70 := ⟨(RX12, TX12, 80), rfl, by decide, rfl, inT mt_8 107 (by decide +kernel) rfl⟩
theorem flX12_598 : FL RX12 598 12 71 := ⟨(RX12, TX12, 80), rfl, by decide, Or.inl (inT mt_8 108 (by decide +kernel) rfl)⟩
theorem flX12_123 : FL RX12 123 12 72 := ⟨(RX12, TX12, 80), rfl, by decide, Or.inl (inT mt_8 109 (by decide +kernel) rfl)⟩
theorem flX12_123o : FLo RX12 123 12 72 := ⟨(RX12, TX12, 80), rfl, by decide, rfl, inT mt_8 109 (by decide +kernel) rfl⟩
theorem flX12_126 : FL RX12 126 12 73 := ⟨(RX12, TX12, 80), rfl, by decide, Or.inl (inT mt_8 110 (by decide +kernel) rfl)⟩
theorem flX12_126o : FLo RX12 126 12 73 := ⟨(RX12, TX12, 80), rfl, by decide, rfl, inT mt_8 110 (by decide +kernel) rfl⟩
theorem flX12_130 : FL RX12 130 12 74 := ⟨(RX12, TX12, 80), rfl, by decide, Or.inl (inT mt_8 111 (by decide +kernel) rfl)⟩
theorem flX12_130o : FLo RX12 130 12 74 := ⟨(RX12, TX12, 80), rfl, by decide, rfl, inT mt_8 111 (by decide +kernel) rfl⟩
theorem flX12_133 : FL RX12 133 12 75 := ⟨(RX12, TX12, 80), rfl, by decide, Or.inl (inT mt_8 112 (by decide +kernel) rfl)⟩
theorem flX12_133o : FLo RX12 133 12 75 := ⟨(RX12, TX12, 80), rfl, by decide, rfl, inT mt_8 112 (by decide +kernel) rfl⟩
theorem flX12_626 : FL RX12 626 12 76 := ⟨(RX12, TX12, 80), rfl, by decide, Or.inl (inT mt_8 113 (by decide +kernel) rfl)⟩
theorem flX12_629 : FL RX12 629 12 77 := ⟨(RX12, TX12, 80), rfl, by decide, Or.inl (inT mt_8 114 (by decide +kernel) rfl)⟩
theorem flX12_632 : FL RX12 632 12 78 := ⟨(RX12, TX12, 80), rfl, by decide, Or.inl (inT mt_8 115 (by decide +kernel) rfl)⟩
theorem flX12_635 : FL RX12 635 12 79 := ⟨(RX12, TX12, 80), rfl, by decide, Or.inl (inT mt_8 116 (by decide +kernel) rfl)⟩
theorem mlL_17 : ML RL 17 yX12_feed := Or.inl (inT mt_9 38 (by decide +kernel) rfl)
set_option maxRecDepth 100000 in
theorem mcX12_feed : MCv yX12_feed cX12_feed 6 (some .int) 5 := ⟨⟨inT mt_1 15 (by decide +kernel) rfl, inT mt_9 41 rfl rfl, ⟨by decide +kernel, by decide +kernel⟩, by decide +kernel⟩, inT mt_9 39 (by decide +kernel) rfl, inT mt_9 40 (by decide +kernel) rfl⟩
theorem mlX12_149 : ML RX12 149 yX12_lay := Or.inl (inT mt_9 42 (by decide +kernel) rfl)
set_option maxRecDepth 100000 in
theorem mcX12_lay : MCv yX12_lay cX12_lay 3 none 1 := ⟨⟨inT mt_1 15 (by decide +kernel) rfl, inT mt_9 45 rfl rfl, ⟨by decide +kernel, by decide +kernel⟩, by decide +kernel⟩, inT mt_9 44 (by decide +kernel) rfl, inT mt_0 98 (by decide +kernel) rfl⟩
theorem mlL_22 : ML RL 22 yX12_cut := Or.inl (inT mt_9 46 (by decide +kernel) rfl)
set_option maxRecDepth 100000 in
theorem mcX12_cut : MCv yX12_cut cX12_cut 3 (some .int) 1 := ⟨⟨inT mt_1 15 (by decide +kernel) rfl, inT mt_9 49 rfl rfl, ⟨by decide +kernel, by decide +kernel⟩, by decide +kernel⟩, inT mt_9 47 (by decide +kernel) rfl, inT mt_9 48 (by decide +kernel) rfl⟩
theorem mlL_26 : ML RL 26 yX12_part := Or.inl (inT mt_9 50 (by decide +kernel) rfl)
set_option maxRecDepth 100000 in
theorem mcX12_part : MCv yX12_part cX12_part 4 (some .int) 1 := ⟨⟨inT mt_1 15 (by decide +kernel) rfl, inT mt_9 53 rfl rfl, ⟨by decide +kernel, by decide +kernel⟩, by decide +kernel⟩, inT mt_9 51 (by decide +kernel) rfl, inT mt_9 52 (by decide +kernel) rfl⟩
theorem mlL_31 : ML RL 31 yX12_drop := Or.inl (inT mt_9 54 (by decide +kernel) rfl)
set_option maxRecDepth 100000 in
theorem mcX12_drop : MCv yX12_drop cX12_drop 2 (some .int) 0 := ⟨⟨inT mt_1 15 (by decide +kernel) rfl, inT mt_9 57 rfl rfl, ⟨by decide +kernel, by decide +kernel⟩, by decide +kernel⟩, inT mt_9 55 (by decide +kernel) rfl, inT mt_9 56 (by decide +kernel) rfl⟩
theorem mlL_35 : ML RL 35 yX12_print := Or.inl (inT mt_9 58 (by decide +kernel) rfl)
set_option maxRecDepth 100000 in
theorem mcX12_print : MCv yX12_print cX12_print 4 (some .int) 1 := ⟨⟨inT mt_1 15 (by decide +kernel) rfl, inT mt_9 61 rfl rfl, ⟨by decide +kernel, by decide +kernel⟩, by decide +kernel⟩, inT mt_9 59 (by decide +kernel) rfl, inT mt_9 60 (by decide +kernel) rfl⟩
theorem mlX12_241 : ML RX12 241 yX12_white := Or.inl (inT mt_9 62 (by decide +kernel) rfl)
set_option maxRecDepth 100000 in
theorem mcX12_white : MCv yX12_white cX12_white 2 none 0 := ⟨⟨inT mt_1 15 (by decide +kernel) rfl, inT mt_9 65 rfl rfl, ⟨by decide +kernel, by decide +kernel⟩, by decide +kernel⟩, inT mt_9 64 (by decide +kernel) rfl, inT mt_0 99 (by decide +kernel) rfl⟩
theorem mlX12_655 : ML RX12 655 yX12_stream := Or.inl (inT mt_9 66 (by decide +kernel) rfl)
set_option maxRecDepth 100000 in
theorem mcX12_stream : MCv yX12_stream cX12_stream 2 none 1 := ⟨⟨inT mt_1 15 (by decide +kernel) rfl, inT mt_9 69 rfl rfl, ⟨by decide +kernel, by decide +kernel⟩, by decide +kernel⟩, inT mt_9 68 (by decide +kernel) rfl, inT mt_0 100 (by decide +kernel) rfl⟩
theorem mlX12_228 : ML RX12 228 yX12_reset := Or.inl (inT mt_9 70 (by decide +kernel) rfl)
set_option maxRecDepth 100000 in
theorem mcX12_reset : MCv yX12_reset cX12_reset 4 none 2 := ⟨⟨inT mt_1 15 (by decide +kernel) rfl, inT mt_9 73 rfl rfl, ⟨by decide +kernel, by decide +kernel⟩, by decide +kernel⟩, inT mt_9 72 (by decide +kernel) rfl, inT mt_0 101 (by decide +kernel) rfl⟩
theorem mlX12_216 : ML RX12 216 yX12_pagesOwn := Or.inl (inT mt_9 74 (by decide +kernel) rfl)
set_option maxRecDepth 100000 in
theorem mcX12_pagesOwn : MCv yX12_pagesOwn cX12_pagesOwn 1 none 0 := ⟨⟨inT mt_1 15 (by decide +kernel) rfl, inT mt_9 77 rfl rfl, ⟨by decide +kernel, by decide +kernel⟩, by decide +kernel⟩, inT mt_9 76 (by decide +kernel) rfl, inT mt_0 102 (by decide +kernel) rfl⟩
theorem mlX12_172 : ML RX12 172 yX12_wide := Or.inl (inT mt_9 78 (by decide +kernel) rfl)
set_option maxRecDepth 100000 in
theorem mcX12_wide : MCv yX12_wide cX12_wide 1 (some .int) 0 := ⟨⟨inT mt_1 15 (by decide +kernel) rfl, inT mt_9 81 rfl rfl, ⟨by decide +kernel, by decide +kernel⟩, by decide +kernel⟩, inT mt_9 80 (by decide +kernel) rfl, inT mt_0 103 (by decide +kernel) rfl⟩
theorem mlX12_156 : ML RX12 156 yX12_pageWide := Or.inl (inT mt_9 82 (by decide +kernel) rfl)
set_option maxRecDepth 100000 in
theorem mcX12_pageWide : MCs yX12_pageWide cX12_pageWide 1 (some .int) 1 := ⟨⟨inT mt_1 15 (by decide +kernel) rfl, inT mt_9 84 rfl rfl, ⟨by decide +kernel, by decide +kernel⟩, by decide +kernel⟩, inT mt_9 83 (by decide +kernel) rfl⟩
theorem mlX12_160 : ML RX12 160 yX12_pageHigh := Or.inl (inT mt_9 85 (by decide +kernel) rfl)
set_option maxRecDepth 100000 in
theorem mcX12_pageHigh : MCs yX12_pageHigh cX12_pageHigh 1 (some .int) 1 := ⟨⟨inT mt_1 15 (by decide +kernel) rfl, inT mt_9 87 rfl rfl, ⟨by decide +kernel, by decide +kernel⟩, by decide +kernel⟩, inT mt_9 86 (by decide +kernel) rfl⟩
theorem mlX12_176 : ML RX12 176 yX12_high := Or.inl (inT mt_9 88 (by decide +kernel) rfl)
set_option maxRecDepth 100000 in
theorem mcX12_high : MCv yX12_high cX12_high 1 (some .int) 0 := ⟨⟨inT mt_1 15 (by decide +kernel) rfl, inT mt_9 91 rfl rfl, ⟨by decide +kernel, by decide +kernel⟩, by decide +kernel⟩, inT mt_9 90 (by decide +kernel) rfl, inT mt_0 104 (by decide +kernel) rfl⟩
theorem mlX12_210 : ML RX12 210 yX12_setX := Or.inl (inT mt_9 92 (by decide +kernel) rfl)
set_option maxRecDepth 100000 in
theorem mcX12_setX : MCv yX12_setX cX12_setX 5 none 1 := ⟨⟨inT mt_1 15 (by decide +kernel) rfl, inT mt_9 95 rfl rfl, ⟨by decide +kernel, by decide +kernel⟩, by decide +kernel⟩, inT mt_9 94 (by decide +kernel) rfl, inT mt_0 105 (by decide +kernel) rfl⟩
theorem kcX12_204 : Cond.constantLong RX12 204 (96) ∈ TBL := inT mt_9 96 (by decide +kernel) rfl
theorem mlX12_213 : ML RX12 213 yX12_homeY := Or.inl (inT mt_9 97 (by decide +kernel) rfl)
set_option maxRecDepth 100000 in
theorem mcX12_homeY : MCv yX12_homeY cX12_homeY 1 none 0 := ⟨⟨inT mt_1 15 (by decide +kernel) rfl, inT mt_9 100 rfl rfl, ⟨by decide +kernel, by decide +kernel⟩, by decide +kernel⟩, inT mt_9 99 (by decide +kernel) rfl, inT mt_0 106 (by decide +kernel) rfl⟩
theorem mlX12_206 : ML RX12 206 yX12_setY := Or.inl (inT mt_9 101 (by decide +kernel) rfl)
set_option maxRecDepth 100000 in
theorem mcX12_setY : MCv yX12_setY cX12_setY 5 none 1 := ⟨⟨inT mt_1 15 (by decide +kernel) rfl, inT mt_9 104 rfl rfl, ⟨by decide +kernel, by decide +kernel⟩, by decide +kernel⟩, inT mt_9 103 (by decide +kernel) rfl, inT mt_0 107 (by decide +kernel) rfl⟩
theorem mlX12_282 : ML RX12 282 yX12_run := Or.inl (inT mt_9 105 (by decide +kernel) rfl)
set_option maxRecDepth 100000 in
theorem mcX12_run : MCv yX12_run cX12_run 2 none 0 := ⟨⟨inT mt_1 15 (by decide +kernel) rfl, inT mt_9 108 rfl rfl, ⟨by decide +kernel, by decide +kernel⟩, by decide +kernel⟩, inT mt_9 107 (by decide +kernel) rfl, inT mt_0 108 (by decide +kernel) rfl⟩
theorem mlX12_285 : ML RX12 285 yX12_hasMore := Or.inl (inT mt_9 109 (by decide +kernel) rfl)
set_option maxRecDepth 100000 in
theorem mcX12_hasMore : MCv yX12_hasMore cX12_hasMore 1 (some .boolean) 0 := ⟨⟨inT mt_1 15 (by decide +kernel) rfl, inT mt_9 112 rfl rfl, ⟨by decide +kernel, by decide +kernel⟩, by decide +kernel⟩, inT mt_9 111 (by decide +kernel) rfl, inT mt_0 109 (by decide +kernel) rfl⟩
theorem mlX12_289 : ML RX12 289 yX12_next := Or.inl (inT mt_9 113 (by decide +kernel) rfl)
set_option maxRecDepth 100000 in
theorem mcX12_next : MCv yX12_next cX12_next 2 (some .int) 0 := ⟨⟨inT mt_1 15 (by decide +kernel) rfl, inT mt_9 116 rfl rfl, ⟨by decide +kernel, by decide +kernel⟩, by decide +kernel⟩, inT mt_9 115 (by decide +kernel) rfl, inT mt_0 110 (by decide +kernel) rfl⟩
theorem mlX12_269 : ML RX12 269 yX12_count := Or.inl (inT mt_9 117 (by decide +kernel) rfl)
set_option maxRecDepth 100000 in
theorem mcX12_count : MCv yX12_count cX12_count 2 none 1 := ⟨⟨inT mt_1 15 (by decide +kernel) rfl, inT mt_9 120 rfl rfl, ⟨by decide +kernel, by decide +kernel⟩, by decide +kernel⟩, inT mt_9 119 (by decide +kernel) rfl, inT mt_0 111 (by decide +kernel) rfl⟩
theorem kcX12_278 : Cond.constant RX12 278 (60000) ∈ TBL := inT mt_9 121 (by decide +kernel) rfl
theorem mlX12_292 : ML RX12 292 yX12_escape := Or.inl (inT mt_9 122 (by decide +kernel) rfl)
set_option maxRecDepth 100000 in
theorem mcX12_escape : MCv yX12_escape cX12_escape 7 none 0 := ⟨⟨inT mt_1 15 (by decide +kernel) rfl, inT mt_9 125 rfl rfl, ⟨by decide +kernel, by decide +kernel⟩, by decide +kernel⟩, inT mt_9 124 (by decide +kernel) rfl, inT mt_0 112 (by decide +kernel) rfl⟩
theorem mlX12_358 : ML RX12 358 yX12_peek := Or.inl (inT mt_9 126 (by decide +kernel) rfl)
set_option maxRecDepth 100000 in
theorem mcX12_peek : MCv yX12_peek cX12_peek 1 (some .int) 0 := ⟨⟨inT mt_1 15 (by decide +kernel) rfl, inT mt_9 129 rfl rfl, ⟨by decide +kernel, by decide +kernel⟩, by decide +kernel⟩, inT mt_9 128 (by decide +kernel) rfl, inT mt_0 113 (by decide +kernel) rfl⟩
theorem mlX12_361 : ML RX12 361 yX12_pair := Or.inl (inT mt_9 130 (by decide +kernel) rfl)
set_option maxRecDepth 100000 in
theorem mcX12_pair : MCv yX12_pair cX12_pair 2 none 1 := ⟨⟨inT mt_1 15 (by decide +kernel) rfl, inT mt_9 133 rfl rfl, ⟨by decide +kernel, by decide +kernel⟩, by decide +kernel⟩, inT mt_9 132 (by decide +kernel) rfl, inT mt_0 114 (by decide +kernel) rfl⟩
theorem mlX12_307 : ML RX12 307 yX12_eject := Or.inl (inT mt_9 134 (by decide +kernel) rfl)
set_option maxRecDepth 100000 in
theorem mcX12_eject : MCv yX12_eject cX12_eject 4 none 0 := ⟨⟨inT mt_1 15 (by decide +kernel) rfl, inT mt_9 137 rfl rfl, ⟨by decide +kernel, by decide +kernel⟩, by decide +kernel⟩, inT mt_9 136 (by decide +kernel) rfl, inT mt_0 115 (by decide +kernel) rfl⟩
theorem mlX12_225 : ML RX12 225 yX12_save := Or.inl (inT mt_9 138 (by decide +kernel) rfl)
set_option maxRecDepth 100000 in
theorem mcX12_save : MCv yX12_save cX12_save 3 none 1 := ⟨⟨inT mt_1 15 (by decide +kernel) rfl, inT mt_9 141 rfl rfl, ⟨by decide +kernel, by decide +kernel⟩, by decide +kernel⟩, inT mt_9 140 (by decide +kernel) rfl, inT mt_0 116 (by decide +kernel) rfl⟩
theorem mlX12_232 : ML RX12 232 yX12_through := Or.inl (inT mt_9 142 (by decide +kernel) rfl)
set_option maxRecDepth 100000 in
theorem mcX12_through : MCv yX12_through cX12_through 8 none 1 := ⟨⟨inT mt_1 15 (by decide +kernel) rfl, inT mt_9 145 rfl rfl, ⟨by decide +kernel, by decide +kernel⟩, by decide +kernel⟩, inT mt_9 144 (by decide +kernel) rfl, inT mt_0 117 (by decide +kernel) rfl⟩
theorem mlX12_235 : ML RX12 235 yX12_back := Or.inl (inT mt_9 146 (by decide +kernel) rfl)
set_option maxRecDepth 100000 in
theorem mcX12_back : MCv yX12_back cX12_back 3 none 1 := ⟨⟨inT mt_1 15 (by decide +kernel) rfl, inT mt_9 149 rfl rfl, ⟨by decide +kernel, by decide +kernel⟩, by decide +kernel⟩, inT mt_9 148 (by decide +kernel) rfl, inT mt_0 118 (by decide +kernel) rfl⟩
theorem mlX12_238 : ML RX12 238 yX12_comes := Or.inl (inT mt_9 150 (by decide +kernel) rfl)
set_option maxRecDepth 100000 in
theorem mcX12_comes : MCv yX12_comes cX12_comes 4 none 2 := ⟨⟨inT mt_1 15 (by decide +kernel) rfl, inT mt_9 153 rfl rfl, ⟨by decide +kernel, by decide +kernel⟩, by decide +kernel⟩, inT mt_9 152 (by decide +kernel) rfl, inT mt_0 119 (by decide +kernel) rfl⟩
theorem mlX12_201 : ML RX12 201 yX12_written := Or.inl (inT mt_9 154 (by decide +kernel) rfl)
set_option maxRecDepth 100000 in
theorem mcX12_written : MCv yX12_written cX12_written 6 none 1 := ⟨⟨inT mt_1 15 (by decide +kernel) rfl, inT mt_9 157 rfl rfl, ⟨by decide +kernel, by decide +kernel⟩, by decide +kernel⟩, inT mt_9 156 (by decide +kernel) rfl, inT mt_0 120 (by decide +kernel) rfl⟩
theorem mlX12_540 : ML RX12 540 yX12_outByte := Or.inl (inT mt_9 158 (by decide +kernel) rfl)
set_option maxRecDepth 100000 in
theorem mcX12_outByte : MCv yX12_outByte cX12_outByte 2 none 1 := ⟨⟨inT mt_1 15 (by decide +kernel) rfl, inT mt_9 161 rfl rfl, ⟨by decide +kernel, by decide +kernel⟩, by decide +kernel⟩, inT mt_9 160 (by decide +kernel) rfl, inT mt_0 121 (by decide +kernel) rfl⟩
theorem kcX12_561 : Cond.constantLong RX12 561 (42) ∈ TBL := inT mt_9 162 (by decide +kernel) rfl
theorem mlX12_563 : ML RX12 563 yX12_outNumber := Or.inl (inT mt_9 163 (by decide +kernel) rfl)
set_option maxRecDepth 100000 in
theorem mcX12_outNumber : MCv yX12_outNumber cX12_outNumber 5 none 2 := ⟨⟨inT mt_1 15 (by decide +kernel) rfl, inT mt_9 166 rfl rfl, ⟨by decide +kernel, by decide +kernel⟩, by decide +kernel⟩, inT mt_9 165 (by decide +kernel) rfl, inT mt_0 122 (by decide +kernel) rfl⟩
theorem mlX12_570 : ML RX12 570 yX12_writeRow := Or.inl (inT mt_9 167 (by decide +kernel) rfl)
set_option maxRecDepth 100000 in
theorem mcX12_writeRow : MCv yX12_writeRow cX12_writeRow 5 none 0 := ⟨⟨inT mt_1 15 (by decide +kernel) rfl, inT mt_9 170 rfl rfl, ⟨by decide +kernel, by decide +kernel⟩, by decide +kernel⟩, inT mt_9 169 (by decide +kernel) rfl, inT mt_0 123 (by decide +kernel) rfl⟩
theorem mlX12_549 : ML RX12 549 yX12_change := Or.inl (inT mt_9 171 (by decide +kernel) rfl)
set_option maxRecDepth 100000 in
theorem mcX12_change : MCv yX12_change cX12_change 4 (some .int) 2 := ⟨⟨inT mt_1 15 (by decide +kernel) rfl, inT mt_9 174 rfl rfl, ⟨by decide +kernel, by decide +kernel⟩, by decide +kernel⟩, inT mt_9 173 (by decide +kernel) rfl, inT mt_0 124 (by decide +kernel) rfl⟩
theorem mlX12_552 : ML RX12 552 yX12_b1 := Or.inl (inT mt_9 175 (by decide +kernel) rfl)
set_option maxRecDepth 100000 in
theorem mcX12_b1 : MCv yX12_b1 cX12_b1 3 (some .int) 0 := ⟨⟨inT mt_1 15 (by decide +kernel) rfl, inT mt_9 178 rfl rfl, ⟨by decide +kernel, by decide +kernel⟩, by decide +kernel⟩, inT mt_9 177 (by decide +kernel) rfl, inT mt_0 125 (by decide +kernel) rfl⟩
theorem mlX12_555 : ML RX12 555 yX12_b2 := Or.inl (inT mt_9 179 (by decide +kernel) rfl)
set_option maxRecDepth 100000 in
theorem mcX12_b2 : MCv yX12_b2 cX12_b2 3 (some .int) 1 := ⟨⟨inT mt_1 15 (by decide +kernel) rfl, inT mt_9 182 rfl rfl, ⟨by decide +kernel, by decide +kernel⟩, by decide +kernel⟩, inT mt_9 181 (by decide +kernel) rfl, inT mt_0 126 (by decide +kernel) rfl⟩
theorem mlX12_546 : ML RX12 546 yX12_bits := Or.inl (inT mt_9 183 (by decide +kernel) rfl)
set_option maxRecDepth 100000 in
theorem mcX12_bits : MCv yX12_bits cX12_bits 4 none 2 := ⟨⟨inT mt_1 15 (by decide +kernel) rfl, inT mt_9 186 rfl rfl, ⟨by decide +kernel, by decide +kernel⟩, by decide +kernel⟩, inT mt_9 185 (by decide +kernel) rfl, inT mt_0 127 (by decide +kernel) rfl⟩
theorem mlX12_558 : ML RX12 558 yX12_writeRun := Or.inl (inT mt_9 187 (by decide +kernel) rfl)
set_option maxRecDepth 100000 in
theorem mcX12_writeRun : MCv yX12_writeRun cX12_writeRun 3 none 2 := ⟨⟨inT mt_1 15 (by decide +kernel) rfl, inT mt_9 190 rfl rfl, ⟨by decide +kernel, by decide +kernel⟩, by decide +kernel⟩, inT mt_9 189 (by decide +kernel) rfl, inT mt_0 128 (by decide +kernel) rfl⟩
theorem kcX12_573 : Cond.constantLong RX12 573 (13) ∈ TBL := inT mt_9 191 (by decide +kernel) rfl
theorem mlX12_575 : ML RX12 575 yX12_entry := Or.inl (inT mt_9 192 (by decide +kernel) rfl)
set_option maxRecDepth 100000 in
theorem mcX12_entry : MCv yX12_entry cX12_entry 4 none 3 := ⟨⟨inT mt_1 15 (by decide +kernel) rfl, inT mt_9 195 rfl rfl, ⟨by decide +kernel, by decide +kernel⟩, by decide +kernel⟩, inT mt_9 194 (by decide +kernel) rfl, inT mt_0 129 (by decide +kernel) rfl⟩
theorem kcX12_578 : Cond.constantLong RX12 578 (75) ∈ TBL := inT mt_9 196 (by decide +kernel) rfl
theorem mlX12_387 : ML RX12 387 yX12_temporaryGo := Or.inl (inT mt_9 197 (by decide +kernel) rfl)
set_option maxRecDepth 100000 in
theorem mcX12_temporaryGo : MCv yX12_temporaryGo cX12_temporaryGo 1 none 0 := ⟨⟨inT mt_1 15 (by decide +kernel) rfl, inT mt_9 200 rfl rfl, ⟨by decide +kernel, by decide +kernel⟩, by decide +kernel⟩, inT mt_9 199 (by decide +kernel) rfl, inT mt_0 130 (by decide +kernel) rfl⟩
theorem mlX12_244 : ML RX12 244 yX12_fontsGo := Or.inl (inT mt_9 201 (by decide +kernel) rfl)
set_option maxRecDepth 100000 in
theorem mcX12_fontsGo : MCv yX12_fontsGo cX12_fontsGo 3 none 1 := ⟨⟨inT mt_1 15 (by decide +kernel) rfl, inT mt_9 204 rfl rfl, ⟨by decide +kernel, by decide +kernel⟩, by decide +kernel⟩, inT mt_9 203 (by decide +kernel) rfl, inT mt_0 131 (by decide +kernel) rfl⟩
theorem mlX12_254 : ML RX12 254 yX12_fontGoes := Or.inl (inT mt_9 205 (by decide +kernel) rfl)
set_option maxRecDepth 100000 in
theorem mcX12_fontGoes : MCv yX12_fontGoes cX12_fontGoes 3 none 1 := ⟨⟨inT mt_1 15 (by decide +kernel) rfl, inT mt_9 208 rfl rfl, ⟨by decide +kernel, by decide +kernel⟩, by decide +kernel⟩, inT mt_9 207 (by decide +kernel) rfl, inT mt_0 132 (by decide +kernel) rfl⟩
theorem mlX12_257 : ML RX12 257 yX12_glyphGoes := Or.inl (inT mt_9 209 (by decide +kernel) rfl)
set_option maxRecDepth 100000 in
theorem mcX12_glyphGoes : MCv yX12_glyphGoes cX12_glyphGoes 4 none 2 := ⟨⟨inT mt_1 15 (by decide +kernel) rfl, inT mt_9 212 rfl rfl, ⟨by decide +kernel, by decide +kernel⟩, by decide +kernel⟩, inT mt_9 211 (by decide +kernel) rfl, inT mt_0 133 (by decide +kernel) rfl⟩
theorem mlX12_248 : ML RX12 248 yX12_usersGo := Or.inl (inT mt_9 213 (by decide +kernel) rfl)
set_option maxRecDepth 100000 in
theorem mcX12_usersGo : MCv yX12_usersGo cX12_usersGo 3 none 1 := ⟨⟨inT mt_1 15 (by decide +kernel) rfl, inT mt_9 216 rfl rfl, ⟨by decide +kernel, by decide +kernel⟩, by decide +kernel⟩, inT mt_9 215 (by decide +kernel) rfl, inT mt_0 134 (by decide +kernel) rfl⟩
theorem mlX12_251 : ML RX12 251 yX12_macrosGo := Or.inl (inT mt_9 217 (by decide +kernel) rfl)
set_option maxRecDepth 100000 in
theorem mcX12_macrosGo : MCv yX12_macrosGo cX12_macrosGo 3 none 1 := ⟨⟨inT mt_1 15 (by decide +kernel) rfl, inT mt_9 220 rfl rfl, ⟨by decide +kernel, by decide +kernel⟩, by decide +kernel⟩, inT mt_9 219 (by decide +kernel) rfl, inT mt_0 135 (by decide +kernel) rfl⟩
theorem mlX12_304 : ML RX12 304 yX12_line := Or.inl (inT mt_9 221 (by decide +kernel) rfl)
set_option maxRecDepth 100000 in
theorem mcX12_line : MCv yX12_line cX12_line 4 none 1 := ⟨⟨inT mt_1 15 (by decide +kernel) rfl, inT mt_9 224 rfl rfl, ⟨by decide +kernel, by decide +kernel⟩, by decide +kernel⟩, inT mt_9 223 (by decide +kernel) rfl, inT mt_0 136 (by decide +kernel) rfl⟩
theorem mlX12_390 : ML RX12 390 yX12_transparent := Or.inl (inT mt_9 225 (by decide +kernel) rfl)
set_option maxRecDepth 100000 in
theorem mcX12_transparent : MCv yX12_transparent cX12_transparent 3 none 0 := ⟨⟨inT mt_1 15 (by decide +kernel) rfl, inT mt_9 228 rfl rfl, ⟨by decide +kernel, by decide +kernel⟩, by decide +kernel⟩, inT mt_9 227 (by decide +kernel) rfl, inT mt_0 137 (by decide +kernel) rfl⟩
theorem mlX12_393 : ML RX12 393 yX12_shown := Or.inl (inT mt_9 229 (by decide +kernel) rfl)
set_option maxRecDepth 100000 in
theorem mcX12_shown : MCv yX12_shown cX12_shown 2 none 1 := ⟨⟨inT mt_1 15 (by decide +kernel) rfl, inT mt_9 232 rfl rfl, ⟨by decide +kernel, by decide +kernel⟩, by decide +kernel⟩, inT mt_9 231 (by decide +kernel) rfl, inT mt_0 138 (by decide +kernel) rfl⟩
theorem mlX12_298 : ML RX12 298 yX12_show := Or.inl (inT mt_9 233 (by decide +kernel) rfl)
set_option maxRecDepth 100000 in
theorem mcX12_show : MCv yX12_show cX12_show 11 none 1 := ⟨⟨inT mt_1 15 (by decide +kernel) rfl, inT mt_9 236 rfl rfl, ⟨by decide +kernel, by decide +kernel⟩, by decide +kernel⟩, inT mt_9 235 (by decide +kernel) rfl, inT mt_0 139 (by decide +kernel) rfl⟩
theorem mlX12_310 : ML RX12 310 yX12_fontInUse := Or.inl (inT mt_9 237 (by decide +kernel) rfl)
set_option maxRecDepth 100000 in
theorem mcX12_fontInUse : MCv yX12_fontInUse cX12_fontInUse 3 (some .int) 0 := ⟨⟨inT mt_1 15 (by decide +kernel) rfl, inT mt_10 0 rfl rfl, ⟨by decide +kernel, by decide +kernel⟩, by decide +kernel⟩, inT mt_9 239 (by decide +kernel) rfl, inT mt_0 140 (by decide +kernel) rfl⟩
theorem mlX12_333 : ML RX12 333 yX12_wish := Or.inl (inT mt_10 1 (by decide +kernel) rfl)
set_option maxRecDepth 100000 in
theorem mcX12_wish : MCv yX12_wish cX12_wish 2 (some .int) 1 := ⟨⟨inT mt_1 15 (by decide +kernel) rfl, inT mt_10 4 rfl rfl, ⟨by decide +kernel, by decide +kernel⟩, by decide +kernel⟩, inT mt_10 3 (by decide +kernel) rfl, inT mt_0 141 (by decide +kernel) rfl⟩
theorem mlX12_336 : ML RX12 336 yX12_keep := Or.inl (inT mt_10 5 (by decide +kernel) rfl)
set_option maxRecDepth 100000 in
theorem mcX12_keep : MCv yX12_keep cX12_keep 5 none 2 := ⟨⟨inT mt_1 15 (by decide +kernel) rfl, inT mt_10 8 rfl rfl, ⟨by decide +kernel, by decide +kernel⟩, by decide +kernel⟩, inT mt_10 7 (by decide +kernel) rfl, inT mt_0 142 (by decide +kernel) rfl⟩
theorem mlX12_339 : ML RX12 339 yX12_nearest := Or.inl (inT mt_10 9 (by decide +kernel) rfl)
set_option maxRecDepth 100000 in
theorem mcX12_nearest : MCv yX12_nearest cX12_nearest 6 none 2 := ⟨⟨inT mt_1 15 (by decide +kernel) rfl, inT mt_10 12 rfl rfl, ⟨by decide +kernel, by decide +kernel⟩, by decide +kernel⟩, inT mt_10 11 (by decide +kernel) rfl, inT mt_0 143 (by decide +kernel) rfl⟩
theorem kcX12_344 : Cond.constantLong RX12 344 (9223372036854775807) ∈ TBL := inT mt_10 13 (by decide +kernel) rfl
theorem mlX12_346 : ML RX12 346 yX12_far := Or.inl (inT mt_10 14 (by decide +kernel) rfl)
set_option maxRecDepth 100000 in
theorem mcX12_far : MCs yX12_far cX12_far 4 (some .long) 2 := ⟨⟨inT mt_1 15 (by decide +kernel) rfl, inT mt_10 16 rfl rfl, ⟨by decide +kernel, by decide +kernel⟩, by decide +kernel⟩, inT mt_10 15 (by decide +kernel) rfl⟩
theorem kcX12_354 : Cond.constantLong RX12 354 (-2) ∈ TBL := inT mt_10 17 (by decide +kernel) rfl
theorem kcX12_356 : Cond.constantLong RX12 356 (2) ∈ TBL := inT mt_10 18 (by decide +kernel) rfl
theorem mlX12_350 : ML RX12 350 yX12_smaller := Or.inl (inT mt_10 19 (by decide +kernel) rfl)
set_option maxRecDepth 100000 in
theorem mcX12_smaller : MCs yX12_smaller cX12_smaller 4 (some .long) 2 := ⟨⟨inT mt_1 15 (by decide +kernel) rfl, inT mt_10 21 rfl rfl, ⟨by decide +kernel, by decide +kernel⟩, by decide +kernel⟩, inT mt_10 20 (by decide +kernel) rfl⟩
theorem kcX12_315 : Cond.constantLong RX12 315 (6) ∈ TBL := inT mt_10 22 (by decide +kernel) rfl
theorem kcX12_313 : Cond.constantLong RX12 313 (8) ∈ TBL := inT mt_10 23 (by decide +kernel) rfl
theorem mlX12_317 : ML RX12 317 yX12_mark := Or.inl (inT mt_10 24 (by decide +kernel) rfl)
set_option maxRecDepth 100000 in
theorem mcX12_mark : MCv yX12_mark cX12_mark 19 (some .boolean) 4 := ⟨⟨inT mt_1 15 (by decide +kernel) rfl, inT mt_10 27 rfl rfl, ⟨by decide +kernel, by decide +kernel⟩, by decide +kernel⟩, inT mt_10 26 (by decide +kernel) rfl, inT mt_0 144 (by decide +kernel) rfl⟩
theorem kcX12_189 : Cond.constantLong RX12 189 (5000000) ∈ TBL := inT mt_10 28 (by decide +kernel) rfl
theorem mlX12_321 : ML RX12 321 yX12_useAtHand := Or.inl (inT mt_10 29 (by decide +kernel) rfl)
set_option maxRecDepth 100000 in
theorem mcX12_useAtHand : MCv yX12_useAtHand cX12_useAtHand 2 none 0 := ⟨⟨inT mt_1 15 (by decide +kernel) rfl, inT mt_10 32 rfl rfl, ⟨by decide +kernel, by decide +kernel⟩, by decide +kernel⟩, inT mt_10 31 (by decide +kernel) rfl, inT mt_0 145 (by decide +kernel) rfl⟩
theorem mlX12_324 : ML RX12 324 yX12_residentGlyph := Or.inl (inT mt_10 33 (by decide +kernel) rfl)
set_option maxRecDepth 100000 in
theorem mcX12_residentGlyph : MCv yX12_residentGlyph cX12_residentGlyph 7 none 3 := ⟨⟨inT mt_1 15 (by decide +kernel) rfl, inT mt_10 36 rfl rfl, ⟨by decide +kernel, by decide +kernel⟩, by decide +kernel⟩, inT mt_10 35 (by decide +kernel) rfl, inT mt_0 146 (by decide +kernel) rfl⟩
theorem mlX12_331 : ML RX12 331 yX12_lay_ := Or.inl (inT mt_10 37 (by decide +kernel) rfl)
set_option maxRecDepth 100000 in
theorem mcX12_lay_ : MCv yX12_lay_ cX12_lay_ 10 none 3 := ⟨⟨inT mt_1 15 (by decide +kernel) rfl, inT mt_10 40 rfl rfl, ⟨by decide +kernel, by decide +kernel⟩, by decide +kernel⟩, inT mt_10 39 (by decide +kernel) rfl, inT mt_0 147 (by decide +kernel) rfl⟩
theorem mlX12_179 : ML RX12 179 yX12_patternAt := Or.inl (inT mt_10 41 (by decide +kernel) rfl)
set_option maxRecDepth 100000 in
theorem mcX12_patternAt : MCv yX12_patternAt cX12_patternAt 11 (some .int) 2 := ⟨⟨inT mt_1 15 (by decide +kernel) rfl, inT mt_10 44 rfl rfl, ⟨by decide +kernel, by decide +kernel⟩, by decide +kernel⟩, inT mt_10 43 (by decide +kernel) rfl, inT mt_0 148 (by decide +kernel) rfl⟩
theorem mlX12_165 : ML RX12 165 yX12_modulo := Or.inl (inT mt_10 45 (by decide +kernel) rfl)
set_option maxRecDepth 100000 in
theorem mcX12_modulo : MCs yX12_modulo cX12_modulo 3 (some .int) 2 := ⟨⟨inT mt_1 15 (by decide +kernel) rfl, inT mt_10 47 rfl rfl, ⟨by decide +kernel, by decide +kernel⟩, by decide +kernel⟩, inT mt_10 46 (by decide +kernel) rfl⟩
theorem mlX12_169 : ML RX12 169 yX12_shadeOf := Or.inl (inT mt_10 48 (by decide +kernel) rfl)
set_option maxRecDepth 100000 in
theorem mcX12_shadeOf : MCs yX12_shadeOf cX12_shadeOf 5 (some .int) 2 := ⟨⟨inT mt_1 15 (by decide +kernel) rfl, inT mt_10 50 rfl rfl, ⟨by decide +kernel, by decide +kernel⟩, by decide +kernel⟩, inT mt_10 49 (by decide +kernel) rfl⟩
theorem kcX12_163 : Cond.constantLong RX12 163 (588499194438350805) ∈ TBL := inT mt_10 51 (by decide +kernel) rfl
theorem mlX12_328 : ML RX12 328 yX12_glyph := Or.inl (inT mt_10 52 (by decide +kernel) rfl)
set_option maxRecDepth 100000 in
theorem mcX12_glyph : MCv yX12_glyph cX12_glyph 8 none 3 := ⟨⟨inT mt_1 15 (by decide +kernel) rfl, inT mt_10 55 rfl rfl, ⟨by decide +kernel, by decide +kernel⟩, by decide +kernel⟩, inT mt_10 54 (by decide +kernel) rfl, inT mt_0 149 (by decide +kernel) rfl⟩
theorem mlX12_364 : ML RX12 364 yX12_readValue := Or.inl (inT mt_10 56 (by decide +kernel) rfl)
set_option maxRecDepth 100000 in
theorem mcX12_readValue : MCv yX12_readValue cX12_readValue 7 none 0 := ⟨⟨inT mt_1 15 (by decide +kernel) rfl, inT mt_10 59 rfl rfl, ⟨by decide +kernel, by decide +kernel⟩, by decide +kernel⟩, inT mt_10 58 (by decide +kernel) rfl, inT mt_0 150 (by decide +kernel) rfl⟩
theorem kcX12_382 : Cond.constantLong RX12 382 (10000) ∈ TBL := inT mt_10 60 (by decide +kernel) rfl
theorem mlX12_367 : ML RX12 367 yX12_withData := Or.inl (inT mt_10 61 (by decide +kernel) rfl)
set_option maxRecDepth 100000 in
theorem mcX12_withData : MCv yX12_withData cX12_withData 7 none 3 := ⟨⟨inT mt_1 15 (by decide +kernel) rfl, inT mt_10 64 rfl rfl, ⟨by decide +kernel, by decide +kernel⟩, by decide +kernel⟩, inT mt_10 63 (by decide +kernel) rfl, inT mt_0 151 (by decide +kernel) rfl⟩
theorem mlX12_472 : ML RX12 472 yX12_fontData := Or.inl (inT mt_10 65 (by decide +kernel) rfl)
set_option maxRecDepth 100000 in
theorem mcX12_fontData : MCv yX12_fontData cX12_fontData 4 none 1 := ⟨⟨inT mt_1 15 (by decide +kernel) rfl, inT mt_10 68 rfl rfl, ⟨by decide +kernel, by decide +kernel⟩, by decide +kernel⟩, inT mt_10 67 (by decide +kernel) rfl, inT mt_0 152 (by decide +kernel) rfl⟩
theorem mlX12_484 : ML RX12 484 yX12_dataAt := Or.inl (inT mt_10 69 (by decide +kernel) rfl)
set_option maxRecDepth 100000 in
theorem mcX12_dataAt : MCv yX12_dataAt cX12_dataAt 2 (some .int) 1 := ⟨⟨inT mt_1 15 (by decide +kernel) rfl, inT mt_10 72 rfl rfl, ⟨by decide +kernel, by decide +kernel⟩, by decide +kernel⟩, inT mt_10 71 (by decide +kernel) rfl, inT mt_0 153 (by decide +kernel) rfl⟩
theorem mlX12_487 : ML RX12 487 yX12_signedAt := Or.inl (inT mt_10 73 (by decide +kernel) rfl)
set_option maxRecDepth 100000 in
theorem mcX12_signedAt : MCv yX12_signedAt cX12_signedAt 2 (some .int) 1 := ⟨⟨inT mt_1 15 (by decide +kernel) rfl, inT mt_10 76 rfl rfl, ⟨by decide +kernel, by decide +kernel⟩, by decide +kernel⟩, inT mt_10 75 (by decide +kernel) rfl, inT mt_0 154 (by decide +kernel) rfl⟩
theorem mlX12_475 : ML RX12 475 yX12_glyphData := Or.inl (inT mt_10 77 (by decide +kernel) rfl)
set_option maxRecDepth 100000 in
theorem mcX12_glyphData : MCv yX12_glyphData cX12_glyphData 13 none 1 := ⟨⟨inT mt_1 15 (by decide +kernel) rfl, inT mt_10 80 rfl rfl, ⟨by decide +kernel, by decide +kernel⟩, by decide +kernel⟩, inT mt_10 79 (by decide +kernel) rfl, inT mt_0 155 (by decide +kernel) rfl⟩
theorem mlX12_478 : ML RX12 478 yX12_userData := Or.inl (inT mt_10 81 (by decide +kernel) rfl)
set_option maxRecDepth 100000 in
theorem mcX12_userData : MCv yX12_userData cX12_userData 9 none 1 := ⟨⟨inT mt_1 15 (by decide +kernel) rfl, inT mt_10 84 rfl rfl, ⟨by decide +kernel, by decide +kernel⟩, by decide +kernel⟩, inT mt_10 83 (by decide +kernel) rfl, inT mt_0 156 (by decide +kernel) rfl⟩
theorem mlX12_481 : ML RX12 481 yX12_rowData := Or.inl (inT mt_10 85 (by decide +kernel) rfl)
set_option maxRecDepth 100000 in
theorem mcX12_rowData : MCv yX12_rowData cX12_rowData 9 none 1 := ⟨⟨inT mt_1 15 (by decide +kernel) rfl, inT mt_10 88 rfl rfl, ⟨by decide +kernel, by decide +kernel⟩, by decide +kernel⟩, inT mt_10 87 (by decide +kernel) rfl, inT mt_0 157 (by decide +kernel) rfl⟩
theorem mlX12_490 : ML RX12 490 yX12_begin := Or.inl (inT mt_10 89 (by decide +kernel) rfl)
set_option maxRecDepth 100000 in
theorem mcX12_begin : MCv yX12_begin cX12_begin 3 none 1 := ⟨⟨inT mt_1 15 (by decide +kernel) rfl, inT mt_10 92 rfl rfl, ⟨by decide +kernel, by decide +kernel⟩, by decide +kernel⟩, inT mt_10 91 (by decide +kernel) rfl, inT mt_0 158 (by decide +kernel) rfl⟩
theorem mlX12_493 : ML RX12 493 yX12_unpack := Or.inl (inT mt_10 93 (by decide +kernel) rfl)
set_option maxRecDepth 100000 in
theorem mcX12_unpack : MCv yX12_unpack cX12_unpack 5 none 1 := ⟨⟨inT mt_1 15 (by decide +kernel) rfl, inT mt_10 96 rfl rfl, ⟨by decide +kernel, by decide +kernel⟩, by decide +kernel⟩, inT mt_10 95 (by decide +kernel) rfl, inT mt_0 159 (by decide +kernel) rfl⟩
theorem mlX12_499 : ML RX12 499 yX12_changed := Or.inl (inT mt_10 97 (by decide +kernel) rfl)
set_option maxRecDepth 100000 in
theorem mcX12_changed : MCv yX12_changed cX12_changed 8 none 1 := ⟨⟨inT mt_1 15 (by decide +kernel) rfl, inT mt_10 100 rfl rfl, ⟨by decide +kernel, by decide +kernel⟩, by decide +kernel⟩, inT mt_10 99 (by decide +kernel) rfl, inT mt_0 160 (by decide +kernel) rfl⟩
theorem mlX12_502 : ML RX12 502 yX12_fill := Or.inl (inT mt_10 101 (by decide +kernel) rfl)
set_option maxRecDepth 100000 in
theorem mcX12_fill : MCv yX12_fill cX12_fill 2 none 1 := ⟨⟨inT mt_1 15 (by decide +kernel) rfl, inT mt_10 104 rfl rfl, ⟨by decide +kernel, by decide +kernel⟩, by decide +kernel⟩, inT mt_10 103 (by decide +kernel) rfl, inT mt_0 161 (by decide +kernel) rfl⟩
theorem mlX12_373 : ML RX12 373 yX12_field := Or.inl (inT mt_10 105 (by decide +kernel) rfl)
set_option maxRecDepth 100000 in
theorem mcX12_field : MCv yX12_field cX12_field 4 none 3 := ⟨⟨inT mt_1 15 (by decide +kernel) rfl, inT mt_10 108 rfl rfl, ⟨by decide +kernel, by decide +kernel⟩, by decide +kernel⟩, inT mt_10 107 (by decide +kernel) rfl, inT mt_0 162 (by decide +kernel) rfl⟩
theorem mlX12_396 : ML RX12 396 yX12_pageField := Or.inl (inT mt_10 109 (by decide +kernel) rfl)
set_option maxRecDepth 100000 in
theorem mcX12_pageField : MCv yX12_pageField cX12_pageField 3 none 1 := ⟨⟨inT mt_1 15 (by decide +kernel) rfl, inT mt_10 112 rfl rfl, ⟨by decide +kernel, by decide +kernel⟩, by decide +kernel⟩, inT mt_10 111 (by decide +kernel) rfl, inT mt_0 163 (by decide +kernel) rfl⟩
theorem kcX12_431 : Cond.constantLong RX12 431 (150) ∈ TBL := inT mt_10 113 (by decide +kernel) rfl
theorem mlX12_404 : ML RX12 404 yX12_units := Or.inl (inT mt_10 114 (by decide +kernel) rfl)
set_option maxRecDepth 100000 in
theorem mcX12_units : MCv yX12_units cX12_units 3 (some .long) 1 := ⟨⟨inT mt_1 15 (by decide +kernel) rfl, inT mt_10 117 rfl rfl, ⟨by decide +kernel, by decide +kernel⟩, by decide +kernel⟩, inT mt_10 116 (by decide +kernel) rfl, inT mt_0 164 (by decide +kernel) rfl⟩
theorem kcX12_408 : Cond.constantLong RX12 408 (32000) ∈ TBL := inT mt_10 118 (by decide +kernel) rfl
theorem mlX12_399 : ML RX12 399 yX12_placeField := Or.inl (inT mt_10 119 (by decide +kernel) rfl)
set_option maxRecDepth 100000 in
theorem mcX12_placeField : MCv yX12_placeField cX12_placeField 2 none 1 := ⟨⟨inT mt_1 15 (by decide +kernel) rfl, inT mt_10 122 rfl rfl, ⟨by decide +kernel, by decide +kernel⟩, by decide +kernel⟩, inT mt_10 121 (by decide +kernel) rfl, inT mt_0 165 (by decide +kernel) rfl⟩
theorem kcX12_433 : Cond.constantLong RX12 433 (10) ∈ TBL := inT mt_10 123 (by decide +kernel) rfl
theorem kcX12_402 : Cond.constantLong RX12 402 (60) ∈ TBL := inT mt_10 124 (by decide +kernel) rfl
theorem mlX12_410 : ML RX12 410 yX12_macroField := Or.inl (inT mt_10 125 (by decide +kernel) rfl)
set_option maxRecDepth 100000 in
theorem mcX12_macroField : MCv yX12_macroField cX12_macroField 2 none 1 := ⟨⟨inT mt_1 15 (by decide +kernel) rfl, inT mt_10 128 rfl rfl, ⟨by decide +kernel, by decide +kernel⟩, by decide +kernel⟩, inT mt_10 127 (by decide +kernel) rfl, inT mt_0 166 (by decide +kernel) rfl⟩
theorem mlX12_435 : ML RX12 435 yX12_macroAct := Or.inl (inT mt_10 129 (by decide +kernel) rfl)
set_option maxRecDepth 100000 in
theorem mcX12_macroAct : MCv yX12_macroAct cX12_macroAct 3 none 0 := ⟨⟨inT mt_1 15 (by decide +kernel) rfl, inT mt_10 132 rfl rfl, ⟨by decide +kernel, by decide +kernel⟩, by decide +kernel⟩, inT mt_10 131 (by decide +kernel) rfl, inT mt_0 167 (by decide +kernel) rfl⟩
theorem mlX12_438 : ML RX12 438 yX12_define := Or.inl (inT mt_10 133 (by decide +kernel) rfl)
set_option maxRecDepth 100000 in
theorem mcX12_define : MCv yX12_define cX12_define 5 none 1 := ⟨⟨inT mt_1 15 (by decide +kernel) rfl, inT mt_10 136 rfl rfl, ⟨by decide +kernel, by decide +kernel⟩, by decide +kernel⟩, inT mt_10 135 (by decide +kernel) rfl, inT mt_0 168 (by decide +kernel) rfl⟩
theorem mlX12_441 : ML RX12 441 yX12_endsMacro := Or.inl (inT mt_10 137 (by decide +kernel) rfl)
set_option maxRecDepth 100000 in
theorem mcX12_endsMacro : MCv yX12_endsMacro cX12_endsMacro 2 (some .boolean) 1 := ⟨⟨inT mt_1 15 (by decide +kernel) rfl, inT mt_10 140 rfl rfl, ⟨by decide +kernel, by decide +kernel⟩, by decide +kernel⟩, inT mt_10 139 (by decide +kernel) rfl, inT mt_0 169 (by decide +kernel) rfl⟩
theorem mlX12_413 : ML RX12 413 yX12_dotField := Or.inl (inT mt_10 141 (by decide +kernel) rfl)
set_option maxRecDepth 100000 in
theorem mcX12_dotField : MCv yX12_dotField cX12_dotField 2 none 1 := ⟨⟨inT mt_1 15 (by decide +kernel) rfl, inT mt_10 144 rfl rfl, ⟨by decide +kernel, by decide +kernel⟩, by decide +kernel⟩, inT mt_10 143 (by decide +kernel) rfl, inT mt_0 170 (by decide +kernel) rfl⟩
theorem mlX12_416 : ML RX12 416 yX12_modelField := Or.inl (inT mt_10 145 (by decide +kernel) rfl)
set_option maxRecDepth 100000 in
theorem mcX12_modelField : MCv yX12_modelField cX12_modelField 2 none 1 := ⟨⟨inT mt_1 15 (by decide +kernel) rfl, inT mt_10 148 rfl rfl, ⟨by decide +kernel, by decide +kernel⟩, by decide +kernel⟩, inT mt_10 147 (by decide +kernel) rfl, inT mt_0 171 (by decide +kernel) rfl⟩
theorem mlX12_445 : ML RX12 445 yX12_hasPattern := Or.inl (inT mt_10 149 (by decide +kernel) rfl)
set_option maxRecDepth 100000 in
theorem mcX12_hasPattern : MCv yX12_hasPattern cX12_hasPattern 3 (some .boolean) 2 := ⟨⟨inT mt_1 15 (by decide +kernel) rfl, inT mt_10 152 rfl rfl, ⟨by decide +kernel, by decide +kernel⟩, by decide +kernel⟩, inT mt_10 151 (by decide +kernel) rfl, inT mt_0 172 (by decide +kernel) rfl⟩
theorem mlX12_449 : ML RX12 449 yX12_putPattern := Or.inl (inT mt_10 153 (by decide +kernel) rfl)
set_option maxRecDepth 100000 in
theorem mcX12_putPattern : MCv yX12_putPattern cX12_putPattern 6 none 4 := ⟨⟨inT mt_1 15 (by decide +kernel) rfl, inT mt_10 156 rfl rfl, ⟨by decide +kernel, by decide +kernel⟩, by decide +kernel⟩, inT mt_10 155 (by decide +kernel) rfl, inT mt_0 173 (by decide +kernel) rfl⟩
theorem mlX12_419 : ML RX12 419 yX12_thingField := Or.inl (inT mt_10 157 (by decide +kernel) rfl)
set_option maxRecDepth 100000 in
theorem mcX12_thingField : MCv yX12_thingField cX12_thingField 2 none 1 := ⟨⟨inT mt_1 15 (by decide +kernel) rfl, inT mt_10 160 rfl rfl, ⟨by decide +kernel, by decide +kernel⟩, by decide +kernel⟩, inT mt_10 159 (by decide +kernel) rfl, inT mt_0 174 (by decide +kernel) rfl⟩
theorem mlX12_455 : ML RX12 455 yX12_dotsUp := Or.inl (inT mt_10 161 (by decide +kernel) rfl)
set_option maxRecDepth 100000 in
theorem mcX12_dotsUp : MCs yX12_dotsUp cX12_dotsUp 2 (some .int) 1 := ⟨⟨inT mt_1 15 (by decide +kernel) rfl, inT mt_10 163 rfl rfl, ⟨by decide +kernel, by decide +kernel⟩, by decide +kernel⟩, inT mt_10 162 (by decide +kernel) rfl⟩
theorem kcX12_453 : Cond.constantLong RX12 453 (95) ∈ TBL := inT mt_10 164 (by decide +kernel) rfl
theorem mlX12_459 : ML RX12 459 yX12_rectangle := Or.inl (inT mt_10 165 (by decide +kernel) rfl)
set_option maxRecDepth 100000 in
theorem mcX12_rectangle : MCv yX12_rectangle cX12_rectangle 7 none 0 := ⟨⟨inT mt_1 15 (by decide +kernel) rfl, inT mt_10 168 rfl rfl, ⟨by decide +kernel, by decide +kernel⟩, by decide +kernel⟩, inT mt_10 167 (by decide +kernel) rfl, inT mt_0 175 (by decide +kernel) rfl⟩
theorem mlX12_462 : ML RX12 462 yX12_fontAct := Or.inl (inT mt_10 169 (by decide +kernel) rfl)
set_option maxRecDepth 100000 in
theorem mcX12_fontAct : MCv yX12_fontAct cX12_fontAct 2 none 0 := ⟨⟨inT mt_1 15 (by decide +kernel) rfl, inT mt_10 172 rfl rfl, ⟨by decide +kernel, by decide +kernel⟩, by decide +kernel⟩, inT mt_10 171 (by decide +kernel) rfl, inT mt_0 176 (by decide +kernel) rfl⟩
theorem mlX12_465 : ML RX12 465 yX12_userAct := Or.inl (inT mt_10 173 (by decide +kernel) rfl)
set_option maxRecDepth 100000 in
theorem mcX12_userAct : MCv yX12_userAct cX12_userAct 3 none 0 := ⟨⟨inT mt_1 15 (by decide +kernel) rfl, inT mt_10 176 rfl rfl, ⟨by decide +kernel, by decide +kernel⟩, by decide +kernel⟩, inT mt_10 175 (by decide +kernel) rfl, inT mt_0 177 (by decide +kernel) rfl⟩
theorem mlX12_422 : ML RX12 422 yX12_rasterField := Or.inl (inT mt_10 177 (by decide +kernel) rfl)
set_option maxRecDepth 100000 in
theorem mcX12_rasterField : MCv yX12_rasterField cX12_rasterField 2 none 1 := ⟨⟨inT mt_1 15 (by decide +kernel) rfl, inT mt_10 180 rfl rfl, ⟨by decide +kernel, by decide +kernel⟩, by decide +kernel⟩, inT mt_10 179 (by decide +kernel) rfl, inT mt_0 178 (by decide +kernel) rfl⟩
theorem mlX12_425 : ML RX12 425 yX12_rowField := Or.inl (inT mt_10 181 (by decide +kernel) rfl)
set_option maxRecDepth 100000 in
theorem mcX12_rowField : MCv yX12_rowField cX12_rowField 4 none 1 := ⟨⟨inT mt_1 15 (by decide +kernel) rfl, inT mt_10 184 rfl rfl, ⟨by decide +kernel, by decide +kernel⟩, by decide +kernel⟩, inT mt_10 183 (by decide +kernel) rfl, inT mt_0 179 (by decide +kernel) rfl⟩
theorem mlX12_428 : ML RX12 428 yX12_fontField := Or.inl (inT mt_10 185 (by decide +kernel) rfl)
set_option maxRecDepth 100000 in
theorem mcX12_fontField : MCv yX12_fontField cX12_fontField 8 none 3 := ⟨⟨inT mt_1 15 (by decide +kernel) rfl, inT mt_10 188 rfl rfl, ⟨by decide +kernel, by decide +kernel⟩, by decide +kernel⟩, inT mt_10 187 (by decide +kernel) rfl, inT mt_0 180 (by decide +kernel) rfl⟩
theorem kcX12_468 : Cond.constantLong RX12 468 (72000000) ∈ TBL := inT mt_10 189 (by decide +kernel) rfl
theorem kcX12_470 : Cond.constantLong RX12 470 (7200) ∈ TBL := inT mt_10 190 (by decide +kernel) rfl
theorem mlX12_295 : ML RX12 295 yX12_plain := Or.inl (inT mt_10 191 (by decide +kernel) rfl)
set_option maxRecDepth 100000 in
theorem mcX12_plain : MCv yX12_plain cX12_plain 2 none 1 := ⟨⟨inT mt_1 15 (by decide +kernel) rfl, inT mt_10 194 rfl rfl, ⟨by decide +kernel, by decide +kernel⟩, by decide +kernel⟩, inT mt_10 193 (by decide +kernel) rfl, inT mt_0 181 (by decide +kernel) rfl⟩
theorem mlX12_301 : ML RX12 301 yX12_tab := Or.inl (inT mt_10 195 (by decide +kernel) rfl)
set_option maxRecDepth 100000 in
theorem mcX12_tab : MCv yX12_tab cX12_tab 5 none 0 := ⟨⟨inT mt_1 15 (by decide +kernel) rfl, inT mt_10 198 rfl rfl, ⟨by decide +kernel, by decide +kernel⟩, by decide +kernel⟩, inT mt_10 197 (by decide +kernel) rfl, inT mt_0 182 (by decide +kernel) rfl⟩
theorem mlX12_658 : ML RX12 658 yX12_pictures := Or.inl (inT mt_10 199 (by decide +kernel) rfl)
set_option maxRecDepth 100000 in
theorem mcX12_pictures : MCv yX12_pictures cX12_pictures 14 (some .boolean) 1 := ⟨⟨inT mt_1 15 (by decide +kernel) rfl, inT mt_10 202 rfl rfl, ⟨by decide +kernel, by decide +kernel⟩, by decide +kernel⟩, inT mt_10 201 (by decide +kernel) rfl, inT mt_0 183 (by decide +kernel) rfl⟩
theorem mlX12_592 : ML RX12 592 yX12_wrong := Or.inl (inT mt_10 203 (by decide +kernel) rfl)
set_option maxRecDepth 100000 in
theorem mcX12_wrong : MCv yX12_wrong cX12_wrong 3 (some .boolean) 2 := ⟨⟨inT mt_1 15 (by decide +kernel) rfl, inT mt_10 206 rfl rfl, ⟨by decide +kernel, by decide +kernel⟩, by decide +kernel⟩, inT mt_10 205 (by decide +kernel) rfl, inT mt_0 184 (by decide +kernel) rfl⟩
theorem mlX12_595 : ML RX12 595 yX12_picture := Or.inl (inT mt_10 207 (by decide +kernel) rfl)
set_option maxRecDepth 100000 in
theorem mcX12_picture : MCv yX12_picture cX12_picture 7 (some .long) 2 := ⟨⟨inT mt_1 15 (by decide +kernel) rfl, inT mt_10 210 rfl rfl, ⟨by decide +kernel, by decide +kernel⟩, by decide +kernel⟩, inT mt_10 209 (by decide +kernel) rfl, inT mt_0 185 (by decide +kernel) rfl⟩
theorem kcX12_601 : Cond.constantLong RX12 601 (12) ∈ TBL := inT mt_10 211 (by decide +kernel) rfl
theorem kcX12_603 : Cond.constantLong RX12 603 (4) ∈ TBL := inT mt_10 212 (by decide +kernel) rfl
theorem kcX12_605 : Cond.constantLong RX12 605 (-1) ∈ TBL := inT mt_10 213 (by decide +kernel) rfl
theorem mlX12_607 : ML RX12 607 yX12_directory := Or.inl (inT mt_10 214 (by decide +kernel) rfl)
set_option maxRecDepth 100000 in
theorem mcX12_directory : MCv yX12_directory cX12_directory 16 (some .boolean) 2 := ⟨⟨inT mt_1 15 (by decide +kernel) rfl, inT mt_10 217 rfl rfl, ⟨by decide +kernel, by decide +kernel⟩, by decide +kernel⟩, inT mt_10 216 (by decide +kernel) rfl, inT mt_0 186 (by decide +kernel) rfl⟩
theorem mlX12_616 : ML RX12 616 yX12_isLooked := Or.inl (inT mt_10 218 (by decide +kernel) rfl)
set_option maxRecDepth 100000 in
theorem mcX12_isLooked : MCs yX12_isLooked cX12_isLooked 1 (some .boolean) 1 := ⟨⟨inT mt_1 15 (by decide +kernel) rfl, inT mt_10 220 rfl rfl, ⟨by decide +kernel, by decide +kernel⟩, by decide +kernel⟩, inT mt_10 219 (by decide +kernel) rfl⟩
theorem kcX12_610 : Cond.constantLong RX12 610 (3) ∈ TBL := inT mt_10 221 (by decide +kernel) rfl
theorem mlX12_619 : ML RX12 619 yX12_valueOf := Or.inl (inT mt_10 222 (by decide +kernel) rfl)
set_option maxRecDepth 100000 in
theorem mcX12_valueOf : MCv yX12_valueOf cX12_valueOf 7 (some .long) 2 := ⟨⟨inT mt_1 15 (by decide +kernel) rfl, inT mt_10 225 rfl rfl, ⟨by decide +kernel, by decide +kernel⟩, by decide +kernel⟩, inT mt_10 224 (by decide +kernel) rfl, inT mt_0 187 (by decide +kernel) rfl⟩
theorem mlX12_622 : ML RX12 622 yX12_isMay := Or.inl (inT mt_10 226 (by decide +kernel) rfl)
set_option maxRecDepth 100000 in
theorem mcX12_isMay : MCs yX12_isMay cX12_isMay 3 (some .boolean) 2 := ⟨⟨inT mt_1 15 (by decide +kernel) rfl, inT mt_10 228 rfl rfl, ⟨by decide +kernel, by decide +kernel⟩, by decide +kernel⟩, inT mt_10 227 (by decide +kernel) rfl⟩
theorem kcX12_612 : Cond.constantLong RX12 612 (640) ∈ TBL := inT mt_10 229 (by decide +kernel) rfl
theorem kcX12_614 : Cond.constantLong RX12 614 (800) ∈ TBL := inT mt_10 230 (by decide +kernel) rfl
theorem mlX12_638 : ML RX12 638 yX12_readRow_ := Or.inl (inT mt_10 231 (by decide +kernel) rfl)
set_option maxRecDepth 100000 in
theorem mcX12_readRow_ : MCv yX12_readRow_ cX12_readRow_ 4 (some .boolean) 0 := ⟨⟨inT mt_1 15 (by decide +kernel) rfl, inT mt_10 234 rfl rfl, ⟨by decide +kernel, by decide +kernel⟩, by decide +kernel⟩, inT mt_10 233 (by decide +kernel) rfl, inT mt_0 188 (by decide +kernel) rfl⟩
theorem mlX12_646 : ML RX12 646 yX12_mode := Or.inl (inT mt_10 235 (by decide +kernel) rfl)
set_option maxRecDepth 100000 in
theorem mcX12_mode : MCv yX12_mode cX12_mode 5 (some .int) 0 := ⟨⟨inT mt_1 15 (by decide +kernel) rfl, inT mt_10 238 rfl rfl, ⟨by decide +kernel, by decide +kernel⟩, by decide +kernel⟩, inT mt_10 237 (by decide +kernel) rfl, inT mt_0 189 (by decide +kernel) rfl⟩
theorem mlX12_643 : ML RX12 643 yX12_bit := Or.inl (inT mt_10 239 (by decide +kernel) rfl)
set_option maxRecDepth 100000 in
theorem mcX12_bit : MCv yX12_bit cX12_bit 3 (some .int) 0 := ⟨⟨inT mt_1 15 (by decide +kernel) rfl, inT mt_11 2 rfl rfl, ⟨by decide +kernel, by decide +kernel⟩, by decide +kernel⟩, inT mt_11 1 (by decide +kernel) rfl, inT mt_0 190 (by decide +kernel) rfl⟩
theorem mlX12_649 : ML RX12 649 yX12_readRun := Or.inl (inT mt_11 3 (by decide +kernel) rfl)
set_option maxRecDepth 100000 in
theorem mcX12_readRun : MCv yX12_readRun cX12_readRun 5 (some .int) 1 := ⟨⟨inT mt_1 15 (by decide +kernel) rfl, inT mt_11 6 rfl rfl, ⟨by decide +kernel, by decide +kernel⟩, by decide +kernel⟩, inT mt_11 5 (by decide +kernel) rfl, inT mt_0 191 (by decide +kernel) rfl⟩
theorem mlX12_640 : ML RX12 640 yX12_oneRun := Or.inl (inT mt_11 7 (by decide +kernel) rfl)
set_option maxRecDepth 100000 in
theorem mcX12_oneRun : MCv yX12_oneRun cX12_oneRun 6 (some .int) 1 := ⟨⟨inT mt_1 15 (by decide +kernel) rfl, inT mt_11 10 rfl rfl, ⟨by decide +kernel, by decide +kernel⟩, by decide +kernel⟩, inT mt_11 9 (by decide +kernel) rfl, inT mt_0 192 (by decide +kernel) rfl⟩
theorem mlX12_652 : ML RX12 652 yX12_paint := Or.inl (inT mt_11 11 (by decide +kernel) rfl)
set_option maxRecDepth 100000 in
theorem mcX12_paint : MCv yX12_paint cX12_paint 3 none 2 := ⟨⟨inT mt_1 15 (by decide +kernel) rfl, inT mt_11 14 rfl rfl, ⟨by decide +kernel, by decide +kernel⟩, by decide +kernel⟩, inT mt_11 13 (by decide +kernel) rfl, inT mt_0 193 (by decide +kernel) rfl⟩
theorem mlL_39 : ML RL 39 yX12_fault := Or.inl (inT mt_11 15 (by decide +kernel) rfl)
set_option maxRecDepth 100000 in
theorem mcX12_fault : MCv yX12_fault cX12_fault 2 (some .int) 1 := ⟨⟨inT mt_1 15 (by decide +kernel) rfl, inT mt_11 18 rfl rfl, ⟨by decide +kernel, by decide +kernel⟩, by decide +kernel⟩, inT mt_11 16 (by decide +kernel) rfl, inT mt_11 17 (by decide +kernel) rfl⟩
theorem mlL_43 : ML RL 43 yX12_outs := Or.inl (inT mt_11 19 (by decide +kernel) rfl)
set_option maxRecDepth 100000 in
theorem mcX12_outs : MCv yX12_outs cX12_outs 1 (some .int) 0 := ⟨⟨inT mt_1 15 (by decide +kernel) rfl, inT mt_11 22 rfl rfl, ⟨by decide +kernel, by decide +kernel⟩, by decide +kernel⟩, inT mt_11 20 (by decide +kernel) rfl, inT mt_11 21 (by decide +kernel) rfl⟩
theorem mlL_47 : ML RL 47 yX12_out := Or.inl (inT mt_11 23 (by decide +kernel) rfl)
set_option maxRecDepth 100000 in
theorem mcX12_out : MCv yX12_out cX12_out 2 (some .int) 1 := ⟨⟨inT mt_1 15 (by decide +kernel) rfl, inT mt_11 26 rfl rfl, ⟨by decide +kernel, by decide +kernel⟩, by decide +kernel⟩, inT mt_11 24 (by decide +kernel) rfl, inT mt_11 25 (by decide +kernel) rfl⟩
theorem mlL_51 : ML RL 51 yX12_sum := Or.inl (inT mt_11 27 (by decide +kernel) rfl)
set_option maxRecDepth 100000 in
theorem mcX12_sum : MCv yX12_sum cX12_sum 3 (some .int) 0 := ⟨⟨inT mt_1 15 (by decide +kernel) rfl, inT mt_11 30 rfl rfl, ⟨by decide +kernel, by decide +kernel⟩, by decide +kernel⟩, inT mt_11 28 (by decide +kernel) rfl, inT mt_11 29 (by decide +kernel) rfl⟩
theorem mlL_55 : ML RL 55 yX12_take := Or.inl (inT mt_11 31 (by decide +kernel) rfl)
set_option maxRecDepth 100000 in
theorem mcX12_take : MCv yX12_take cX12_take 2 (some .int) 0 := ⟨⟨inT mt_1 15 (by decide +kernel) rfl, inT mt_11 34 rfl rfl, ⟨by decide +kernel, by decide +kernel⟩, by decide +kernel⟩, inT mt_11 32 (by decide +kernel) rfl, inT mt_11 33 (by decide +kernel) rfl⟩
theorem mlL_59 : ML RL 59 yX12_pages := Or.inl (inT mt_11 35 (by decide +kernel) rfl)
set_option maxRecDepth 100000 in
theorem mcX12_pages : MCv yX12_pages cX12_pages 1 (some .int) 0 := ⟨⟨inT mt_1 15 (by decide +kernel) rfl, inT mt_11 38 rfl rfl, ⟨by decide +kernel, by decide +kernel⟩, by decide +kernel⟩, inT mt_11 36 (by decide +kernel) rfl, inT mt_11 37 (by decide +kernel) rfl⟩
theorem mlL_63 : ML RL 63 yX12_width := Or.inl (inT mt_11 39 (by decide +kernel) rfl)
set_option maxRecDepth 100000 in
theorem mcX12_width : MCv yX12_width cX12_width 2 (some .int) 1 := ⟨⟨inT mt_1 15 (by decide +kernel) rfl, inT mt_11 42 rfl rfl, ⟨by decide +kernel, by decide +kernel⟩, by decide +kernel⟩, inT mt_11 40 (by decide +kernel) rfl, inT mt_11 41 (by decide +kernel) rfl⟩
theorem mlL_67 : ML RL 67 yX12_height := Or.inl (inT mt_11 43 (by decide +kernel) rfl)
set_option maxRecDepth 100000 in
theorem mcX12_height : MCv yX12_height cX12_height 2 (some .int) 1 := ⟨⟨inT mt_1 15 (by decide +kernel) rfl, inT mt_11 46 rfl rfl, ⟨by decide +kernel, by decide +kernel⟩, by decide +kernel⟩, inT mt_11 44 (by decide +kernel) rfl, inT mt_11 45 (by decide +kernel) rfl⟩
theorem mlL_72 : ML RL 72 yX12_dot := Or.inl (inT mt_11 47 (by decide +kernel) rfl)
set_option maxRecDepth 100000 in
theorem mcX12_dot : MCv yX12_dot cX12_dot 4 (some .int) 3 := ⟨⟨inT mt_1 15 (by decide +kernel) rfl, inT mt_11 50 rfl rfl, ⟨by decide +kernel, by decide +kernel⟩, by decide +kernel⟩, inT mt_11 48 (by decide +kernel) rfl, inT mt_11 49 (by decide +kernel) rfl⟩
theorem mlL_77 : ML RL 77 yX12_black := Or.inl (inT mt_11 51 (by decide +kernel) rfl)
set_option maxRecDepth 100000 in
theorem mcX12_black : MCv yX12_black cX12_black 5 (some .int) 2 := ⟨⟨inT mt_1 15 (by decide +kernel) rfl, inT mt_11 54 rfl rfl, ⟨by decide +kernel, by decide +kernel⟩, by decide +kernel⟩, inT mt_11 52 (by decide +kernel) rfl, inT mt_11 53 (by decide +kernel) rfl⟩
theorem mlL_81 : ML RL 81 yX12_state := Or.inl (inT mt_11 55 (by decide +kernel) rfl)
set_option maxRecDepth 100000 in
theorem mcX12_state : MCv yX12_state cX12_state 2 (some .int) 1 := ⟨⟨inT mt_1 15 (by decide +kernel) rfl, inT mt_11 58 rfl rfl, ⟨by decide +kernel, by decide +kernel⟩, by decide +kernel⟩, inT mt_11 56 (by decide +kernel) rfl, inT mt_11 57 (by decide +kernel) rfl⟩
theorem mlL_85 : ML RL 85 yX12_held := Or.inl (inT mt_11 59 (by decide +kernel) rfl)
set_option maxRecDepth 100000 in
theorem mcX12_held : MCv yX12_held cX12_held 4 (some .int) 1 := ⟨⟨inT mt_1 15 (by decide +kernel) rfl, inT mt_11 62 rfl rfl, ⟨by decide +kernel, by decide +kernel⟩, by decide +kernel⟩, inT mt_11 60 (by decide +kernel) rfl, inT mt_11 61 (by decide +kernel) rfl⟩
theorem mlL_89 : ML RL 89 yX12_off := Or.inl (inT mt_11 63 (by decide +kernel) rfl)
set_option maxRecDepth 100000 in
theorem mcX12_off : MCv yX12_off cX12_off 2 (some .int) 0 := ⟨⟨inT mt_1 15 (by decide +kernel) rfl, inT mt_11 66 rfl rfl, ⟨by decide +kernel, by decide +kernel⟩, by decide +kernel⟩, inT mt_11 64 (by decide +kernel) rfl, inT mt_11 65 (by decide +kernel) rfl⟩
theorem mlX12_664 : ML RX12 664 yX12_held := Or.inl (inT mt_11 67 (by decide +kernel) rfl)
theorem gsJ0_9 : Cond.fieldLink RJ0 9 "java/lang/String" "value" "[B" ∈ TBL := inT mt_11 68 (by decide +kernel) rfl
theorem gsJ0_15 : Cond.fieldLink RJ0 15 "java/lang/String" "coder" "B" ∈ TBL := inT mt_11 69 (by decide +kernel) rfl
theorem oi_inst : Cond.instanceMethod objectInit ∈ TBL := inT mt_1 28 (by decide +kernel) rfl
set_option maxRecDepth 100000 in
theorem oi_code : Cond.code objectInit ⟨#[0xb1]⟩ 1 none ∈ TBL := inT mt_1 29 rfl rfl
theorem ac_nat : Cond.native arraycopyName ∈ TBL := inT mt_1 188 (by decide +kernel) rfl
theorem ac_sta : Cond.static arraycopyName ∈ TBL := inT mt_1 187 (by decide +kernel) rfl
theorem ac_ini : Cond.initialized "java/lang/System" ∈ TBL := inT mt_1 9 (by decide +kernel) rfl
end
section
/-! Static arrays and texts that nobody writes; 
-/
def st_FORMAT_WIDE : List Int32 := [200, 320, 480, 640]
def st_FORMAT_HIGH : List Int32 := [240, 400, 640, 800]
def st_RUN_BITS : List Int32 := [8, 6, 4, 4, 4, 4, 4, 4, 5, 5, 5, 5, 6, 6, 6, 6, 6, 6, 7, 7, 7, 7, 7, 7, 7, 7, 7, 7, 7, 8, 8, 8, 8, 8, 8, 8, 8, 8, 8, 8, 8, 8, 8, 8, 8, 8, 8, 8, 8, 8, 8, 8, 8, 8, 8, 8, 8, 8, 8, 8, 8, 8, 8, 8, 5, 5, 6, 7, 8, 8, 8, 8, 8, 8, 10, 3, 2, 2, 3, 4, 4, 5, 6, 6, 7, 7, 7, 8, 8, 9, 10, 10, 10, 11, 11, 11, 11, 11, 11, 11, 12, 12, 12, 12, 12, 12, 12, 12, 12, 12, 12, 12, 12, 12, 12, 12, 12, 12, 12, 12, 12, 12, 12, 12, 12, 12, 12, 12, 12, 12, 12, 12, 12, 12, 12, 12, 12, 12, 10, 12, 12, 12, 12, 12, 12, 13, 13, 13]
def st_RUN_CODES : List Int32 := [53, 7, 7, 8, 11, 12, 14, 15, 19, 20, 7, 8, 8, 3, 52, 53, 42, 43, 39, 12, 8, 23, 3, 4, 40, 43, 19, 36, 24, 2, 3, 26, 27, 18, 19, 20, 21, 22, 23, 40, 41, 42, 43, 44, 45, 4, 5, 10, 11, 82, 83, 84, 85, 36, 37, 88, 89, 90, 91, 74, 75, 50, 51, 52, 27, 18, 23, 55, 54, 55, 100, 101, 104, 103, 55, 2, 3, 2, 3, 3, 2, 3, 5, 4, 4, 5, 7, 4, 7, 24, 23, 24, 8, 103, 104, 108, 55, 40, 23, 24, 202, 203, 204, 205, 104, 105, 106, 107, 210, 211, 212, 213, 214, 215, 108, 109, 218, 219, 84, 85, 86, 87, 100, 101, 82, 83, 36, 55, 56, 39, 40, 88, 89, 43, 44, 90, 102, 103, 15, 200, 201, 91, 51, 52, 53, 108, 109, 74]
def st_NEAR_BITS : List Int32 := [7, 6, 3, 1, 3, 6, 7]
def st_NEAR_CODES : List Int32 := [2, 2, 2, 1, 3, 3, 3]
def st_SHADES : List Int32 := [0, 8, 2, 10, 12, 4, 14, 6, 3, 11, 1, 9, 15, 7, 13, 5]
def stL : List (String × String × List Int32) := [("PrinterHouse", "FORMAT_WIDE", st_FORMAT_WIDE), ("PrinterHouse", "FORMAT_HIGH", st_FORMAT_HIGH), ("PrinterHouse", "RUN_BITS", st_RUN_BITS), ("PrinterHouse", "RUN_CODES", st_RUN_CODES), ("PrinterHouse", "NEAR_BITS", st_NEAR_BITS), ("PrinterHouse", "NEAR_CODES", st_NEAR_CODES), ("PrinterHouse$Tile", "SHADES", st_SHADES)]
def tx_0 : String := "8:35 6:7 4:7 4:8 4:b 4:c 4:e 4:f 5:13 5:14 5:7 5:8 6:8 6:3 6:34 6:35 6:2a 6:2b 7:27 7:c 7:8 7:17 7:3 7:4 7:28 7:2b 7:13 7:24 7:18 8:2 8:3 8:1a 8:1b 8:12 8:13 8:14 8:15 8:16 8:17 8:28 8:29 8:2a 8:2b 8:2c 8:2d 8:4 8:5 8:a 8:b 8:52 8:53 8:54 8:55 8:24 8:25 8:58 8:59 8:5a 8:5b 8:4a 8:4b 8:32 8:33 8:34 5:1b 5:12 6:17 7:37 8:36 8:37 8:64 8:65 8:68 8:67 "
def tb_0 : List Int32 := [56, 58, 51, 53, 32, 54, 58, 55, 32, 52, 58, 55, 32, 52, 58, 56, 32, 52, 58, 98, 32, 52, 58, 99, 32, 52, 58, 101, 32, 52, 58, 102, 32, 53, 58, 49, 51, 32, 53, 58, 49, 52, 32, 53, 58, 55, 32, 53, 58, 56, 32, 54, 58, 56, 32, 54, 58, 51, 32, 54, 58, 51, 52, 32, 54, 58, 51, 53, 32, 54, 58, 50, 97, 32, 54, 58, 50, 98, 32, 55, 58, 50, 55, 32, 55, 58, 99, 32, 55, 58, 56, 32, 55, 58, 49, 55, 32, 55, 58, 51, 32, 55, 58, 52, 32, 55, 58, 50, 56, 32, 55, 58, 50, 98, 32, 55, 58, 49, 51, 32, 55, 58, 50, 52, 32, 55, 58, 49, 56, 32, 56, 58, 50, 32, 56, 58, 51, 32, 56, 58, 49, 97, 32, 56, 58, 49, 98, 32, 56, 58, 49, 50, 32, 56, 58, 49, 51, 32, 56, 58, 49, 52, 32, 56, 58, 49, 53, 32, 56, 58, 49, 54, 32, 56, 58, 49, 55, 32, 56, 58, 50, 56, 32, 56, 58, 50, 57, 32, 56, 58, 50, 97, 32, 56, 58, 50, 98, 32, 56, 58, 50, 99, 32, 56, 58, 50, 100, 32, 56, 58, 52, 32, 56, 58, 53, 32, 56, 58, 97, 32, 56, 58, 98, 32, 56, 58, 53, 50, 32, 56, 58, 53, 51, 32, 56, 58, 53, 52, 32, 56, 58, 53, 53, 32, 56, 58, 50, 52, 32, 56, 58, 50, 53, 32, 56, 58, 53, 56, 32, 56, 58, 53, 57, 32, 56, 58, 53, 97, 32, 56, 58, 53, 98, 32, 56, 58, 52, 97, 32, 56, 58, 52, 98, 32, 56, 58, 51, 50, 32, 56, 58, 51, 51, 32, 56, 58, 51, 52, 32, 53, 58, 49, 98, 32, 53, 58, 49, 50, 32, 54, 58, 49, 55, 32, 55, 58, 51, 55, 32, 56, 58, 51, 54, 32, 56, 58, 51, 55, 32, 56, 58, 54, 52, 32, 56, 58, 54, 53, 32, 56, 58, 54, 56, 32, 56, 58, 54, 55, 32]
def tx_1 : String := "10:37 3:2 2:3 2:2 3:3 4:3 4:2 5:3 6:5 6:4 7:4 7:5 7:7 8:4 8:7 9:18 10:17 10:18 10:8 11:67 11:68 11:6c 11:37 11:28 11:17 11:18 12:ca 12:cb 12:cc 12:cd 12:68 12:69 12:6a 12:6b 12:d2 12:d3 12:d4 12:d5 12:d6 12:d7 12:6c 12:6d 12:da 12:db 12:54 12:55 12:56 12:57 12:64 12:65 12:52 12:53 12:24 12:37 12:38 12:27 12:28 12:58 12:59 12:2b 12:2c 12:5a 12:66 12:67 10:f 12:c8 12:c9 12:5b 12:33 12:34 12:35 13:6c 13:6d 13:4a "
def tb_1 : List Int32 := [49, 48, 58, 51, 55, 32, 51, 58, 50, 32, 50, 58, 51, 32, 50, 58, 50, 32, 51, 58, 51, 32, 52, 58, 51, 32, 52, 58, 50, 32, 53, 58, 51, 32, 54, 58, 53, 32, 54, 58, 52, 32, 55, 58, 52, 32, 55, 58, 53, 32, 55, 58, 55, 32, 56, 58, 52, 32, 56, 58, 55, 32, 57, 58, 49, 56, 32, 49, 48, 58, 49, 55, 32, 49, 48, 58, 49, 56, 32, 49, 48, 58, 56, 32, 49, 49, 58, 54, 55, 32, 49, 49, 58, 54, 56, 32, 49, 49, 58, 54, 99, 32, 49, 49, 58, 51, 55, 32, 49, 49, 58, 50, 56, 32, 49, 49, 58, 49, 55, 32, 49, 49, 58, 49, 56, 32, 49, 50, 58, 99, 97, 32, 49, 50, 58, 99, 98, 32, 49, 50, 58, 99, 99, 32, 49, 50, 58, 99, 100, 32, 49, 50, 58, 54, 56, 32, 49, 50, 58, 54, 57, 32, 49, 50, 58, 54, 97, 32, 49, 50, 58, 54, 98, 32, 49, 50, 58, 100, 50, 32, 49, 50, 58, 100, 51, 32, 49, 50, 58, 100, 52, 32, 49, 50, 58, 100, 53, 32, 49, 50, 58, 100, 54, 32, 49, 50, 58, 100, 55, 32, 49, 50, 58, 54, 99, 32, 49, 50, 58, 54, 100, 32, 49, 50, 58, 100, 97, 32, 49, 50, 58, 100, 98, 32, 49, 50, 58, 53, 52, 32, 49, 50, 58, 53, 53, 32, 49, 50, 58, 53, 54, 32, 49, 50, 58, 53, 55, 32, 49, 50, 58, 54, 52, 32, 49, 50, 58, 54, 53, 32, 49, 50, 58, 53, 50, 32, 49, 50, 58, 53, 51, 32, 49, 50, 58, 50, 52, 32, 49, 50, 58, 51, 55, 32, 49, 50, 58, 51, 56, 32, 49, 50, 58, 50, 55, 32, 49, 50, 58, 50, 56, 32, 49, 50, 58, 53, 56, 32, 49, 50, 58, 53, 57, 32, 49, 50, 58, 50, 98, 32, 49, 50, 58, 50, 99, 32, 49, 50, 58, 53, 97, 32, 49, 50, 58, 54, 54, 32, 49, 50, 58, 54, 55, 32, 49, 48, 58, 102, 32, 49, 50, 58, 99, 56, 32, 49, 50, 58, 99, 57, 32, 49, 50, 58, 53, 98, 32, 49, 50, 58, 51, 51, 32, 49, 50, 58, 51, 52, 32, 49, 50, 58, 51, 53, 32, 49, 51, 58, 54, 99, 32, 49, 51, 58, 54, 100, 32, 49, 51, 58, 52, 97, 32]
def txLen : List Nat := [349, 413]
def txB : List (List Int32) := [tb_0, tb_1]
abbrev EV : Type := va_G × (Nat → ClassId) × (Nat → Nat)
theorem va_AOA.moved {t : FieldType} {u U : State} (hvm : u.vm.Alike U.vm) (h : va_AOA t u) : va_AOA t U := by
  obtain ⟨comp, c, k, h1, h2, h3, h4, h5⟩ := arrayOverA_spec h
  obtain ⟨k', hk', he⟩ := hvm.2.2 _ _ h3
  have b1 := va_idx_bare U.vm comp
  rw [hvm.bare_eq] at b1
  have hi := (b1.symm.trans (va_idx_bare u.vm comp)).trans h2
  have hkind : k'.kind = .array comp (.array t) := by rw [he]; exact h4
  have f1 : U.vm.findClass (FieldType.array t).toString = some comp := by rw [hvm.findClass]; exact h1
  have f2 : U.vm.findClass ("[" ++ (FieldType.array t).toString) = some c := by rw [hvm.findClass]; exact h5
  unfold va_AOA Cond.before Cond.holds
  simp only [Cond.value]
  rw [f1, Option.bind_some]
  refine (congrArg (fun o : Option Nat => (o.bind (fun c => (U.vm.classes[c]?).map fun (k : Class) => match k.kind with | .array _ ty => decide (ty = FieldType.array t) && decide (U.vm.findClass ("[" ++ (FieldType.array t).toString) = some c) | _ => false) == some true)) hi).trans ?_
  simp [hk', hkind, f2]
/-- the texts of the reference, and the JDK's own switch -/
def GXs (v : EV) (A : Nat → Prop) (U : State) (H : Heap) : Prop := va_Z "java/lang/String" "COMPACT_STRINGS" "Z" (.int 1) A U H ∧ vk_S 2 txLen txB (fun i => v.2.2 (20 + i)) (fun i => v.2.2 (30 + i)) A U H ∧ vk_R RX12 505 tx_0 (v.2.2 20) U ∧ vk_R RX12 511 tx_1 (v.2.2 21) U ∧ va_AO "PrinterHouse$Environment" U ∧ va_AO "PrinterHouse$Reading" U ∧ va_AO "PrinterHouse$Tile" U ∧ va_AOA .int U
theorem GXs.call {v : EV} {A B : Nat → Prop} {s U : State} {H : Heap} {locs : List Loc} (h : GXs v A s s.heap) (hS : va_S A s.heap H locs) (hW : s.WarmedH U.vm) (hAB : ∀ q, B q → A q) : GXs v B U H := by
  obtain ⟨h1, h2, r0, r1, o1, o2, o3, o4⟩ := h
  exact ⟨((h1.kept hS.2.1).moved hW.alike).narrow hAB, ((h2.kept hS.2.1).moved hW.alike).narrow hAB, r0.warm hW, r1.warm hW, o1.moved hW.alike, o2.moved hW.alike, o3.moved hW.alike, o4.moved hW.alike⟩
theorem GXs.blind {v : EV} {A : Nat → Prop} {U : State} {g : JFrame} {mk : MethodId} {a : Array Value} (h : GXs v A U U.heap) : GXs v A (U.calling g mk a) (U.calling g mk a).heap := by
  obtain ⟨h1, h2, r0, r1, o1, o2, o3, o4⟩ := h
  exact ⟨h1.moved (U := U.calling g mk a) (Vm.Alike.refl U.vm), h2.moved (U := U.calling g mk a) (Vm.Alike.refl U.vm), r0.same rfl, r1.same rfl, o1.moved (U := U.calling g mk a) (Vm.Alike.refl U.vm), o2.moved (U := U.calling g mk a) (Vm.Alike.refl U.vm), o3.moved (U := U.calling g mk a) (Vm.Alike.refl U.vm), o4.moved (U := U.calling g mk a) (Vm.Alike.refl U.vm)⟩
/-! The judgement J: W over the pool, for any heap that holds it; contracts Ct; the rows of the machine over J. -/
abbrev TY (cy : Nat → ClassId) : List (ClassId × FieldType) := [(cy 13, .byte), (cy 14, .int), (cy 15, .long), (cy 16, .short), (cy 17, .boolean), (cy 18, .object "PrinterHouse$Environment"), (cy 19, .object "PrinterHouse$Reading"), (cy 20, .object "PrinterHouse$Tile"), (cy 21, .array .int)]
/-- what holds of the launch at any method's start: classes, nest mates' words, static arrays, texts -/
def GV (v : EV) (A : Nat → Prop) (U : State) (H : Heap) : Prop :=
  va_K v.1 vwCl (TY v.2.1) U ∧ (∀ w ∈ NST, va_Nw w U) ∧ (∀ (i : Nat) (q : String × String × List Int32), stL[i]? = some q → va_Z q.1 q.2.1 "[I" (.ref (v.2.2 i)) A U H ∧ va_T .int (v.2.2 i) q.2.2.length (fun j => .int (q.2.2.getD j 0)) A U H) ∧ GXs v A U H
theorem va_Nw.nst {w : Cond} (h : w ∈ NST) {s U : State} (hW : s.WarmedH U.vm) (hZ : va_Nw w s) : va_Nw w U := by
  have h1 := (List.mem_filter.mp h).2
  cases w <;> first | exact va_Nw.warmF hW hZ | exact va_Nw.warmM hW hZ | (exact absurd h1 (by simp [isNest]))
theorem GV.call {v : EV} {A B : Nat → Prop} {s U : State} {H : Heap} {locs : List Loc} (h : GV v A s s.heap) (hS : va_S A s.heap H locs) (hU : U.heap = H) (hW : s.WarmedH U.vm) (hAB : ∀ q, B q → A q) : GV v B U U.heap := by
  rw [hU]
  have hq : ∀ a : Nat, a < s.heap.size → ¬ A a → H[a]? = s.heap[a]? := hS.2.1
  refine ⟨va_K.moved hW.alike h.1, fun w hw => va_Nw.nst hw hW (h.2.1 w hw), fun i q hi => ?_, h.2.2.2.call hS hW hAB⟩
  obtain ⟨h1, h2⟩ := h.2.2.1 i q hi
  exact ⟨((h1.kept hq).moved hW.alike).narrow hAB, ((h2.kept hq).moved hW.alike).narrow hAB⟩
theorem GV.blind {v : EV} {A : Nat → Prop} {U : State} {g : JFrame} {mk : MethodId} {a : Array Value} (h : GV v A U U.heap) : GV v A (U.calling g mk a) (U.calling g mk a).heap := by
  have e : (U.calling g mk a).vm = U.vm := rfl
  refine ⟨va_K.moved (u := U) (U := U.calling g mk a) (Vm.Alike.refl U.vm) h.1, fun w hw => va_tabs (List.all_eq_true.mp nst_tab w hw) e.symm (h.2.1 w hw), fun i q hi => ?_, h.2.2.2.blind⟩
  obtain ⟨h1, h2⟩ := h.2.2.1 i q hi
  exact ⟨h1.moved (U := U.calling g mk a) (Vm.Alike.refl U.vm), h2.moved (U := U.calling g mk a) (Vm.Alike.refl U.vm)⟩
/-- a method's start and end -/
def PW (v : EV) (sz : Nat) (S : Hp) (U : State) : Prop := U.heap.size = sz ∧ va_P v.1 vwCl (pl v.2.1 S) U.heap ∧ va_D (fun _ => True) (pl v.2.1 S) ∧ GV v (fun q => q ∈ hL S ∨ sz ≤ q) U U.heap
def QW (v : EV) (sz : Nat) (S : Hp) (Q : Option Value → Hp → Prop) : Array Value → State → Outcome → State → Prop := fun _ st oc t => (∃ (r : Option Value) (S' : Hp), oc = .returned r ∧ Q r S' ∧ va_P v.1 vwCl (pl v.2.1 S') t.heap ∧ va_D (fun q => q ∈ hL S ∨ sz ≤ q) (pl v.2.1 S')) ∧ va_F (fun q => q ∈ hL S ∨ sz ≤ q) st t
abbrev rmD (d k n : Nat) : Room := { frames := d, cells := k, slots := n, locals := 40 * d }
/-- a contract: from the pool S, y returns r with the pool S', 'Q r S'' -/
def Ct (d : Nat) (y : MethodName) (cc : ByteArray) (maxL : Nat) (ret : Option FieldType) (k n : Nat) (As : List Value) (S : Hp) (Q : Option Value → Hp → Prop) : Prop :=
  ∀ (l : Launch) (v : EV) (sz : Nat), Met l y (Cond.code y cc maxL ret :: TBL) (rmD d k n) (va_Pc As (PW v sz S)) (QW v sz S Q) k n (fun q => q ∈ hL S ∨ sz ≤ q)
abbrev JX : Type := Program × Launch × Env × Room × State × MethodId × (Array Value) × (List Frame) × Method × Code × EV × (Nat → Prop) × Nat × (State → Prop)
abbrev x_p (x : JX) : Program := x.1
abbrev x_l (x : JX) : Launch := x.2.1
abbrev x_e (x : JX) : Env := x.2.2.1
abbrev x_R (x : JX) : Room := x.2.2.2.1
abbrev x_s (x : JX) : State := x.2.2.2.2.1
abbrev x_m (x : JX) : MethodId := x.2.2.2.2.2.1
abbrev x_a (x : JX) : Array Value := x.2.2.2.2.2.2.1
abbrev x_b (x : JX) : List Frame := x.2.2.2.2.2.2.2.1
abbrev x_meth (x : JX) : Method := x.2.2.2.2.2.2.2.2.1
abbrev x_c (x : JX) : Code := x.2.2.2.2.2.2.2.2.2.1
abbrev x_v (x : JX) : EV := x.2.2.2.2.2.2.2.2.2.2.1
abbrev x_A (x : JX) : Nat → Prop := x.2.2.2.2.2.2.2.2.2.2.2.1
abbrev x_n (x : JX) : Nat := x.2.2.2.2.2.2.2.2.2.2.2.2.1
abbrev x_Q (x : JX) : State → Prop := x.2.2.2.2.2.2.2.2.2.2.2.2.2
abbrev jW (x : JX) (H : Heap) (locs : List Loc) (k n : Nat) (g : JFrame) : Prop := W (x_p x) (x_l x) (x_e x) (x_R x) (x_s x) (x_m x) (x_a x) (x_b x) (x_meth x) (x_c x) H locs k n (x_Q x) g
def J (x : JX) (k n : Nat) (S : Hp) (lv : List (Nat × Value)) (pc : Nat) (st : List Value) : Prop :=
  ∀ (H : Heap) (locs : List Loc) (ls : Array Slot), va_P (x_v x).1 vwCl (pl (x_v x).2.1 S) H → va_D (x_A x) (pl (x_v x).2.1 S) → va_S (x_A x) (x_s x).heap H locs → lv_has ls (x_n x) lv → jW x H locs k n (F0 (x_m x) pc ls st)
/-- what holds throughout a method's body -/
def CB (x : JX) (own : String) (cc : ByteArray) : Prop :=
  (x_p x).tables.exec = Jvm.exec ∧ (x_c x).code = cc ∧ (x_c x).maxLocals = x_n x ∧ (x_s x).vm.findClass own = some (x_m x).cls ∧ (∀ w ∈ TBL, w.before (x_a x) (x_s x) = true) ∧ (∀ q, (x_s x).heap.size ≤ q → x_A x q) ∧ GV (x_v x) (x_A x) (x_s x) (x_s x).heap
/-- and of its end -/
def CM (x : JX) (d k n : Nat) (ret : Option FieldType) (S : Hp) (Q : Option Value → Hp → Prop) : Prop :=
  x_R x = rmD d k n ∧ x_A x = (fun q => q ∈ hL S ∨ (x_s x).heap.size ≤ q) ∧ x_Q x = MQ (x_b x) (QW (x_v x) (x_s x).heap.size S Q) (x_a x) (x_s x) k n (x_A x) ∧ (x_meth x).sig.returnType = ret ∧ (x_meth x).locks = false
theorem ct_of {d : Nat} {y : MethodName} {cc : ByteArray} {maxL : Nat} {ret : Option FieldType} {k n : Nat} {As : List Value} {S : Hp} {Q : Option Value → Hp → Prop} (hy : plainName y.cls = true) (hlen : (lg_sl As).length ≤ maxL)
    (body : ∀ x : JX, x_n x = maxL → CB x y.cls cc → CM x d k n ret S Q → (x_meth x).name = y.name → J x 0 0 S (lv_args 0 As) 0 []) : Ct d y cc maxL ret k n As S Q := by
  intro l v sz
  refine Met.ofW (cc := cc) (maxL := maxL) (ret := ret) hy rfl ?_
  intro p e s m args below meth c s₁ B hml hv
  obtain ⟨rfl, rfl, hP, hD0, hG⟩ := hv
  have hts := atoms_spec (ws := Cond.code y cc maxL ret :: TBL) B.pre
  have K := body (p, l, e, rmD d k n, s, m, As.toArray, below, meth, c, v, (fun q => q ∈ hL S ∨ s.heap.size ≤ q), maxL, MQ below (QW v s.heap.size S Q) As.toArray s k n (fun q => q ∈ hL S ∨ s.heap.size ≤ q)) rfl ⟨B.exec, B.bytes, hml, findClass_of_methodNamed B.named, fun w h => hts w (List.mem_cons_of_mem _ h), fun q h => Or.inr h, hG⟩ ⟨rfl, rfl, rfl, B.returns, B.notSynchronized⟩ (name_of_methodNamed B.named B.method).1
  have hl := lv_entry As (n := maxL) hlen
  rw [lg_entry_eq]
  refine K s.heap [] _ hP ⟨hD0.1, fun k q hk => ?_⟩ va_S.rf hl
  have := List.mem_of_getElem? hk
  unfold pl va_pl at this
  obtain ⟨a, ha, rfl⟩ := List.mem_map.mp this
  exact Or.inl ha
section JR
variable {x : JX} {own : String} {cc : ByteArray} {k n pc tgt : Nat} {S : Hp} {lv : List (Nat × Value)} {st : List Value}
theorem J.eq {S' : Hp} {lv' : List (Nat × Value)} {st' : List Value} (h1 : S = S') (h2 : lv = lv') (h3 : st = st') (K : J x k n S' lv' pc st') : J x k n S lv pc st := by subst h1; subst h2; subst h3; exact K
theorem J.widen {k' n' : Nat} (h1 : k ≤ k') (h2 : n ≤ n') (K : J x k' n' S lv pc st) : J x k n S lv pc st := fun H locs ls hP hD hS hl => W.widen h1 h2 (K H locs ls hP hD hS hl)
theorem J.sub (ks : List Nat) {lv' : List (Nat × Value)} (h : lv_pick lv ks = lv') (K : J x k n S lv' pc st) : J x k n S lv pc st := fun H locs ls hP hD hS hl => K H locs ls hP hD hS (lv_sub hl ks h)
theorem J.nodup (K : (hL S).Nodup → J x k n S lv pc st) : J x k n S lv pc st := fun H locs ls hP hD hS hl => by
  refine K ?_ H locs ls hP hD hS hl
  refine List.pairwise_iff_getElem.mpr fun i j hi hj hij h3 => ?_
  have g1 : (pl (x_v x).2.1 S)[i]? = some ((hL S)[i], pf (x_v x).2.1 S (hL S)[i]) := by simp [pl, va_pl, hi]
  have g2 : (pl (x_v x).2.1 S)[j]? = some ((hL S)[j], pf (x_v x).2.1 S (hL S)[j]) := by simp [pl, va_pl, hj]
  exact absurd (hD.1 i j _ _ g1 g2 h3) (Nat.ne_of_lt hij)
theorem j_topi {a : Int32} (K : ∀ y : Int32, y = a → J x k n S lv pc (.int y :: st)) : J x k n S lv pc (.int a :: st) := K a rfl
theorem j_topl {a : Int64} (K : ∀ y : Int64, y = a → J x k n S lv pc (.long y :: st)) : J x k n S lv pc (.long a :: st) := K a rfl
theorem j_heap {P : Hp → Prop} (h : P S) (K : ∀ S' : Hp, P S' → J x k n S' lv pc st) : J x k n S lv pc st := K S h

theorem j_iconst (C : CB x own cc) {v : Int32} {i : Int} (d : decode cc pc = .ok (.iconst i, 1)) (hv : Int32.ofInt i = v) (K : J x k n S lv (pc + 1) (.int v :: st)) : J x k n S lv pc (st) := fun H locs ls hP hD hS hl => lv_iconst C.1 C.2.1 d hv (K H locs ls hP hD hS hl)
theorem j_bipush (C : CB x own cc) {v : Int32} {i : Int} (d : decode cc pc = .ok (.bipush i, 2)) (hv : (Int8.ofInt i).toInt32 = v) (K : J x k n S lv (pc + 2) (.int v :: st)) : J x k n S lv pc (st) := fun H locs ls hP hD hS hl => lv_bipush C.1 C.2.1 d hv (K H locs ls hP hD hS hl)
theorem j_sipush (C : CB x own cc) {v : Int32} {i : Int} (d : decode cc pc = .ok (.sipush i, 3)) (hv : (Int16.ofInt i).toInt32 = v) (K : J x k n S lv (pc + 3) (.int v :: st)) : J x k n S lv pc (st) := fun H locs ls hP hD hS hl => lv_sipush C.1 C.2.1 d hv (K H locs ls hP hD hS hl)
theorem j_lconst (C : CB x own cc) {v : Int64} {i : Fin 2} (d : decode cc pc = .ok (.lconst i, 1)) (hv : Int64.ofNat (i : Nat) = v) (K : J x k n S lv (pc + 1) (.long v :: st)) : J x k n S lv pc (st) := fun H locs ls hP hD hS hl => lv_lconst C.1 C.2.1 d hv (K H locs ls hP hD hS hl)
theorem j_iload_n (C : CB x own cc) {i : Nat} {f : Fin 4} {a : Int32} (d : decode cc pc = .ok (.iload_n f, 1)) (hf : (f : Nat) = i) (q : Nat) (h : lv[q]? = some (i, .int a)) (K : J x k n S lv (pc + 1) (.int a :: st)) : J x k n S lv pc (st) := fun H locs ls hP hD hS hl => lv_iload_n C.1 C.2.1 d hf (lv_at hl q h) (K H locs ls hP hD hS hl)
theorem j_iload (C : CB x own cc) {i : Nat} {a : Int32} (d : decode cc pc = .ok (.iload i, 2)) (q : Nat) (h : lv[q]? = some (i, .int a)) (K : J x k n S lv (pc + 2) (.int a :: st)) : J x k n S lv pc (st) := fun H locs ls hP hD hS hl => lv_iload C.1 C.2.1 d (lv_at hl q h) (K H locs ls hP hD hS hl)
theorem j_lload_n (C : CB x own cc) {i : Nat} {f : Fin 4} {a : Int64} (d : decode cc pc = .ok (.lload_n f, 1)) (hf : (f : Nat) = i) (q : Nat) (h : lv[q]? = some (i, .long a)) (K : J x k n S lv (pc + 1) (.long a :: st)) : J x k n S lv pc (st) := fun H locs ls hP hD hS hl => lv_lload_n C.1 C.2.1 d hf (lv_at hl q h) (K H locs ls hP hD hS hl)
theorem j_lload (C : CB x own cc) {i : Nat} {a : Int64} (d : decode cc pc = .ok (.lload i, 2)) (q : Nat) (h : lv[q]? = some (i, .long a)) (K : J x k n S lv (pc + 2) (.long a :: st)) : J x k n S lv pc (st) := fun H locs ls hP hD hS hl => lv_lload C.1 C.2.1 d (lv_at hl q h) (K H locs ls hP hD hS hl)
theorem j_aload_n (C : CB x own cc) {i a : Nat} {f : Fin 4} (d : decode cc pc = .ok (.aload_n f, 1)) (hf : (f : Nat) = i) (q : Nat) (h : lv[q]? = some (i, .ref a)) (K : J x k n S lv (pc + 1) (.ref a :: st)) : J x k n S lv pc (st) := fun H locs ls hP hD hS hl => lv_aload_n C.1 C.2.1 d hf (lv_at hl q h) (K H locs ls hP hD hS hl)
theorem j_aload (C : CB x own cc) {i a : Nat} (d : decode cc pc = .ok (.aload i, 2)) (q : Nat) (h : lv[q]? = some (i, .ref a)) (K : J x k n S lv (pc + 2) (.ref a :: st)) : J x k n S lv pc (st) := fun H locs ls hP hD hS hl => lv_aload C.1 C.2.1 d (lv_at hl q h) (K H locs ls hP hD hS hl)
theorem j_istore_n (C : CB x own cc) {i : Nat} {f : Fin 4} {a : Int32} {lv' : List (Nat × Value)} (d : decode cc pc = .ok (.istore_n f, 1)) (hf : (f : Nat) = i) (hn : i < x_n x) (hl' : (i, Value.int a) :: lv.filter (fun q => !(q.1 == i) && !(q.1 + 1 == i && q.2.category == 2)) = lv') (K : J x k n S lv' (pc + 1) st) : J x k n S lv pc (.int a :: st) := fun H locs ls hP hD hS hl => lv_istore_n C.1 C.2.1 d hf hl hn hl' (fun ls1 hl1 => K H locs ls1 hP hD hS hl1)
theorem j_istore (C : CB x own cc) {i : Nat} {a : Int32} {lv' : List (Nat × Value)} (d : decode cc pc = .ok (.istore i, 2)) (hn : i < x_n x) (hl' : (i, Value.int a) :: lv.filter (fun q => !(q.1 == i) && !(q.1 + 1 == i && q.2.category == 2)) = lv') (K : J x k n S lv' (pc + 2) st) : J x k n S lv pc (.int a :: st) := fun H locs ls hP hD hS hl => lv_istore C.1 C.2.1 d hl hn hl' (fun ls1 hl1 => K H locs ls1 hP hD hS hl1)
theorem j_lstore_n (C : CB x own cc) {i : Nat} {f : Fin 4} {a : Int64} {lv' : List (Nat × Value)} (d : decode cc pc = .ok (.lstore_n f, 1)) (hf : (f : Nat) = i) (hn : i + 1 < x_n x) (hl' : (i, Value.long a) :: lv.filter (fun q => !(q.1 == i) && (!(q.1 == i + 1) && !(q.1 + 1 == i && q.2.category == 2))) = lv') (K : J x k n S lv' (pc + 1) st) : J x k n S lv pc (.long a :: st) := fun H locs ls hP hD hS hl => lv_lstore_n C.1 C.2.1 d hf hl hn hl' (fun ls1 hl1 => K H locs ls1 hP hD hS hl1)
theorem j_lstore (C : CB x own cc) {i : Nat} {a : Int64} {lv' : List (Nat × Value)} (d : decode cc pc = .ok (.lstore i, 2)) (hn : i + 1 < x_n x) (hl' : (i, Value.long a) :: lv.filter (fun q => !(q.1 == i) && (!(q.1 == i + 1) && !(q.1 + 1 == i && q.2.category == 2))) = lv') (K : J x k n S lv' (pc + 2) st) : J x k n S lv pc (.long a :: st) := fun H locs ls hP hD hS hl => lv_lstore C.1 C.2.1 d hl hn hl' (fun ls1 hl1 => K H locs ls1 hP hD hS hl1)
theorem j_astore_n (C : CB x own cc) {i : Nat} {f : Fin 4} {a : Nat} {lv' : List (Nat × Value)} (d : decode cc pc = .ok (.astore_n f, 1)) (hf : (f : Nat) = i) (hn : i < x_n x) (hl' : (i, Value.ref a) :: lv.filter (fun q => !(q.1 == i) && !(q.1 + 1 == i && q.2.category == 2)) = lv') (K : J x k n S lv' (pc + 1) st) : J x k n S lv pc (.ref a :: st) := fun H locs ls hP hD hS hl => lv_astore_n C.1 C.2.1 d hf hl hn hl' (fun ls1 hl1 => K H locs ls1 hP hD hS hl1)
theorem j_astore (C : CB x own cc) {i : Nat} {a : Nat} {lv' : List (Nat × Value)} (d : decode cc pc = .ok (.astore i, 2)) (hn : i < x_n x) (hl' : (i, Value.ref a) :: lv.filter (fun q => !(q.1 == i) && !(q.1 + 1 == i && q.2.category == 2)) = lv') (K : J x k n S lv' (pc + 2) st) : J x k n S lv pc (.ref a :: st) := fun H locs ls hP hD hS hl => lv_astore C.1 C.2.1 d hl hn hl' (fun ls1 hl1 => K H locs ls1 hP hD hS hl1)
theorem j_iinc (C : CB x own cc) {i q : Nat} {c : Int} {a v : Int32} {lv' : List (Nat × Value)} (d : decode cc pc = .ok (.iinc i c, 3)) (h : lv[q]? = some (i, .int a)) (hv : a + Int32.ofInt c = v) (hn : i < x_n x) (hl' : (i, Value.int v) :: lv.filter (fun q => !(q.1 == i) && !(q.1 + 1 == i && q.2.category == 2)) = lv') (K : J x k n S lv' (pc + 3) st) : J x k n S lv pc st := fun H locs ls hP hD hS hl => lv_iinc C.1 C.2.1 d hl h hv hn hl' (fun ls1 hl1 => K H locs ls1 hP hD hS hl1)
theorem j_iadd (C : CB x own cc) {a b v : Int32} (d : decode cc pc = .ok (.iadd, 1)) (hv : a + b = v) (K : J x k n S lv (pc + 1) (.int v :: st)) : J x k n S lv pc (.int b :: .int a :: st) := fun H locs ls hP hD hS hl => by subst hv; exact lv_iadd C.1 C.2.1 d (K H locs ls hP hD hS hl)
theorem j_isub (C : CB x own cc) {a b v : Int32} (d : decode cc pc = .ok (.isub, 1)) (hv : a - b = v) (K : J x k n S lv (pc + 1) (.int v :: st)) : J x k n S lv pc (.int b :: .int a :: st) := fun H locs ls hP hD hS hl => by subst hv; exact lv_isub C.1 C.2.1 d (K H locs ls hP hD hS hl)
theorem j_imul (C : CB x own cc) {a b v : Int32} (d : decode cc pc = .ok (.imul, 1)) (hv : a * b = v) (K : J x k n S lv (pc + 1) (.int v :: st)) : J x k n S lv pc (.int b :: .int a :: st) := fun H locs ls hP hD hS hl => by subst hv; exact lv_imul C.1 C.2.1 d (K H locs ls hP hD hS hl)
theorem j_iand (C : CB x own cc) {a b v : Int32} (d : decode cc pc = .ok (.iand, 1)) (hv : a &&& b = v) (K : J x k n S lv (pc + 1) (.int v :: st)) : J x k n S lv pc (.int b :: .int a :: st) := fun H locs ls hP hD hS hl => by subst hv; exact lv_iand C.1 C.2.1 d (K H locs ls hP hD hS hl)
theorem j_ior (C : CB x own cc) {a b v : Int32} (d : decode cc pc = .ok (.ior, 1)) (hv : a ||| b = v) (K : J x k n S lv (pc + 1) (.int v :: st)) : J x k n S lv pc (.int b :: .int a :: st) := fun H locs ls hP hD hS hl => by subst hv; exact lv_ior C.1 C.2.1 d (K H locs ls hP hD hS hl)
theorem j_ixor (C : CB x own cc) {a b v : Int32} (d : decode cc pc = .ok (.ixor, 1)) (hv : a ^^^ b = v) (K : J x k n S lv (pc + 1) (.int v :: st)) : J x k n S lv pc (.int b :: .int a :: st) := fun H locs ls hP hD hS hl => by subst hv; exact lv_ixor C.1 C.2.1 d (K H locs ls hP hD hS hl)
theorem j_ishl (C : CB x own cc) {a b v : Int32} (d : decode cc pc = .ok (.ishl, 1)) (hv : a <<< (b &&& 31) = v) (K : J x k n S lv (pc + 1) (.int v :: st)) : J x k n S lv pc (.int b :: .int a :: st) := fun H locs ls hP hD hS hl => by subst hv; exact lv_ishl C.1 C.2.1 d (K H locs ls hP hD hS hl)
theorem j_ishr (C : CB x own cc) {a b v : Int32} (d : decode cc pc = .ok (.ishr, 1)) (hv : a >>> (b &&& 31) = v) (K : J x k n S lv (pc + 1) (.int v :: st)) : J x k n S lv pc (.int b :: .int a :: st) := fun H locs ls hP hD hS hl => by subst hv; exact lv_ishr C.1 C.2.1 d (K H locs ls hP hD hS hl)
theorem j_iushr (C : CB x own cc) {a b v : Int32} (d : decode cc pc = .ok (.iushr, 1)) (hv : (a.toUInt32 >>> (b.toUInt32 &&& Int32.toUInt32 31)).toInt32 = v) (K : J x k n S lv (pc + 1) (.int v :: st)) : J x k n S lv pc (.int b :: .int a :: st) := fun H locs ls hP hD hS hl => lv_iushr C.1 C.2.1 d hv (K H locs ls hP hD hS hl)
theorem j_idiv (C : CB x own cc) {a b v : Int32} (d : decode cc pc = .ok (.idiv, 1)) (h : ¬ b = 0) (hv : a / b = v) (K : J x k n S lv (pc + 1) (.int v :: st)) : J x k n S lv pc (.int b :: .int a :: st) := fun H locs ls hP hD hS hl => by subst hv; exact lv_idiv C.1 C.2.1 d h (K H locs ls hP hD hS hl)
theorem j_irem (C : CB x own cc) {a b v : Int32} (d : decode cc pc = .ok (.irem, 1)) (h : ¬ b = 0) (hv : a - a / b * b = v) (K : J x k n S lv (pc + 1) (.int v :: st)) : J x k n S lv pc (.int b :: .int a :: st) := fun H locs ls hP hD hS hl => by subst hv; exact lv_irem C.1 C.2.1 d h (K H locs ls hP hD hS hl)
theorem j_ineg (C : CB x own cc) {a v : Int32} (d : decode cc pc = .ok (.ineg, 1)) (hv : -a = v) (K : J x k n S lv (pc + 1) (.int v :: st)) : J x k n S lv pc (.int a :: st) := fun H locs ls hP hD hS hl => by subst hv; exact lv_ineg C.1 C.2.1 d (K H locs ls hP hD hS hl)
theorem j_ladd (C : CB x own cc) {a b v : Int64} (d : decode cc pc = .ok (.ladd, 1)) (hv : a + b = v) (K : J x k n S lv (pc + 1) (.long v :: st)) : J x k n S lv pc (.long b :: .long a :: st) := fun H locs ls hP hD hS hl => by subst hv; exact lv_ladd C.1 C.2.1 d (K H locs ls hP hD hS hl)
theorem j_lsub (C : CB x own cc) {a b v : Int64} (d : decode cc pc = .ok (.lsub, 1)) (hv : a - b = v) (K : J x k n S lv (pc + 1) (.long v :: st)) : J x k n S lv pc (.long b :: .long a :: st) := fun H locs ls hP hD hS hl => by subst hv; exact lv_lsub C.1 C.2.1 d (K H locs ls hP hD hS hl)
theorem j_lmul (C : CB x own cc) {a b v : Int64} (d : decode cc pc = .ok (.lmul, 1)) (hv : a * b = v) (K : J x k n S lv (pc + 1) (.long v :: st)) : J x k n S lv pc (.long b :: .long a :: st) := fun H locs ls hP hD hS hl => by subst hv; exact lv_lmul C.1 C.2.1 d (K H locs ls hP hD hS hl)
theorem j_land (C : CB x own cc) {a b v : Int64} (d : decode cc pc = .ok (.land, 1)) (hv : a &&& b = v) (K : J x k n S lv (pc + 1) (.long v :: st)) : J x k n S lv pc (.long b :: .long a :: st) := fun H locs ls hP hD hS hl => by subst hv; exact lv_land C.1 C.2.1 d (K H locs ls hP hD hS hl)
theorem j_lor (C : CB x own cc) {a b v : Int64} (d : decode cc pc = .ok (.lor, 1)) (hv : a ||| b = v) (K : J x k n S lv (pc + 1) (.long v :: st)) : J x k n S lv pc (.long b :: .long a :: st) := fun H locs ls hP hD hS hl => by subst hv; exact lv_lor C.1 C.2.1 d (K H locs ls hP hD hS hl)
theorem j_ldiv (C : CB x own cc) {a b v : Int64} (d : decode cc pc = .ok (.ldiv, 1)) (h : ¬ b = 0) (hv : a / b = v) (K : J x k n S lv (pc + 1) (.long v :: st)) : J x k n S lv pc (.long b :: .long a :: st) := fun H locs ls hP hD hS hl => by subst hv; exact lv_ldiv C.1 C.2.1 d h (K H locs ls hP hD hS hl)
theorem j_lrem (C : CB x own cc) {a b v : Int64} (d : decode cc pc = .ok (.lrem, 1)) (h : ¬ b = 0) (hv : a - a / b * b = v) (K : J x k n S lv (pc + 1) (.long v :: st)) : J x k n S lv pc (.long b :: .long a :: st) := fun H locs ls hP hD hS hl => by subst hv; exact lv_lrem C.1 C.2.1 d h (K H locs ls hP hD hS hl)
theorem j_lneg (C : CB x own cc) {a v : Int64} (d : decode cc pc = .ok (.lneg, 1)) (hv : -a = v) (K : J x k n S lv (pc + 1) (.long v :: st)) : J x k n S lv pc (.long a :: st) := fun H locs ls hP hD hS hl => by subst hv; exact lv_lneg C.1 C.2.1 d (K H locs ls hP hD hS hl)
theorem j_lshl (C : CB x own cc) {a v : Int64} {b : Int32} (d : decode cc pc = .ok (.lshl, 1)) (hv : a <<< (b.toInt64 &&& 63) = v) (K : J x k n S lv (pc + 1) (.long v :: st)) : J x k n S lv pc (.int b :: .long a :: st) := fun H locs ls hP hD hS hl => lv_lshl C.1 C.2.1 d hv (K H locs ls hP hD hS hl)
theorem j_lshr (C : CB x own cc) {a v : Int64} {b : Int32} (d : decode cc pc = .ok (.lshr, 1)) (hv : a >>> (b.toInt64 &&& 63) = v) (K : J x k n S lv (pc + 1) (.long v :: st)) : J x k n S lv pc (.int b :: .long a :: st) := fun H locs ls hP hD hS hl => lv_lshr C.1 C.2.1 d hv (K H locs ls hP hD hS hl)
theorem j_lushr (C : CB x own cc) {a v : Int64} {b : Int32} (d : decode cc pc = .ok (.lushr, 1)) (hv : (a.toUInt64 >>> (b.toInt64.toUInt64 &&& Int64.toUInt64 63)).toInt64 = v) (K : J x k n S lv (pc + 1) (.long v :: st)) : J x k n S lv pc (.int b :: .long a :: st) := fun H locs ls hP hD hS hl => lv_lushr C.1 C.2.1 d hv (K H locs ls hP hD hS hl)
theorem j_lcmp (C : CB x own cc) {a b : Int64} (d : decode cc pc = .ok (.lcmp, 1)) (K : J x k n S lv (pc + 1) (.int (lg_cmp a b) :: st)) : J x k n S lv pc (.long b :: .long a :: st) := fun H locs ls hP hD hS hl => W.lcmp C.1 C.2.1 d (K H locs ls hP hD hS hl)
theorem j_i2l (C : CB x own cc) {a : Int32} {v : Int64} (d : decode cc pc = .ok (.i2l, 1)) (hv : a.toInt64 = v) (K : J x k n S lv (pc + 1) (.long v :: st)) : J x k n S lv pc (.int a :: st) := fun H locs ls hP hD hS hl => lv_i2l C.1 C.2.1 d hv (K H locs ls hP hD hS hl)
theorem j_l2i (C : CB x own cc) {a : Int64} {v : Int32} (d : decode cc pc = .ok (.l2i, 1)) (hv : a.toInt32 = v) (K : J x k n S lv (pc + 1) (.int v :: st)) : J x k n S lv pc (.long a :: st) := fun H locs ls hP hD hS hl => lv_l2i C.1 C.2.1 d hv (K H locs ls hP hD hS hl)
theorem j_i2b (C : CB x own cc) {a : Int32} {v : Int32} (d : decode cc pc = .ok (.i2b, 1)) (hv : a.toInt8.toInt32 = v) (K : J x k n S lv (pc + 1) (.int v :: st)) : J x k n S lv pc (.int a :: st) := fun H locs ls hP hD hS hl => lv_i2b C.1 C.2.1 d hv (K H locs ls hP hD hS hl)
theorem j_i2s (C : CB x own cc) {a : Int32} {v : Int32} (d : decode cc pc = .ok (.i2s, 1)) (hv : a.toInt16.toInt32 = v) (K : J x k n S lv (pc + 1) (.int v :: st)) : J x k n S lv pc (.int a :: st) := fun H locs ls hP hD hS hl => lv_i2s C.1 C.2.1 d hv (K H locs ls hP hD hS hl)
theorem j_dup (C : CB x own cc) {a : Value} (d : decode cc pc = .ok (.dup, 1)) (h : a.category = 1) (K : J x k n S lv (pc + 1) (a :: a :: st)) : J x k n S lv pc (a :: st) := fun H locs ls hP hD hS hl => lv_dup C.1 C.2.1 d h (K H locs ls hP hD hS hl)
theorem j_pop (C : CB x own cc) {a : Value} (d : decode cc pc = .ok (.pop, 1)) (h : a.category = 1) (K : J x k n S lv (pc + 1) st) : J x k n S lv pc (a :: st) := fun H locs ls hP hD hS hl => lv_pop C.1 C.2.1 d h (K H locs ls hP hD hS hl)
theorem j_dup2 (C : CB x own cc) {a b : Value} (d : decode cc pc = .ok (.dup2, 1)) (h : a.category = 1) (h2 : b.category = 1) (K : J x k n S lv (pc + 1) (a :: b :: a :: b :: st)) : J x k n S lv pc (a :: b :: st) := fun H locs ls hP hD hS hl => lv_dup2_11 C.1 C.2.1 d h h2 (K H locs ls hP hD hS hl)
theorem j_dup2l (C : CB x own cc) {a : Value} (d : decode cc pc = .ok (.dup2, 1)) (h : a.category = 2) (K : J x k n S lv (pc + 1) (a :: a :: st)) : J x k n S lv pc (a :: st) := fun H locs ls hP hD hS hl => lv_dup2_2 C.1 C.2.1 d h (K H locs ls hP hD hS hl)
theorem j_goto (C : CB x own cc) {off : Int} (d : decode cc pc = .ok (.goto off, 3)) (ht : (pc : Int) + off = (tgt : Int)) (K : J x k n S lv tgt st) : J x k n S lv pc (st) := fun H locs ls hP hD hS hl => lv_goto C.1 C.2.1 d ht (K H locs ls hP hD hS hl)
theorem j_if_eq (C : CB x own cc) {a : Int32} {off : Int} (d : decode cc pc = .ok (.ifCond .eq off, 3)) (ht : (pc : Int) + off = (tgt : Int)) (Kt : a = 0 → J x k n S lv tgt st) (Kf : ¬ a = 0 → J x k n S lv (pc + 3) st) : J x k n S lv pc (.int a :: st) := fun H locs ls hP hD hS hl => lv_if_eq C.1 C.2.1 d ht (fun h => Kt h H locs ls hP hD hS hl) (fun h => Kf h H locs ls hP hD hS hl)
theorem j_ic_eq (C : CB x own cc) {a b : Int32} {off : Int} (d : decode cc pc = .ok (.if_icmp .eq off, 3)) (ht : (pc : Int) + off = (tgt : Int)) (Kt : a = b → J x k n S lv tgt st) (Kf : ¬ a = b → J x k n S lv (pc + 3) st) : J x k n S lv pc (.int b :: .int a :: st) := fun H locs ls hP hD hS hl => lv_icmp_eq C.1 C.2.1 d ht (fun h => Kt h H locs ls hP hD hS hl) (fun h => Kf h H locs ls hP hD hS hl)
theorem j_if_ne (C : CB x own cc) {a : Int32} {off : Int} (d : decode cc pc = .ok (.ifCond .ne off, 3)) (ht : (pc : Int) + off = (tgt : Int)) (Kt : ¬ a = 0 → J x k n S lv tgt st) (Kf : a = 0 → J x k n S lv (pc + 3) st) : J x k n S lv pc (.int a :: st) := fun H locs ls hP hD hS hl => lv_if_ne C.1 C.2.1 d ht (fun h => Kt h H locs ls hP hD hS hl) (fun h => Kf h H locs ls hP hD hS hl)
theorem j_ic_ne (C : CB x own cc) {a b : Int32} {off : Int} (d : decode cc pc = .ok (.if_icmp .ne off, 3)) (ht : (pc : Int) + off = (tgt : Int)) (Kt : ¬ a = b → J x k n S lv tgt st) (Kf : a = b → J x k n S lv (pc + 3) st) : J x k n S lv pc (.int b :: .int a :: st) := fun H locs ls hP hD hS hl => lv_icmp_ne C.1 C.2.1 d ht (fun h => Kt h H locs ls hP hD hS hl) (fun h => Kf h H locs ls hP hD hS hl)
theorem j_if_lt (C : CB x own cc) {a : Int32} {off : Int} (d : decode cc pc = .ok (.ifCond .lt off, 3)) (ht : (pc : Int) + off = (tgt : Int)) (Kt : a < 0 → J x k n S lv tgt st) (Kf : ¬ a < 0 → J x k n S lv (pc + 3) st) : J x k n S lv pc (.int a :: st) := fun H locs ls hP hD hS hl => lv_if_lt C.1 C.2.1 d ht (fun h => Kt h H locs ls hP hD hS hl) (fun h => Kf h H locs ls hP hD hS hl)
theorem j_ic_lt (C : CB x own cc) {a b : Int32} {off : Int} (d : decode cc pc = .ok (.if_icmp .lt off, 3)) (ht : (pc : Int) + off = (tgt : Int)) (Kt : a < b → J x k n S lv tgt st) (Kf : ¬ a < b → J x k n S lv (pc + 3) st) : J x k n S lv pc (.int b :: .int a :: st) := fun H locs ls hP hD hS hl => lv_icmp_lt C.1 C.2.1 d ht (fun h => Kt h H locs ls hP hD hS hl) (fun h => Kf h H locs ls hP hD hS hl)
theorem j_if_ge (C : CB x own cc) {a : Int32} {off : Int} (d : decode cc pc = .ok (.ifCond .ge off, 3)) (ht : (pc : Int) + off = (tgt : Int)) (Kt : 0 ≤ a → J x k n S lv tgt st) (Kf : ¬ 0 ≤ a → J x k n S lv (pc + 3) st) : J x k n S lv pc (.int a :: st) := fun H locs ls hP hD hS hl => lv_if_ge C.1 C.2.1 d ht (fun h => Kt h H locs ls hP hD hS hl) (fun h => Kf h H locs ls hP hD hS hl)
theorem j_ic_ge (C : CB x own cc) {a b : Int32} {off : Int} (d : decode cc pc = .ok (.if_icmp .ge off, 3)) (ht : (pc : Int) + off = (tgt : Int)) (Kt : b ≤ a → J x k n S lv tgt st) (Kf : ¬ b ≤ a → J x k n S lv (pc + 3) st) : J x k n S lv pc (.int b :: .int a :: st) := fun H locs ls hP hD hS hl => lv_icmp_ge C.1 C.2.1 d ht (fun h => Kt h H locs ls hP hD hS hl) (fun h => Kf h H locs ls hP hD hS hl)
theorem j_if_gt (C : CB x own cc) {a : Int32} {off : Int} (d : decode cc pc = .ok (.ifCond .gt off, 3)) (ht : (pc : Int) + off = (tgt : Int)) (Kt : 0 < a → J x k n S lv tgt st) (Kf : ¬ 0 < a → J x k n S lv (pc + 3) st) : J x k n S lv pc (.int a :: st) := fun H locs ls hP hD hS hl => lv_if_gt C.1 C.2.1 d ht (fun h => Kt h H locs ls hP hD hS hl) (fun h => Kf h H locs ls hP hD hS hl)
theorem j_ic_gt (C : CB x own cc) {a b : Int32} {off : Int} (d : decode cc pc = .ok (.if_icmp .gt off, 3)) (ht : (pc : Int) + off = (tgt : Int)) (Kt : b < a → J x k n S lv tgt st) (Kf : ¬ b < a → J x k n S lv (pc + 3) st) : J x k n S lv pc (.int b :: .int a :: st) := fun H locs ls hP hD hS hl => lv_icmp_gt C.1 C.2.1 d ht (fun h => Kt h H locs ls hP hD hS hl) (fun h => Kf h H locs ls hP hD hS hl)
theorem j_if_le (C : CB x own cc) {a : Int32} {off : Int} (d : decode cc pc = .ok (.ifCond .le off, 3)) (ht : (pc : Int) + off = (tgt : Int)) (Kt : a ≤ 0 → J x k n S lv tgt st) (Kf : ¬ a ≤ 0 → J x k n S lv (pc + 3) st) : J x k n S lv pc (.int a :: st) := fun H locs ls hP hD hS hl => lv_if_le C.1 C.2.1 d ht (fun h => Kt h H locs ls hP hD hS hl) (fun h => Kf h H locs ls hP hD hS hl)
theorem j_ic_le (C : CB x own cc) {a b : Int32} {off : Int} (d : decode cc pc = .ok (.if_icmp .le off, 3)) (ht : (pc : Int) + off = (tgt : Int)) (Kt : a ≤ b → J x k n S lv tgt st) (Kf : ¬ a ≤ b → J x k n S lv (pc + 3) st) : J x k n S lv pc (.int b :: .int a :: st) := fun H locs ls hP hD hS hl => lv_icmp_le C.1 C.2.1 d ht (fun h => Kt h H locs ls hP hD hS hl) (fun h => Kf h H locs ls hP hD hS hl)
theorem j_ifnonnull (C : CB x own cc) {a : Nat} {off : Int} (d : decode cc pc = .ok (.ifnonnull off, 3)) (ht : (pc : Int) + off = (tgt : Int)) (K : J x k n S lv tgt st) : J x k n S lv pc (.ref a :: st) := fun H locs ls hP hD hS hl => lv_ifnonnull C.1 C.2.1 d ht (K H locs ls hP hD hS hl)
theorem j_ifnull (C : CB x own cc) {a : Nat} {off : Int} (d : decode cc pc = .ok (.ifnull off, 3)) (K : J x k n S lv (pc + 3) st) : J x k n S lv pc (.ref a :: st) := fun H locs ls hP hD hS hl => lv_ifnull C.1 C.2.1 d (K H locs ls hP hD hS hl)
theorem j_ldc (C : CB x own cc) {v : Int32} {i : Nat} (d : decode cc pc = .ok (.ldc i, 2)) (h : Cond.constant own i v ∈ TBL) (K : J x k n S lv (pc + 2) (.int v :: st)) : J x k n S lv pc (st) := fun H locs ls hP hD hS hl => lv_ldc C.1 C.2.1 C.2.2.2.1 (C.2.2.2.2.1 _ h) d (K H locs ls hP hD hS hl)
theorem j_ldcw (C : CB x own cc) {v : Int32} {i : Nat} (d : decode cc pc = .ok (.ldc_w i, 3)) (h : Cond.constant own i v ∈ TBL) (K : J x k n S lv (pc + 3) (.int v :: st)) : J x k n S lv pc (st) := fun H locs ls hP hD hS hl => lv_ldcw C.1 C.2.1 C.2.2.2.1 (C.2.2.2.2.1 _ h) d (K H locs ls hP hD hS hl)
theorem j_ldc2 (C : CB x own cc) {v : Int64} {i : Nat} (d : decode cc pc = .ok (.ldc2_w i, 3)) (h : Cond.constantLong own i v ∈ TBL) (K : J x k n S lv (pc + 3) (.long v :: st)) : J x k n S lv pc (st) := fun H locs ls hP hD hS hl => lv_ldc2 C.1 C.2.1 C.2.2.2.1 (C.2.2.2.2.1 _ h) d (K H locs ls hP hD hS hl)
theorem j_tabIn (C : CB x own cc) {a : Int32} {df lo hi off : Int} {offs : Array Int} {len : Nat} (d : decode cc pc = .ok (.tableswitch df lo hi offs, len)) (h1 : ¬ a.toInt < lo) (h2 : ¬ hi < a.toInt) (ho : offs[(a.toInt - lo).toNat]? = some off) (ht : (pc : Int) + off = (tgt : Int)) (K : J x k n S lv tgt st) : J x k n S lv pc (.int a :: st) := fun H locs ls hP hD hS hl => lv_tableIn C.1 C.2.1 d h1 h2 ho ht (K H locs ls hP hD hS hl)
theorem j_tabOut (C : CB x own cc) {a : Int32} {df lo hi : Int} {offs : Array Int} {len : Nat} (d : decode cc pc = .ok (.tableswitch df lo hi offs, len)) (h : a.toInt < lo ∨ hi < a.toInt) (ht : (pc : Int) + df = (tgt : Int)) (K : J x k n S lv tgt st) : J x k n S lv pc (.int a :: st) := fun H locs ls hP hD hS hl => lv_tableOut C.1 C.2.1 d h ht (K H locs ls hP hD hS hl)
theorem cl_all (ci : Nat) (r : vw_C) (h : vwCl[ci]? = some r) : r.2.2 = fn ci ∧ ci < 13 ∧ (∀ w ∈ u_ws r.1 r.2.1 r.2.2, w ∈ TBL) ∧ (∀ a, a < r.2.2 → ∀ b, b < r.2.2 → a ≠ b → (r.2.1 a).2.1 ≠ (r.2.1 b).2.1) ∧ ∀ s, s < r.2.2 → (r.2.1 s).1 = r.1 ∧ parseFieldDescriptor (r.2.1 s).2.2.1 = some (fty ci s) := by
  have h13 : ci < 13 := by
    have := (List.getElem?_eq_some_iff.mp h).1
    simpa [vwCl] using this
  have e := cl_ok ci r h
  exact ⟨e.1, h13, e.2.1, e.2.2.1, e.2.2.2⟩
theorem fv_in {ci s : Nat} (h : s < fn ci) {S : Hp} {a : Nat} {cy : Nat → ClassId} (hL' : a ∈ hL S) (hK' : hK S a = ci) (hc : ci < 13) : ∃ q : Nat, (pl cy S)[q]? = some (a, .inr (ci, fvl S a ci)) ∧ (pl cy S)[q]? = some (a, pf cy S a) ∧ (fvl S a ci)[s]? = some (fv S a ci s) := by
  obtain ⟨q, hq⟩ := pl_get (cy := cy) hL'
  exact ⟨q, by rw [hq, pf_obj hK' hc], hq, fvl_get S a ci h⟩
theorem j_getv (C : CB x own cc) {ci s idx a : Nat} {v : Value} (F : FL own idx ci s) (d : decode cc pc = .ok (.getfield idx, 3)) (hL' : a ∈ hL S) (hK' : hK S a = ci) (hv : fv S a ci s = v) (K : J x k n S lv (pc + 3) (v :: st)) : J x k n S lv pc (.ref a :: st) := fun H locs ls hP hD hS hl => by
  obtain ⟨r, hr, hs, F⟩ := F
  obtain ⟨e, h13, hin, hnm, hcl⟩ := cl_all ci r hr
  obtain ⟨q, hq, -, hf⟩ := fv_in (cy := (x_v x).2.1) (e ▸ hs) hL' hK' h13
  rw [hv] at hf
  have hsame : ∀ z, (x_s x).fieldFound? (r.2.1 s).1 (r.2.1 s).2.1 (r.2.1 s).2.2.1 = some z → (x_s x).fieldFound? r.1 (r.2.1 s).2.1 (r.2.1 s).2.2.1 = some z := fun z hz => by rw [← (hcl s hs).1]; exact hz
  rcases F with F | ⟨host, F⟩
  · exact va_get C.1 C.2.1 (Ts := TBL) C.2.2.2.2.1 hin C.2.2.2.1 C.2.2.2.2.2.2.1 hP q hq hr s hs (C.2.2.2.2.1 _ F) hsame hf d (K H locs ls hP hD hS hl)
  · exact va_getN C.1 C.2.1 (Ts := TBL) C.2.2.2.2.1 hin C.2.2.2.1 C.2.2.2.2.2.2.1 hP q hq hr s hs (va_Nw.use rfl (C.2.2.2.2.2.2.2.1 _ F)) hsame hf d (K H locs ls hP hD hS hl)
theorem j_geti (C : CB x own cc) {f ci s idx a : Nat} {v : Int32} (F : FL own idx ci s) (d : decode cc pc = .ok (.getfield idx, 3)) (hL' : a ∈ hL S) (hK' : hK S a = ci) (ht1 : fc ci s ≠ 1) (ht2 : fc ci s ≠ 2) (hf : 100 * ci + s = f) (hv : hI S f a = v) (K : J x k n S lv (pc + 3) (.int v :: st)) : J x k n S lv pc (.ref a :: st) := j_getv C F d hL' hK' (by subst hf; simp [fv, ht1, ht2, hv]) K
theorem j_getl (C : CB x own cc) {f ci s idx a : Nat} {v : Int64} (F : FL own idx ci s) (d : decode cc pc = .ok (.getfield idx, 3)) (hL' : a ∈ hL S) (hK' : hK S a = ci) (ht1 : fc ci s = 1) (hf : 100 * ci + s = f) (hv : hJ S f a = v) (K : J x k n S lv (pc + 3) (.long v :: st)) : J x k n S lv pc (.ref a :: st) := j_getv C F d hL' hK' (by subst hf; simp [fv, ht1, hv]) K
theorem j_getr (C : CB x own cc) {f ci s idx a v : Nat} (F : FL own idx ci s) (d : decode cc pc = .ok (.getfield idx, 3)) (hL' : a ∈ hL S) (hK' : hK S a = ci) (ht1 : fc ci s = 2) (hf : 100 * ci + s = f) (hv : hR S f a = some v) (K : J x k n S lv (pc + 3) (.ref v :: st)) : J x k n S lv pc (.ref a :: st) := j_getv C F d hL' hK' (by subst hf; simp [fv, ht1, hv, va_rf]) K
theorem j_putv (C : CB x own cc) {ci s idx a : Nat} {v : Value} {S' : Hp} (F : FL own idx ci s) (hfin : ∀ r : vw_C, vwCl[ci]? = some r → (r.2.1 s).2.2.2 = false) (d : decode cc pc = .ok (.putfield idx, 3)) (hL' : a ∈ hL S) (hK' : hK S a = ci) (hn : narrow (fty ci s) v = v) (hfit : fits (fty ci s) v = true) (hLs : hL S' = hL S) (hpf : ∀ (cy : Nat → ClassId) (b : Nat), va_up (pf cy S) a (.inr (ci, (fvl S a ci).set s v)) b = pf cy S' b) (K : J x k n S' lv (pc + 3) st) : J x k n S lv pc (v :: .ref a :: st) := fun H locs ls hP hD hS hl => by
  obtain ⟨r, hr, hs, F⟩ := F
  obtain ⟨e, h13, hin, hnm, hcl⟩ := cl_all ci r hr
  obtain ⟨q, hq, hq2, hf⟩ := fv_in (cy := (x_v x).2.1) (e ▸ hs) hL' hK' h13
  have hsame : ∀ z, (x_s x).fieldFound? (r.2.1 s).1 (r.2.1 s).2.1 (r.2.1 s).2.2.1 = some z → (x_s x).fieldFound? r.1 (r.2.1 s).2.1 (r.2.1 s).2.2.1 = some z := fun z hz => by rw [← (hcl s hs).1]; exact hz
  have hset := pl_set (e := .inr (ci, (fvl S a ci).set s v)) hD hL' hq2 hLs (hpf _)
  have hlen : s < (fvl S a ci).length := by rw [fvl_len, ← e]; exact hs
  rcases F with F | ⟨host, F⟩
  · refine va_put C.1 C.2.1 (Ts := TBL) C.2.2.2.2.1 hin (fty ci) (fun j hj => (hcl j hj).2) hnm C.2.2.2.1 C.2.2.2.2.2.2.1 hP hD hS q hq hr s hs (C.2.2.2.2.1 _ F) hsame (hfin r hr) (hcl s hs).2 hn hfit hlen d (fun H1 locs1 hP1 hD1 hS1 => ?_)
    rw [hset] at hP1 hD1
    exact K H1 locs1 ls hP1 hD1 hS1 hl
  · refine va_putN C.1 C.2.1 (Ts := TBL) C.2.2.2.2.1 hin (fty ci) (fun j hj => (hcl j hj).2) hnm C.2.2.2.1 C.2.2.2.2.2.2.1 hP hD hS q hq hr s hs (va_Nw.use rfl (C.2.2.2.2.2.2.2.1 _ F)) hsame (hfin r hr) (hcl s hs).2 hn hfit hlen d (fun H1 locs1 hP1 hD1 hS1 => ?_)
    rw [hset] at hP1 hD1
    exact K H1 locs1 ls hP1 hD1 hS1 hl
theorem j_putvF (C : CB x own cc) (hin2 : (x_meth x).name = "<init>") {ci s idx a : Nat} {v : Value} {S' : Hp} (F : FLo own idx ci s) (hfin : ∀ r : vw_C, vwCl[ci]? = some r → (r.2.1 s).2.2.2 = true) (d : decode cc pc = .ok (.putfield idx, 3)) (hL' : a ∈ hL S) (hK' : hK S a = ci) (hn : narrow (fty ci s) v = v) (hfit : fits (fty ci s) v = true) (hLs : hL S' = hL S) (hpf : ∀ (cy : Nat → ClassId) (b : Nat), va_up (pf cy S) a (.inr (ci, (fvl S a ci).set s v)) b = pf cy S' b) (K : J x k n S' lv (pc + 3) st) : J x k n S lv pc (v :: .ref a :: st) := fun H locs ls hP hD hS hl => by
  obtain ⟨r, hr, hs, ho, F⟩ := F
  obtain ⟨e, h13, hin, hnm, hcl⟩ := cl_all ci r hr
  obtain ⟨q, hq, hq2, hf⟩ := fv_in (cy := (x_v x).2.1) (e ▸ hs) hL' hK' h13
  have hsame : ∀ z, (x_s x).fieldFound? (r.2.1 s).1 (r.2.1 s).2.1 (r.2.1 s).2.2.1 = some z → (x_s x).fieldFound? r.1 (r.2.1 s).2.1 (r.2.1 s).2.2.1 = some z := fun z hz => by rw [← (hcl s hs).1]; exact hz
  have hset := pl_set (e := .inr (ci, (fvl S a ci).set s v)) hD hL' hq2 hLs (hpf _)
  have hlen : s < (fvl S a ci).length := by rw [fvl_len, ← e]; exact hs
  refine va_putF C.1 C.2.1 (Ts := TBL) C.2.2.2.2.1 hin (fty ci) (fun j hj => (hcl j hj).2) hnm C.2.2.2.1 C.2.2.2.2.2.2.1 hP hD hS q hq hr s hs (C.2.2.2.2.1 _ F) hsame (hfin r hr) hin2 ((hcl s hs).1.trans ho) (hcl s hs).2 hn hfit hlen d (fun H1 locs1 hP1 hD1 hS1 => ?_)
  rw [hset] at hP1 hD1
  exact K H1 locs1 ls hP1 hD1 hS1 hl
end JR
end
section
section JR2
variable {x : JX} {own : String} {cc : ByteArray} {k n pc tgt : Nat} {S : Hp} {lv : List (Nat × Value)} {st : List Value}
/-- a slot of a sort that may be written (not final) -/
def slotW (ci s : Nat) : Bool := match vwCl[ci]? with | some r => !(r.2.1 s).2.2.2 | none => false
theorem slotW_ok {ci s : Nat} (h : slotW ci s = true) (r : vw_C) (hr : vwCl[ci]? = some r) : (r.2.1 s).2.2.2 = false := by
  unfold slotW at h
  rw [hr] at h
  simpa using h
def slotF (ci s : Nat) : Bool := match vwCl[ci]? with | some r => (r.2.1 s).2.2.2 | none => false
theorem slotF_ok {ci s : Nat} (h : slotF ci s = true) (r : vw_C) (hr : vwCl[ci]? = some r) : (r.2.1 s).2.2.2 = true := by
  unfold slotF at h
  rw [hr] at h
  exact h
theorem FL.bd {own : String} {idx ci s : Nat} (F : FL own idx ci s) : ci < 13 ∧ s < fn ci := by
  obtain ⟨r, hr, hs, -⟩ := F
  obtain ⟨e, h13, -⟩ := cl_all ci r hr
  exact ⟨h13, e ▸ hs⟩
theorem FLo.bd {own : String} {idx ci s : Nat} (F : FLo own idx ci s) : ci < 13 ∧ s < fn ci := by
  obtain ⟨r, hr, hs, -⟩ := F
  obtain ⟨e, h13, -⟩ := cl_all ci r hr
  exact ⟨h13, e ▸ hs⟩
theorem j_puti (C : CB x own cc) {f ci s idx a : Nat} {v : Int32} (F : FL own idx ci s) (hw : slotW ci s = true) (ht : fty ci s = .int) (hf : fc ci s = 0) (d : decode cc pc = .ok (.putfield idx, 3)) (hL' : a ∈ hL S) (hK' : hK S a = ci) (hf9 : 100 * ci + s = f) (K : J x k n (sI S f a v) lv (pc + 3) st) : J x k n S lv pc (.int v :: .ref a :: st) := by
  subst hf9
  exact j_putv (S' := sI S (100 * ci + s) a v) C F (slotW_ok hw) d hL' hK' (by rw [ht]; rfl) (by rw [ht]; rfl) rfl (fun cy b => pf_setI hK' F.bd.1 F.bd.2 (by rw [hf]; decide) (by rw [hf]; decide) v b) K
theorem j_putz (C : CB x own cc) {f ci s idx a : Nat} {v : Int32} (F : FL own idx ci s) (hw : slotW ci s = true) (ht : fty ci s = .boolean) (hf : fc ci s = 3) (hv : v = 0 ∨ v = 1) (d : decode cc pc = .ok (.putfield idx, 3)) (hL' : a ∈ hL S) (hK' : hK S a = ci) (hf9 : 100 * ci + s = f) (K : J x k n (sI S f a v) lv (pc + 3) st) : J x k n S lv pc (.int v :: .ref a :: st) := by
  subst hf9
  exact j_putv (S' := sI S (100 * ci + s) a v) C F (slotW_ok hw) d hL' hK' (by rw [ht]; rcases hv with rfl | rfl <;> rfl) (by rw [ht]; rcases hv with rfl | rfl <;> rfl) rfl (fun cy b => pf_setI hK' F.bd.1 F.bd.2 (by rw [hf]; decide) (by rw [hf]; decide) v b) K
theorem j_putl (C : CB x own cc) {f ci s idx a : Nat} {v : Int64} (F : FL own idx ci s) (hw : slotW ci s = true) (ht : fty ci s = .long) (hf : fc ci s = 1) (d : decode cc pc = .ok (.putfield idx, 3)) (hL' : a ∈ hL S) (hK' : hK S a = ci) (hf9 : 100 * ci + s = f) (K : J x k n (sJ S f a v) lv (pc + 3) st) : J x k n S lv pc (.long v :: .ref a :: st) := by
  subst hf9
  exact j_putv (S' := sJ S (100 * ci + s) a v) C F (slotW_ok hw) d hL' hK' (by rw [ht]; rfl) (by rw [ht]; rfl) rfl (fun cy b => pf_setJ hK' F.bd.1 F.bd.2 hf v b) K
def isRf : FieldType → Bool
  | .object _ => true
  | .array _ => true
  | _ => false
theorem nar_ref {t : FieldType} (h : isRf t = true) (v : Nat) : narrow t (.ref v) = .ref v ∧ fits t (.ref v) = true := by
  cases t <;> first | exact ⟨rfl, rfl⟩ | (exact absurd h (by decide))
theorem j_putr (C : CB x own cc) {f ci s idx a v : Nat} (F : FL own idx ci s) (hw : slotW ci s = true) (ht : isRf (fty ci s) = true) (hf : fc ci s = 2) (d : decode cc pc = .ok (.putfield idx, 3)) (hL' : a ∈ hL S) (hK' : hK S a = ci) (hf9 : 100 * ci + s = f) (K : J x k n (sR S f a (some v)) lv (pc + 3) st) : J x k n S lv pc (.ref v :: .ref a :: st) := by
  subst hf9
  exact j_putv (S' := sR S (100 * ci + s) a (some v)) C F (slotW_ok hw) d hL' hK' (nar_ref ht v).1 (nar_ref ht v).2 rfl (fun cy b => pf_setR hK' F.bd.1 F.bd.2 hf (some v) b) K
theorem j_putrF (C : CB x own cc) (hin2 : (x_meth x).name = "<init>") {f ci s idx a v : Nat} (F : FLo own idx ci s) (hw : slotF ci s = true) (ht : isRf (fty ci s) = true) (hf : fc ci s = 2) (d : decode cc pc = .ok (.putfield idx, 3)) (hL' : a ∈ hL S) (hK' : hK S a = ci) (hf9 : 100 * ci + s = f) (K : J x k n (sR S f a (some v)) lv (pc + 3) st) : J x k n S lv pc (.ref v :: .ref a :: st) := by
  subst hf9
  exact j_putvF (S' := sR S (100 * ci + s) a (some v)) C hin2 F (slotF_ok hw) d hL' hK' (nar_ref ht v).1 (nar_ref ht v).2 rfl (fun cy b => pf_setR hK' F.bd.1 F.bd.2 hf (some v) b) K
/-- an array's row in the pool -/
theorem ar_I {cy : Nat → ClassId} {a kd : Nat} (hL' : a ∈ hL S) (hK' : hK S a = kd) (h1 : ¬ kd < 13) (h2 : ¬ kd = 15) (h3 : kd < 18) : ∃ q : Nat, (pl cy S)[q]? = some (a, .inl (cy kd, hN S a, .inl (aI S a))) ∧ (pl cy S)[q]? = some (a, pf cy S a) := by
  obtain ⟨q, hq⟩ := pl_get (cy := cy) hL'
  exact ⟨q, by rw [hq, pf_I hK' h1 h2 h3], hq⟩
theorem ar_J {cy : Nat → ClassId} {a : Nat} (hL' : a ∈ hL S) (hK' : hK S a = 15) : ∃ q : Nat, (pl cy S)[q]? = some (a, .inl (cy 15, hN S a, .inr (.inl (aJ S a)))) ∧ (pl cy S)[q]? = some (a, pf cy S a) := by
  obtain ⟨q, hq⟩ := pl_get (cy := cy) hL'
  exact ⟨q, by rw [hq, pf_J hK'], hq⟩
theorem ar_R {cy : Nat → ClassId} {a kd : Nat} (hL' : a ∈ hL S) (hK' : hK S a = kd) (h3 : ¬ kd < 18) : ∃ q : Nat, (pl cy S)[q]? = some (a, .inl (cy kd, hN S a, .inr (.inr (.inr (.inr (aR S a)))))) ∧ (pl cy S)[q]? = some (a, pf cy S a) := by
  obtain ⟨q, hq⟩ := pl_get (cy := cy) hL'
  exact ⟨q, by rw [hq, pf_R hK' h3], hq⟩

theorem j_iald (C : CB x own cc) {a j : Nat} {i v : Int32} (d : decode cc pc = .ok (.iaload, 1)) (hL' : a ∈ hL S) (hK' : hK S a = 14) (hin : vp_in i (hN S a)) (hj : i.toNatClampNeg = j) (hv : aI S a j = v) (K : J x k n S lv (pc + 1) (.int v :: st)) : J x k n S lv pc (.int i :: .ref a :: st) := fun H locs ls hP hD hS hl => by
  subst hj
  subst hv
  obtain ⟨q, hq, -⟩ := ar_I (cy := (x_v x).2.1) hL' hK' (by decide) (by decide) (by decide)
  exact va_iald C.1 C.2.1 C.2.2.2.2.2.2.1 hP q 1 hq rfl hin d (K H locs ls hP hD hS hl)
theorem j_bald (C : CB x own cc) {a j : Nat} {i v : Int32} (d : decode cc pc = .ok (.baload, 1)) (hL' : a ∈ hL S) (hK' : hK S a = 13) (hin : vp_in i (hN S a)) (hj : i.toNatClampNeg = j) (hv : aI S a j = v) (K : J x k n S lv (pc + 1) (.int v :: st)) : J x k n S lv pc (.int i :: .ref a :: st) := fun H locs ls hP hD hS hl => by
  subst hj
  subst hv
  obtain ⟨q, hq, -⟩ := ar_I (cy := (x_v x).2.1) hL' hK' (by decide) (by decide) (by decide)
  exact va_bald C.1 C.2.1 C.2.2.2.2.2.2.1 hP q 0 hq rfl hin d (K H locs ls hP hD hS hl)
theorem j_zald (C : CB x own cc) {a j : Nat} {i v : Int32} (d : decode cc pc = .ok (.baload, 1)) (hL' : a ∈ hL S) (hK' : hK S a = 17) (hin : vp_in i (hN S a)) (hj : i.toNatClampNeg = j) (hv : aI S a j = v) (K : J x k n S lv (pc + 1) (.int v :: st)) : J x k n S lv pc (.int i :: .ref a :: st) := fun H locs ls hP hD hS hl => by
  subst hj
  subst hv
  obtain ⟨q, hq, -⟩ := ar_I (cy := (x_v x).2.1) hL' hK' (by decide) (by decide) (by decide)
  exact va_zald C.1 C.2.1 C.2.2.2.2.2.2.1 hP q 4 hq rfl hin d (K H locs ls hP hD hS hl)
theorem j_sald (C : CB x own cc) {a j : Nat} {i v : Int32} (d : decode cc pc = .ok (.saload, 1)) (hL' : a ∈ hL S) (hK' : hK S a = 16) (hin : vp_in i (hN S a)) (hj : i.toNatClampNeg = j) (hv : aI S a j = v) (K : J x k n S lv (pc + 1) (.int v :: st)) : J x k n S lv pc (.int i :: .ref a :: st) := fun H locs ls hP hD hS hl => by
  subst hj
  subst hv
  obtain ⟨q, hq, -⟩ := ar_I (cy := (x_v x).2.1) hL' hK' (by decide) (by decide) (by decide)
  exact va_sald C.1 C.2.1 C.2.2.2.2.2.2.1 hP q 3 hq rfl hin d (K H locs ls hP hD hS hl)
theorem j_lald (C : CB x own cc) {a j : Nat} {i : Int32} {v : Int64} (d : decode cc pc = .ok (.laload, 1)) (hL' : a ∈ hL S) (hK' : hK S a = 15) (hin : vp_in i (hN S a)) (hj : i.toNatClampNeg = j) (hv : aJ S a j = v) (K : J x k n S lv (pc + 1) (.long v :: st)) : J x k n S lv pc (.int i :: .ref a :: st) := fun H locs ls hP hD hS hl => by
  subst hj
  subst hv
  obtain ⟨q, hq, -⟩ := ar_J (cy := (x_v x).2.1) hL' hK'
  exact va_lald C.1 C.2.1 C.2.2.2.2.2.2.1 hP q 2 hq rfl hin d (K H locs ls hP hD hS hl)
theorem j_iast (C : CB x own cc) {a j : Nat} {i v : Int32} (d : decode cc pc = .ok (.iastore, 1)) (hL' : a ∈ hL S) (hK' : hK S a = 14) (hin : vp_in i (hN S a)) (hj : i.toNatClampNeg = j) (K : J x k n (tI S a j (v)) lv (pc + 1) st) : J x k n S lv pc (.int v :: .int i :: .ref a :: st) := fun H locs ls hP hD hS hl => by
  subst hj
  obtain ⟨q, hq, hq2⟩ := ar_I (cy := (x_v x).2.1) hL' hK' (by decide) (by decide) (by decide)
  refine va_iast C.1 C.2.1 C.2.2.2.2.2.2.1 hP hD hS q 1 hq rfl hin d (fun H1 locs1 hP1 hD1 hS1 => ?_)
  have hset := fun e' => pl_set (S' := tI S a i.toNatClampNeg (v)) (e := e') hD hL' hq2 rfl
  first
    | (rw [hset _ (pf_tI hK' (by decide) (by decide) (by decide) _ _)] at hP1 hD1; exact K H1 locs1 ls hP1 hD1 hS1 hl)
    | (simp only [vp_nar_byte, vp_nar_short] at hP1 hD1; rw [hset _ (pf_tI hK' (by decide) (by decide) (by decide) _ _)] at hP1 hD1; exact K H1 locs1 ls hP1 hD1 hS1 hl)
theorem j_bast (C : CB x own cc) {a j : Nat} {i v : Int32} (d : decode cc pc = .ok (.bastore, 1)) (hL' : a ∈ hL S) (hK' : hK S a = 13) (hin : vp_in i (hN S a)) (hj : i.toNatClampNeg = j) (K : J x k n (tI S a j (v.toInt8.toInt32)) lv (pc + 1) st) : J x k n S lv pc (.int v :: .int i :: .ref a :: st) := fun H locs ls hP hD hS hl => by
  subst hj
  obtain ⟨q, hq, hq2⟩ := ar_I (cy := (x_v x).2.1) hL' hK' (by decide) (by decide) (by decide)
  refine va_bast C.1 C.2.1 C.2.2.2.2.2.2.1 hP hD hS q 0 hq rfl hin d (fun H1 locs1 hP1 hD1 hS1 => ?_)
  have hset := fun e' => pl_set (S' := tI S a i.toNatClampNeg (v.toInt8.toInt32)) (e := e') hD hL' hq2 rfl
  first
    | (rw [hset _ (pf_tI hK' (by decide) (by decide) (by decide) _ _)] at hP1 hD1; exact K H1 locs1 ls hP1 hD1 hS1 hl)
    | (simp only [vp_nar_byte, vp_nar_short] at hP1 hD1; rw [hset _ (pf_tI hK' (by decide) (by decide) (by decide) _ _)] at hP1 hD1; exact K H1 locs1 ls hP1 hD1 hS1 hl)
theorem j_zast (C : CB x own cc) {a j : Nat} {i v : Int32} (d : decode cc pc = .ok (.bastore, 1)) (hL' : a ∈ hL S) (hK' : hK S a = 17) (hin : vp_in i (hN S a)) (hj : i.toNatClampNeg = j) (K : J x k n (tI S a j ((vp_nar .boolean v))) lv (pc + 1) st) : J x k n S lv pc (.int v :: .int i :: .ref a :: st) := fun H locs ls hP hD hS hl => by
  subst hj
  obtain ⟨q, hq, hq2⟩ := ar_I (cy := (x_v x).2.1) hL' hK' (by decide) (by decide) (by decide)
  refine va_zast C.1 C.2.1 C.2.2.2.2.2.2.1 hP hD hS q 4 hq rfl hin d (fun H1 locs1 hP1 hD1 hS1 => ?_)
  have hset := fun e' => pl_set (S' := tI S a i.toNatClampNeg ((vp_nar .boolean v))) (e := e') hD hL' hq2 rfl
  first
    | (rw [hset _ (pf_tI hK' (by decide) (by decide) (by decide) _ _)] at hP1 hD1; exact K H1 locs1 ls hP1 hD1 hS1 hl)
    | (simp only [vp_nar_byte, vp_nar_short] at hP1 hD1; rw [hset _ (pf_tI hK' (by decide) (by decide) (by decide) _ _)] at hP1 hD1; exact K H1 locs1 ls hP1 hD1 hS1 hl)
theorem j_sast (C : CB x own cc) {a j : Nat} {i v : Int32} (d : decode cc pc = .ok (.sastore, 1)) (hL' : a ∈ hL S) (hK' : hK S a = 16) (hin : vp_in i (hN S a)) (hj : i.toNatClampNeg = j) (K : J x k n (tI S a j (v.toInt16.toInt32)) lv (pc + 1) st) : J x k n S lv pc (.int v :: .int i :: .ref a :: st) := fun H locs ls hP hD hS hl => by
  subst hj
  obtain ⟨q, hq, hq2⟩ := ar_I (cy := (x_v x).2.1) hL' hK' (by decide) (by decide) (by decide)
  refine va_sast C.1 C.2.1 C.2.2.2.2.2.2.1 hP hD hS q 3 hq rfl hin d (fun H1 locs1 hP1 hD1 hS1 => ?_)
  have hset := fun e' => pl_set (S' := tI S a i.toNatClampNeg (v.toInt16.toInt32)) (e := e') hD hL' hq2 rfl
  first
    | (rw [hset _ (pf_tI hK' (by decide) (by decide) (by decide) _ _)] at hP1 hD1; exact K H1 locs1 ls hP1 hD1 hS1 hl)
    | (simp only [vp_nar_byte, vp_nar_short] at hP1 hD1; rw [hset _ (pf_tI hK' (by decide) (by decide) (by decide) _ _)] at hP1 hD1; exact K H1 locs1 ls hP1 hD1 hS1 hl)
theorem j_last (C : CB x own cc) {a j : Nat} {i : Int32} {v : Int64} (d : decode cc pc = .ok (.lastore, 1)) (hL' : a ∈ hL S) (hK' : hK S a = 15) (hin : vp_in i (hN S a)) (hj : i.toNatClampNeg = j) (K : J x k n (tJ S a j v) lv (pc + 1) st) : J x k n S lv pc (.long v :: .int i :: .ref a :: st) := fun H locs ls hP hD hS hl => by
  subst hj
  obtain ⟨q, hq, hq2⟩ := ar_J (cy := (x_v x).2.1) hL' hK'
  refine va_last C.1 C.2.1 C.2.2.2.2.2.2.1 hP hD hS q 2 hq rfl hin d (fun H1 locs1 hP1 hD1 hS1 => ?_)
  rw [pl_set (S' := tJ S a i.toNatClampNeg v) hD hL' hq2 rfl (pf_tJ hK' _ _)] at hP1 hD1
  exact K H1 locs1 ls hP1 hD1 hS1 hl
/-- the row of an array type in TY, by its kind -/
theorem ty_I {cy : Nat → ClassId} {kd : Nat} (h1 : ¬ kd < 13) (h3 : kd < 22) : ∃ t, (TY cy)[kd - 13]? = some (cy kd, t) := by
  have : kd = 13 ∨ kd = 14 ∨ kd = 15 ∨ kd = 16 ∨ kd = 17 ∨ kd = 18 ∨ kd = 19 ∨ kd = 20 ∨ kd = 21 := by omega
  rcases this with rfl | rfl | rfl | rfl | rfl | rfl | rfl | rfl | rfl <;> exact ⟨_, rfl⟩
theorem j_alen (C : CB x own cc) {a kd : Nat} {v : Int32} (d : decode cc pc = .ok (.arraylength, 1)) (hL' : a ∈ hL S) (hK' : hK S a = kd) (h1 : ¬ kd < 13) (h3 : kd < 22) (hv : Int32.ofNat (hN S a) = v) (K : J x k n S lv (pc + 1) (.int v :: st)) : J x k n S lv pc (.ref a :: st) := fun H locs ls hP hD hS hl => by
  obtain ⟨t, ht⟩ := ty_I (cy := (x_v x).2.1) h1 h3
  by_cases q15 : kd = 15
  · subst q15
    obtain ⟨q, hq, -⟩ := ar_J (cy := (x_v x).2.1) hL' hK'
    exact va_alen C.1 C.2.1 C.2.2.2.2.2.2.1 hP q _ hq ht hv d (K H locs ls hP hD hS hl)
  · by_cases q18 : kd < 18
    · obtain ⟨q, hq, -⟩ := ar_I (cy := (x_v x).2.1) hL' hK' h1 q15 q18
      exact va_alen C.1 C.2.1 C.2.2.2.2.2.2.1 hP q _ hq ht hv d (K H locs ls hP hD hS hl)
    · obtain ⟨q, hq, -⟩ := ar_R (cy := (x_v x).2.1) hL' hK' q18
      exact va_alen C.1 C.2.1 C.2.2.2.2.2.2.1 hP q _ hq ht hv d (K H locs ls hP hD hS hl)
/-- a static array's address; its places -/
theorem j_gets (C : CB x own cc) {idx : Nat} {q : String × String × List Int32} (i : Nat) (hi : stL[i]? = some q) (F : Cond.fieldLink own idx q.1 q.2.1 "[I" ∈ TBL ∨ ∃ host, Cond.fieldLinkNest own idx q.1 q.2.1 "[I" host ∈ NST) (d : decode cc pc = .ok (.getstatic idx, 3)) (K : J x k n S lv (pc + 3) (.ref ((x_v x).2.2 i) :: st)) : J x k n S lv pc st := fun H locs ls hP hD hS hl => by
  obtain ⟨h1, -⟩ := C.2.2.2.2.2.2.2.2.1 i q hi
  rcases F with F | ⟨host, F⟩
  · exact va_gets C.1 C.2.1 h1 hS C.2.2.2.1 (C.2.2.2.2.1 _ F) (fun _ h => h) d (K H locs ls hP hD hS hl)
  · exact va_getsN C.1 C.2.1 h1 hS C.2.2.2.1 (va_Nw.use rfl (C.2.2.2.2.2.2.2.1 _ F)) (fun _ h => h) d (K H locs ls hP hD hS hl)
theorem j_stld (C : CB x own cc) {q : String × String × List Int32} (i : Nat) (hi : stL[i]? = some q) {j v : Int32} (d : decode cc pc = .ok (.iaload, 1)) (hin : vp_in j q.2.2.length) (hv : q.2.2.getD j.toNatClampNeg 0 = v) (K : J x k n S lv (pc + 1) (.int v :: st)) : J x k n S lv pc (.int j :: .ref ((x_v x).2.2 i) :: st) := fun H locs ls hP hD hS hl => by
  obtain ⟨-, h2⟩ := C.2.2.2.2.2.2.2.2.1 i q hi
  exact va_ti C.1 C.2.1 h2 hS hin (by rw [hv]) d (K H locs ls hP hD hS hl)
theorem j_stlen (C : CB x own cc) {q : String × String × List Int32} (i : Nat) (hi : stL[i]? = some q) {v : Int32} (d : decode cc pc = .ok (.arraylength, 1)) (hv : Int32.ofNat q.2.2.length = v) (K : J x k n S lv (pc + 1) (.int v :: st)) : J x k n S lv pc (.ref ((x_v x).2.2 i) :: st) := fun H locs ls hP hD hS hl => by
  obtain ⟨-, h2⟩ := C.2.2.2.2.2.2.2.2.1 i q hi
  exact va_tlen C.1 C.2.1 h2 hS hv d (K H locs ls hP hD hS hl)
/-- Object's constructor -/
theorem j_objInit (C : CB x own cc) {idx a : Nat} (F : ML own idx objectInit) (hn : ∀ host, Cond.methodLinkNest own idx objectInit host ∉ NST) (hR : 1 ≤ (x_R x).frames ∧ 20 ≤ (x_R x).locals) (d : decode cc pc = .ok (.invokespecial idx, 3)) (K : J x k n S lv (pc + 3) []) : J x k n S lv pc [.ref a] := fun H locs ls hP hD hS hl => by
  rcases F with F | ⟨host, F⟩
  · refine W.objInit C.1 C.2.1 C.2.2.2.1 (C.2.2.2.2.1 _ F) (C.2.2.2.2.1 _ oi_inst) (C.2.2.2.2.1 _ oi_code) rfl (by rw [C.2.2.1]; exact hl.1) rfl d hR.1 (Nat.le_trans (Nat.le_of_ble_eq_true rfl) hR.2) ?_
    exact W.eq (g2 := F0 (x_m x) (pc + 3) ls []) rfl (K H locs ls hP hD hS hl)
  · exact absurd F (hn host)
/-- a new object -/
theorem dv_ok : ∀ ci, ci < 13 → ∀ s, s < fn ci → defaultValue (fty ci s) = vp_V (dv ci) s := by decide +kernel
theorem j_new (C : CB x own cc) {ci idx N : Nat} {r : vw_C} (hr : vwCl[ci]? = some r) (hN' : r.2.2 = N) (Fl : Cond.classLink own idx r.1 ∈ TBL) (Fn : Cond.instantiable r.1 N ∈ TBL) (Fi : Cond.initialized r.1 ∈ TBL) (hk : k + 1 ≤ (x_R x).cells) (hn : n + N ≤ (x_R x).slots) (d : decode cc pc = .ok (.new idx, 3)) (K : ∀ q : Nat, q ∉ hL S → J x (k + 1) (n + N) (nO S q ci) lv (pc + 3) (.ref q :: st)) : J x k n S lv pc st := fun H locs ls hP hD hS hl => by
  obtain ⟨C', T, N'⟩ := r
  subst hN'
  obtain ⟨e, h13, hin, hnm, hcl⟩ := cl_all ci _ hr
  refine va_new (fs := dv ci) C.1 C.2.1 C.2.2.2.2.1 hin (fty ci) (fun j hj => (hcl j hj).2) C.2.2.2.1 (C.2.2.2.2.1 _ Fl) (C.2.2.2.2.1 _ Fn) (C.2.2.2.2.1 _ Fi) C.2.2.2.2.2.2.1 hP hD hS C.2.2.2.2.2.1 hr (fun j hj => dv_ok ci h13 j (by rw [← e]; exact hj)) hk hn d (fun q H1 hP1 hD1 hS1 => ?_)
  have hq : q ∉ hL S := fun hq => by
    obtain ⟨j, hj⟩ := pl_get (cy := (x_v x).2.1) hq
    have hlt := (List.getElem?_eq_some_iff.mp hj).1
    have g1 : (pl (x_v x).2.1 S ++ [(q, (.inr (ci, dv ci) : va_E))])[j]? = some (q, pf (x_v x).2.1 S q) := by rw [List.getElem?_append_left hlt]; exact hj
    have g2 : (pl (x_v x).2.1 S ++ [(q, (.inr (ci, dv ci) : va_E))])[(pl (x_v x).2.1 S).length]? = some (q, .inr (ci, dv ci)) := by rw [List.getElem?_append_right (Nat.le_refl _)]; simp
    exact absurd (hD1.1 _ _ _ _ g1 g2 rfl) (Nat.ne_of_lt hlt)
  rw [pl_push (S' := nO S q ci) hq rfl (fun b => pf_nO h13 b)] at hP1 hD1
  exact K q hq H1 locs ls hP1 hD1 hS1 hl
end JR2
end
section
section JR3
variable {x : JX} {own : String} {cc : ByteArray} {k n pc tgt : Nat} {S : Hp} {lv : List (Nat × Value)} {st : List Value}
/-- behind a call: what the callee's contract says -/
theorem j_ran (C : CB x own cc) {K' N' : Nat} {rest : List Value} {Q : Option Value → Hp → Prop} {a : Array Value}
    (hr : ∀ (H : Heap) (locs : List Loc) (ls : Array Slot), va_P (x_v x).1 vwCl (pl (x_v x).2.1 S) H → va_D (x_A x) (pl (x_v x).2.1 S) → va_S (x_A x) (x_s x).heap H locs → lv_has ls (x_n x) lv → va_Run (x_p x) (x_l x) (x_e x) (x_R x) (x_s x) (x_m x) (x_a x) (x_b x) (x_meth x) (x_c x) H locs k n K' N' (F0 (x_m x) pc ls st) rest (QW (x_v x) H.size S Q a) (fun q => q ∈ hL S ∨ H.size ≤ q))
    (K : ∀ (r : Option Value) (S' : Hp), Q r S' → J x (k + K') (n + N') S' lv (pc + 3) (r.toList ++ rest)) : J x k n S lv pc st := fun H locs ls hP hD hS hl => by
  intro T hT X
  obtain ⟨v, st₀, t, T', L, h0, X', hL', e1, e2, ⟨⟨r, S', hv, hq, hP1, hD1⟩, hz, hk⟩, stp⟩ := hr H locs ls hP hD hS hl T hT X
  cases hv
  rw [h0] at hz hk
  have hAA : ∀ q, (q ∈ hL S ∨ H.size ≤ q) → x_A x q := fun q hq => hq.elim (fun h => by
    obtain ⟨j, hj⟩ := pl_get (cy := (x_v x).2.1) h
    exact hD.2 j _ hj) (fun h => C.2.2.2.2.2.1 q (Nat.le_trans hS.1 h))
  have hS1 : va_S (x_A x) (x_s x).heap T'.heap (locs ++ L) := ⟨Nat.le_trans hS.1 (by rw [e1]; exact hz), fun q h1 h2 => by rw [e1, hk q (Nat.lt_of_lt_of_le h1 hS.1) (fun z => h2 (hAA q z))]; exact hS.2.1 q h1 h2, fun q hq => by
    rcases List.mem_append.mp hq with h | h
    · exact hS.2.2 q h
    · exact hAA _ (hL' q h)⟩
  obtain ⟨t2, a1, b1⟩ := K v S' hq T'.heap (locs ++ L) ls (by rw [e1]; exact hP1) (hD1.weaken (fun k q _ h => hAA q.1 h)) hS1 hl T' rfl X'
  exact ⟨t2, stp t2 a1, b1⟩
theorem pw_of (C : CB x own cc) {H : Heap} {locs : List Loc} {U : State} (hP : va_P (x_v x).1 vwCl (pl (x_v x).2.1 S) H) (hD : va_D (x_A x) (pl (x_v x).2.1 S)) (hS : va_S (x_A x) (x_s x).heap H locs) (hU : U.heap = H) (hW : (x_s x).WarmedH U.vm) : PW (x_v x) H.size S U := by
  refine ⟨by rw [hU], by rw [hU]; exact hP, hD.weaken (fun _ _ _ _ => trivial), C.2.2.2.2.2.2.call hS hU hW (fun q hq => hq.elim (fun h => ?_) (fun h => C.2.2.2.2.2.1 q (Nat.le_trans hS.1 h)))⟩
  obtain ⟨j, hj⟩ := pl_get (cy := (x_v x).2.1) h
  exact hD.2 j _ hj
theorem pw_blind {v : EV} {sz : Nat} {As : List Value} : FrameBlind (va_Pc As (PW v sz S)) := fun a U g mk h => ⟨h.1, h.2.1, h.2.2.1, h.2.2.2.1, h.2.2.2.2.blind⟩
/-- the room of a call -/
def rmOk (x : JX) (d maxL k K' n N' : Nat) : Prop := d + 1 ≤ (x_R x).frames ∧ 40 * d + maxL + 19 ≤ (x_R x).locals ∧ k + K' ≤ (x_R x).cells ∧ n + N' ≤ (x_R x).slots
theorem CM.rm {d K0 N0 : Nat} {ret : Option FieldType} {S0 : Hp} {Q : Option Value → Hp → Prop} (M : CM x d K0 N0 ret S0 Q) {d' maxL K' N' : Nat} (h1 : d' < d) (h2 : maxL ≤ 21) (h3 : k + K' ≤ K0) (h4 : n + N' ≤ N0) : rmOk x d' maxL k K' n N' := by
  have e := M.1
  unfold rmOk
  rw [e]
  refine ⟨h1, ?_, h3, h4⟩
  show 40 * d' + maxL + 19 ≤ 40 * d
  omega
theorem j_callV (C : CB x own cc) {d idx b maxL np K' N' ci : Nat} {y : MethodName} {bytes : ByteArray} {ret : Option FieldType} (As rest : List Value) {Q : Option Value → Hp → Prop} (F : ML own idx y) (M : MCv y bytes maxL ret np) (hC : Ct d y bytes maxL ret K' N' (.ref b :: As) S Q) (hb : b ∈ hL S) (hkd : hK S b = ci) (hcl : (vwCl[ci]?).map (fun r => r.1) = some y.cls) (hR : rmOk x d maxL k K' n N') (hn : As.length = np) (hst : st = As.reverse ++ .ref b :: rest) (hcat : (rest.map fun v => v.category).sum ≤ 8) (dc : decode cc pc = .ok (.invokevirtual idx, 3))
    (K : ∀ (r : Option Value) (S' : Hp), Q r S' → J x (k + K') (n + N') S' lv (pc + 3) (r.toList ++ rest)) : J x k n S lv pc st := by
  obtain ⟨⟨hini, hcode, hd1, hd2⟩, hin, hsel⟩ := M
  refine j_ran C (K' := K') (N' := N') (rest := rest) (Q := Q) (a := (Value.ref b :: As).toArray) (fun H locs ls hP hD hS hl => ?_) K
  obtain ⟨r, hr, hr1⟩ : ∃ r, vwCl[ci]? = some r ∧ r.1 = y.cls := by
    cases hq : vwCl[ci]? with
    | none => rw [hq] at hcl; cases hcl
    | some r => rw [hq] at hcl; exact ⟨r, rfl, Option.some.inj hcl⟩
  obtain ⟨-, h13, -⟩ := cl_all ci r hr
  obtain ⟨q, hq⟩ := pl_get (cy := (x_v x).2.1) hb
  rw [pf_obj hkd h13] at hq
  have hrec := va_recv C.2.2.2.2.2.2.1 hP hr hq
  rw [hr1] at hrec
  have hpre : PreV (x_s x) H y.cls b (va_Pc (.ref b :: As) (PW (x_v x) H.size S)) As := ⟨pw_blind, hrec, fun U hU hW => ⟨rfl, pw_of C hP hD hS hU hW⟩⟩
  have hfix : CallFix (x_p x) (x_m x) (x_c x) cc (x_n x) (x_s x) (x_a x) TBL own := ⟨C.1, C.2.1, C.2.2.1, C.2.2.2.1, C.2.2.2.2.1⟩
  have hroom : (rmD d K' N').frames + 1 ≤ (x_R x).frames ∧ 8 + (maxL + 11) + (rmD d K' N').locals ≤ (x_R x).locals := ⟨hR.1, by have := hR.2.1; show 8 + (maxL + 11) + 40 * d ≤ _; omega⟩
  rcases F with F | ⟨host, F⟩
  · exact va_runV hfix (hC (x_l x) (x_v x) H.size) ⟨callB_of np C.2.2.2.2.1 (goodT hcode) rfl rfl rfl (C.2.2.2.2.1 _ hini) (C.2.2.2.2.1 _ F) ⟨hd1.1, hd1.2, hd2⟩ hroom, C.2.2.2.2.1 _ hin, C.2.2.2.2.1 _ hsel⟩ hpre rfl hn hl.1 hst (lv_room hcat) dc hR.2.2
  · exact va_runVN hfix (hC (x_l x) (x_v x) H.size) ⟨va_cnB np C.2.2.2.2.1 (goodT hcode) rfl rfl rfl (C.2.2.2.2.2.2.2.1 _ F) (C.2.2.2.2.1 _ hini) ⟨hd1.1, hd1.2, hd2⟩ hroom, C.2.2.2.2.1 _ hin, C.2.2.2.2.1 _ hsel⟩ hpre rfl hn hl.1 hst (lv_room hcat) dc hR.2.2
theorem j_callI (C : CB x own cc) {d idx b maxL np K' N' : Nat} {y : MethodName} {bytes : ByteArray} (As rest : List Value) {Q : Option Value → Hp → Prop} (F : ML own idx y) (M : MCi y bytes maxL np) (hC : Ct d y bytes maxL none K' N' (.ref b :: As) S Q) (hR : rmOk x d maxL k K' n N') (hn : As.length = np) (hst : st = As.reverse ++ .ref b :: rest) (hcat : (rest.map fun v => v.category).sum ≤ 8) (dc : decode cc pc = .ok (.invokespecial idx, 3))
    (K : ∀ (r : Option Value) (S' : Hp), Q r S' → J x (k + K') (n + N') S' lv (pc + 3) (r.toList ++ rest)) : J x k n S lv pc st := by
  obtain ⟨⟨hini, hcode, hd1, hd2⟩, hin, hy1⟩ := M
  refine j_ran C (K' := K') (N' := N') (rest := rest) (Q := Q) (a := (Value.ref b :: As).toArray) (fun H locs ls hP hD hS hl => ?_) K
  have hpre : PreS (x_s x) H (va_Pc (.ref b :: As) (PW (x_v x) H.size S)) (.ref b :: As) := ⟨pw_blind, fun U hU hW => ⟨rfl, pw_of C hP hD hS hU hW⟩⟩
  have hfix : CallFix (x_p x) (x_m x) (x_c x) cc (x_n x) (x_s x) (x_a x) TBL own := ⟨C.1, C.2.1, C.2.2.1, C.2.2.2.1, C.2.2.2.2.1⟩
  have hroom : (rmD d K' N').frames + 1 ≤ (x_R x).frames ∧ 8 + (maxL + 11) + (rmD d K' N').locals ≤ (x_R x).locals := ⟨hR.1, by have := hR.2.1; show 8 + (maxL + 11) + 40 * d ≤ _; omega⟩
  rcases F with F | ⟨host, F⟩
  · exact va_runI hfix (hC (x_l x) (x_v x) H.size) ⟨callB_of np C.2.2.2.2.1 (goodT hcode) rfl rfl rfl (C.2.2.2.2.1 _ hini) (C.2.2.2.2.1 _ F) ⟨hd1.1, hd1.2, hd2⟩ hroom, hy1, C.2.2.2.2.1 _ hin⟩ hpre rfl hn hl.1 hst (lv_room hcat) dc hR.2.2
  · exact va_runIN hfix (hC (x_l x) (x_v x) H.size) ⟨va_cnB np C.2.2.2.2.1 (goodT hcode) rfl rfl rfl (C.2.2.2.2.2.2.2.1 _ F) (C.2.2.2.2.1 _ hini) ⟨hd1.1, hd1.2, hd2⟩ hroom, hy1, C.2.2.2.2.1 _ hin⟩ hpre rfl hn hl.1 hst (lv_room hcat) dc hR.2.2
theorem j_callS (C : CB x own cc) {d idx maxL np K' N' : Nat} {y : MethodName} {bytes : ByteArray} {ret : Option FieldType} (As rest : List Value) {Q : Option Value → Hp → Prop} (F : ML own idx y) (M : MCs y bytes maxL ret np) (hC : Ct d y bytes maxL ret K' N' As S Q) (hR : rmOk x d maxL k K' n N') (hn : As.length = np) (hst : st = As.reverse ++ rest) (hcat : (rest.map fun v => v.category).sum ≤ 8) (dc : decode cc pc = .ok (.invokestatic idx, 3))
    (K : ∀ (r : Option Value) (S' : Hp), Q r S' → J x (k + K') (n + N') S' lv (pc + 3) (r.toList ++ rest)) : J x k n S lv pc st := by
  obtain ⟨⟨hini, hcode, hd1, hd2⟩, hsta⟩ := M
  refine j_ran C (K' := K') (N' := N') (rest := rest) (Q := Q) (a := As.toArray) (fun H locs ls hP hD hS hl => ?_) K
  have hpre : PreS (x_s x) H (va_Pc As (PW (x_v x) H.size S)) As := ⟨pw_blind, fun U hU hW => ⟨rfl, pw_of C hP hD hS hU hW⟩⟩
  have hfix : CallFix (x_p x) (x_m x) (x_c x) cc (x_n x) (x_s x) (x_a x) TBL own := ⟨C.1, C.2.1, C.2.2.1, C.2.2.2.1, C.2.2.2.2.1⟩
  have hroom : (rmD d K' N').frames + 1 ≤ (x_R x).frames ∧ 8 + (maxL + 11) + (rmD d K' N').locals ≤ (x_R x).locals := ⟨hR.1, by have := hR.2.1; show 8 + (maxL + 11) + 40 * d ≤ _; omega⟩
  rcases F with F | ⟨host, F⟩
  · exact va_runS hfix (hC (x_l x) (x_v x) H.size) ⟨callB_of np C.2.2.2.2.1 (goodT hcode) rfl rfl rfl (C.2.2.2.2.1 _ hini) (C.2.2.2.2.1 _ F) ⟨hd1.1, hd1.2, hd2⟩ hroom, C.2.2.2.2.1 _ hsta⟩ hpre rfl hn hl.1 hst (lv_room hcat) dc hR.2.2
  · exact va_runSN hfix (hC (x_l x) (x_v x) H.size) ⟨va_cnB np C.2.2.2.2.1 (goodT hcode) rfl rfl rfl (C.2.2.2.2.2.2.2.1 _ F) (C.2.2.2.2.1 _ hini) ⟨hd1.1, hd1.2, hd2⟩ hroom, C.2.2.2.2.1 _ hsta, trivial⟩ hpre rfl hn hl.1 hst (lv_room hcat) dc hR.2.2
/-- the ends of a method -/
theorem CM.qw {d K0 N0 : Nat} {ret : Option FieldType} {S0 : Hp} {Q : Option Value → Hp → Prop} (M : CM x d K0 N0 ret S0 Q) {H : Heap} {locs : List Loc} {r : Option Value} (hq : Q r S) (hP : va_P (x_v x).1 vwCl (pl (x_v x).2.1 S) H) (hD : va_D (x_A x) (pl (x_v x).2.1 S)) (hS : va_S (x_A x) (x_s x).heap H locs) (t : State) (ht : t.heap = H) : QW (x_v x) (x_s x).heap.size S0 Q (x_a x) (x_s x) (.returned r) t := by
  have e := M.2.1
  rw [e] at hD hS
  exact ⟨⟨r, S, rfl, hq, by rw [ht]; exact hP, hD⟩, hS.F ht⟩
theorem j_vret (C : CB x own cc) {d K0 N0 : Nat} {S0 : Hp} {Q : Option Value → Hp → Prop} (M : CM x d K0 N0 none S0 Q) (dc : decode cc pc = .ok (.return_, 1)) (hk : k ≤ K0) (hn : n ≤ N0) (hq : Q none S) : J x k n S lv pc [] := J.widen hk hn fun H locs ls hP hD hS hl => by
  show W _ _ _ _ _ _ _ _ _ _ _ _ _ _ _ _
  rw [M.2.2.1]
  exact W.vret C.1 C.2.1 M.2.2.2.1 (fun t ht hW => M.qw hq hP hD hS t ht) hS.2.2 dc (hlocks := M.2.2.2.2)
theorem j_iret (C : CB x own cc) {d K0 N0 : Nat} {S0 : Hp} {Q : Option Value → Hp → Prop} {v : Int32} (M : CM x d K0 N0 (some .int) S0 Q) (dc : decode cc pc = .ok (.ireturn, 1)) (hk : k ≤ K0) (hn : n ≤ N0) (hq : Q (some (.int v)) S) : J x k n S lv pc [.int v] := J.widen hk hn fun H locs ls hP hD hS hl => by
  show W _ _ _ _ _ _ _ _ _ _ _ _ _ _ _ _
  rw [M.2.2.1]
  exact W.iret C.1 C.2.1 M.2.2.2.1 (fun t ht hW => M.qw hq hP hD hS t ht) hS.2.2 dc (hlocks := M.2.2.2.2)
theorem j_zret (C : CB x own cc) {d K0 N0 : Nat} {S0 : Hp} {Q : Option Value → Hp → Prop} {v : Int32} {ty : FieldType} (M : CM x d K0 N0 (some ty) S0 Q) (hv : narrow ty (.int v) = .int v) (dc : decode cc pc = .ok (.ireturn, 1)) (hk : k ≤ K0) (hn : n ≤ N0) (hq : Q (some (.int v)) S) : J x k n S lv pc [.int v] := J.widen hk hn fun H locs ls hP hD hS hl => by
  show W _ _ _ _ _ _ _ _ _ _ _ _ _ _ _ _
  rw [M.2.2.1]
  exact W.zret C.1 C.2.1 M.2.2.2.1 hv (fun t ht hW => M.qw hq hP hD hS t ht) hS.2.2 dc (hlocks := M.2.2.2.2)
theorem j_lret (C : CB x own cc) {d K0 N0 : Nat} {S0 : Hp} {Q : Option Value → Hp → Prop} {v : Int64} (M : CM x d K0 N0 (some .long) S0 Q) (dc : decode cc pc = .ok (.lreturn, 1)) (hk : k ≤ K0) (hn : n ≤ N0) (hq : Q (some (.long v)) S) : J x k n S lv pc [.long v] := J.widen hk hn fun H locs ls hP hD hS hl => by
  show W _ _ _ _ _ _ _ _ _ _ _ _ _ _ _ _
  rw [M.2.2.1]
  exact W.lret C.1 C.2.1 M.2.2.2.1 (fun t ht hW => M.qw hq hP hD hS t ht) hS.2.2 dc (hlocks := M.2.2.2.2)
theorem j_aret (C : CB x own cc) {d K0 N0 : Nat} {S0 : Hp} {Q : Option Value → Hp → Prop} {v : Nat} {rt : FieldType} (M : CM x d K0 N0 (some rt) S0 Q) (hrt : (∃ n, rt = .object n) ∨ ∃ t, rt = .array t) (dc : decode cc pc = .ok (.areturn, 1)) (hk : k ≤ K0) (hn : n ≤ N0) (hq : Q (some (.ref v)) S) : J x k n S lv pc [.ref v] := J.widen hk hn fun H locs ls hP hD hS hl => by
  show W _ _ _ _ _ _ _ _ _ _ _ _ _ _ _ _
  rw [M.2.2.1]
  exact W.aret C.1 C.2.1 M.2.2.2.1 hrt (Or.inr ⟨v, rfl⟩) (fun t ht hW => M.qw hq hP hD hS t ht) hS.2.2 dc (hlocks := M.2.2.2.2)
/-- a fresh cell's address is not of the pool -/
theorem fresh_of {A : Nat → Prop} {cy : Nat → ClassId} {q : Nat} {e : va_E} (hD1 : va_D A (pl cy S ++ [(q, e)])) : q ∉ hL S := fun hq => by
  obtain ⟨j, hj⟩ := pl_get (cy := cy) hq
  have hlt := (List.getElem?_eq_some_iff.mp hj).1
  have g1 : (pl cy S ++ [(q, e)])[j]? = some (q, pf cy S q) := by rw [List.getElem?_append_left hlt]; exact hj
  have g2 : (pl cy S ++ [(q, e)])[(pl cy S).length]? = some (q, e) := by rw [List.getElem?_append_right (Nat.le_refl _)]; simp
  exact absurd (hD1.1 _ _ _ _ g1 g2 rfl) (Nat.ne_of_lt hlt)
/-- an array class is the one that the launch has -/
theorem cy_prim {s : State} {D : va_G} {cy : Nat → ClassId} {t kd : Nat} {ty : FieldType} {cA : ClassId} (h1 : va_K D vwCl (TY cy) s) (ht : (TY cy)[t]? = some (cy kd, ty)) (hno : ∀ C, ty ≠ .object C) (h2 : va_K D vwCl (TY cy ++ [(cA, ty)]) s) : cA = cy kd := by
  have a1 := (h1.2 t _ ht).2
  have a2 := (h2.2 (TY cy).length (cA, ty) (by rw [List.getElem?_append_right (Nat.le_refl _)]; simp)).2
  unfold va_RA at a1 a2
  cases ty with
  | object C => exact absurd rfl (hno C)
  | _ => exact Option.some.inj (a2.symm.trans a1)
theorem cy_obj {s : State} {D : va_G} {cy : Nat → ClassId} {t kd : Nat} {E : String} {cA : ClassId} (h1 : va_K D vwCl (TY cy) s) (ht : (TY cy)[t]? = some (cy kd, .object E)) (h2 : va_K D vwCl (TY cy ++ [(cA, .object E)]) s) : cA = cy kd := by
  obtain ⟨_, _, -, -, -, a1⟩ := (h1.2 t _ ht).2
  obtain ⟨_, _, -, -, -, a2⟩ := (h2.2 (TY cy).length (cA, .object E) (by rw [List.getElem?_append_right (Nat.le_refl _)]; simp)).2
  exact Option.some.inj (a2.symm.trans a1)

theorem j_newI (C : CB x own cc) {v : Int32} {N : Nat} (ha : Cond.arrayClass .int ∈ TBL) (hv : ¬ v < 0) (hN' : v.toNatClampNeg = N) (hb : N * componentBytes .int ≤ 536870912) (hk : k + 1 ≤ (x_R x).cells) (hn : n + N ≤ (x_R x).slots) (dc : decode cc pc = .ok (.newarray .int, 2)) (K : ∀ q : Nat, q ∉ hL S → J x (k + 1) (n + N) (nA S q 14 N) lv (pc + 2) (.ref q :: st)) : J x k n S lv pc (.int v :: st) := fun H locs ls hP hD hS hl => by
  refine va_newa (atype := .int) (ty := .int) (a0 := (N, .inl (fun _ => 0))) C.1 C.2.1 (C.2.2.2.2.1 _ ha) rfl C.2.2.2.2.2.2.1 hP hD hS C.2.2.2.2.2.1 (fun cA => by first | rfl | simp [vp_cell, defaultValue]) hv hN' hb hk hn dc (fun q cA H1 hK1 hP1 hD1 hS1 => ?_)
  have hq := fresh_of hD1
  have e := cy_prim (t := 1) (kd := 14) C.2.2.2.2.2.2.1 rfl (fun _ h => by cases h) hK1
  subst e
  rw [pl_push (S' := nA S q 14 N) hq rfl (fun b => pf_nAI (by decide) (by decide) (by decide) b)] at hP1 hD1
  exact K q hq H1 locs ls hP1 hD1 hS1 hl
theorem j_newB (C : CB x own cc) {v : Int32} {N : Nat} (ha : Cond.arrayClass .byte ∈ TBL) (hv : ¬ v < 0) (hN' : v.toNatClampNeg = N) (hb : N * componentBytes .byte ≤ 536870912) (hk : k + 1 ≤ (x_R x).cells) (hn : n + N ≤ (x_R x).slots) (dc : decode cc pc = .ok (.newarray .byte, 2)) (K : ∀ q : Nat, q ∉ hL S → J x (k + 1) (n + N) (nA S q 13 N) lv (pc + 2) (.ref q :: st)) : J x k n S lv pc (.int v :: st) := fun H locs ls hP hD hS hl => by
  refine va_newa (atype := .byte) (ty := .byte) (a0 := (N, .inl (fun _ => 0))) C.1 C.2.1 (C.2.2.2.2.1 _ ha) rfl C.2.2.2.2.2.2.1 hP hD hS C.2.2.2.2.2.1 (fun cA => by first | rfl | simp [vp_cell, defaultValue]) hv hN' hb hk hn dc (fun q cA H1 hK1 hP1 hD1 hS1 => ?_)
  have hq := fresh_of hD1
  have e := cy_prim (t := 0) (kd := 13) C.2.2.2.2.2.2.1 rfl (fun _ h => by cases h) hK1
  subst e
  rw [pl_push (S' := nA S q 13 N) hq rfl (fun b => pf_nAI (by decide) (by decide) (by decide) b)] at hP1 hD1
  exact K q hq H1 locs ls hP1 hD1 hS1 hl
theorem j_newZ (C : CB x own cc) {v : Int32} {N : Nat} (ha : Cond.arrayClass .boolean ∈ TBL) (hv : ¬ v < 0) (hN' : v.toNatClampNeg = N) (hb : N * componentBytes .boolean ≤ 536870912) (hk : k + 1 ≤ (x_R x).cells) (hn : n + N ≤ (x_R x).slots) (dc : decode cc pc = .ok (.newarray .boolean, 2)) (K : ∀ q : Nat, q ∉ hL S → J x (k + 1) (n + N) (nA S q 17 N) lv (pc + 2) (.ref q :: st)) : J x k n S lv pc (.int v :: st) := fun H locs ls hP hD hS hl => by
  refine va_newa (atype := .boolean) (ty := .boolean) (a0 := (N, .inl (fun _ => 0))) C.1 C.2.1 (C.2.2.2.2.1 _ ha) rfl C.2.2.2.2.2.2.1 hP hD hS C.2.2.2.2.2.1 (fun cA => by first | rfl | simp [vp_cell, defaultValue]) hv hN' hb hk hn dc (fun q cA H1 hK1 hP1 hD1 hS1 => ?_)
  have hq := fresh_of hD1
  have e := cy_prim (t := 4) (kd := 17) C.2.2.2.2.2.2.1 rfl (fun _ h => by cases h) hK1
  subst e
  rw [pl_push (S' := nA S q 17 N) hq rfl (fun b => pf_nAI (by decide) (by decide) (by decide) b)] at hP1 hD1
  exact K q hq H1 locs ls hP1 hD1 hS1 hl
theorem j_newS (C : CB x own cc) {v : Int32} {N : Nat} (ha : Cond.arrayClass .short ∈ TBL) (hv : ¬ v < 0) (hN' : v.toNatClampNeg = N) (hb : N * componentBytes .short ≤ 536870912) (hk : k + 1 ≤ (x_R x).cells) (hn : n + N ≤ (x_R x).slots) (dc : decode cc pc = .ok (.newarray .short, 2)) (K : ∀ q : Nat, q ∉ hL S → J x (k + 1) (n + N) (nA S q 16 N) lv (pc + 2) (.ref q :: st)) : J x k n S lv pc (.int v :: st) := fun H locs ls hP hD hS hl => by
  refine va_newa (atype := .short) (ty := .short) (a0 := (N, .inl (fun _ => 0))) C.1 C.2.1 (C.2.2.2.2.1 _ ha) rfl C.2.2.2.2.2.2.1 hP hD hS C.2.2.2.2.2.1 (fun cA => by first | rfl | simp [vp_cell, defaultValue]) hv hN' hb hk hn dc (fun q cA H1 hK1 hP1 hD1 hS1 => ?_)
  have hq := fresh_of hD1
  have e := cy_prim (t := 3) (kd := 16) C.2.2.2.2.2.2.1 rfl (fun _ h => by cases h) hK1
  subst e
  rw [pl_push (S' := nA S q 16 N) hq rfl (fun b => pf_nAI (by decide) (by decide) (by decide) b)] at hP1 hD1
  exact K q hq H1 locs ls hP1 hD1 hS1 hl
theorem j_newJ (C : CB x own cc) {v : Int32} {N : Nat} (ha : Cond.arrayClass .long ∈ TBL) (hv : ¬ v < 0) (hN' : v.toNatClampNeg = N) (hb : N * componentBytes .long ≤ 536870912) (hk : k + 1 ≤ (x_R x).cells) (hn : n + N ≤ (x_R x).slots) (dc : decode cc pc = .ok (.newarray .long, 2)) (K : ∀ q : Nat, q ∉ hL S → J x (k + 1) (n + N) (nA S q 15 N) lv (pc + 2) (.ref q :: st)) : J x k n S lv pc (.int v :: st) := fun H locs ls hP hD hS hl => by
  refine va_newa (atype := .long) (ty := .long) (a0 := (N, .inr (.inl (fun _ => 0)))) C.1 C.2.1 (C.2.2.2.2.1 _ ha) rfl C.2.2.2.2.2.2.1 hP hD hS C.2.2.2.2.2.1 (fun cA => by first | rfl | simp [vp_cell, defaultValue]) hv hN' hb hk hn dc (fun q cA H1 hK1 hP1 hD1 hS1 => ?_)
  have hq := fresh_of hD1
  have e := cy_prim (t := 2) (kd := 15) C.2.2.2.2.2.2.1 rfl (fun _ h => by cases h) hK1
  subst e
  rw [pl_push (S' := nA S q 15 N) hq rfl (fun b => pf_nAJ b)] at hP1 hD1
  exact K q hq H1 locs ls hP1 hD1 hS1 hl
theorem j_newQ (C : CB x own cc) {v : Int32} {N idx : Nat} (kd : Nat) {E : String} (hkd : kd = 18 ∨ kd = 19 ∨ kd = 20) (hE : (TY (fun i => i))[kd - 13]? = some (kd, .object E)) (hkl : Cond.classLink own idx E ∈ TBL) (hov : va_AO E (x_s x)) (hv : ¬ v < 0) (hN' : v.toNatClampNeg = N) (hb : N * 4 ≤ 536870912) (hk : k + 1 ≤ (x_R x).cells) (hn : n + N ≤ (x_R x).slots) (dc : decode cc pc = .ok (.anewarray idx, 3)) (K : ∀ q : Nat, q ∉ hL S → J x (k + 1) (n + N) (nA S q kd N) lv (pc + 3) (.ref q :: st)) : J x k n S lv pc (.int v :: st) := fun H locs ls hP hD hS hl => by
  refine va_newq C.1 C.2.1 C.2.2.2.1 (C.2.2.2.2.1 _ hkl) hov C.2.2.2.2.2.2.1 hP hD hS C.2.2.2.2.2.1 hv hN' hb hk hn dc (fun q cA H1 hK1 hP1 hD1 hS1 => ?_)
  have hq := fresh_of hD1
  have ht : (TY (x_v x).2.1)[kd - 13]? = some ((x_v x).2.1 kd, .object E) := by
    rcases hkd with rfl | rfl | rfl <;> (cases hE; rfl)
  have e := cy_obj (t := kd - 13) (kd := kd) C.2.2.2.2.2.2.1 ht hK1
  subst e
  rw [pl_push (S' := nA S q kd N) hq rfl (fun b => pf_nAR (by omega) b)] at hP1 hD1
  exact K q hq H1 locs ls hP1 hD1 hS1 hl
theorem j_aald (C : CB x own cc) {a v j : Nat} {i : Int32} (kd : Nat) {E : String} (hkd : kd = 18 ∨ kd = 19 ∨ kd = 20) (hE : (TY (fun i => i))[kd - 13]? = some (kd, .object E)) (d : decode cc pc = .ok (.aaload, 1)) (hL' : a ∈ hL S) (hK' : hK S a = kd) (hin : vp_in i (hN S a)) (hj : i.toNatClampNeg = j) (hv : aR S a j = some v) (K : J x k n S lv (pc + 1) (.ref v :: st)) : J x k n S lv pc (.int i :: .ref a :: st) := fun H locs ls hP hD hS hl => by
  subst hj
  obtain ⟨q, hq, -⟩ := ar_R (cy := (x_v x).2.1) hL' hK' (by omega)
  have ht : (TY (x_v x).2.1)[kd - 13]? = some ((x_v x).2.1 kd, .object E) := by
    rcases hkd with rfl | rfl | rfl <;> (cases hE; rfl)
  refine va_aldq C.1 C.2.1 C.2.2.2.2.2.2.1 hP q _ hq ht hin d ?_
  rw [hv]
  exact K H locs ls hP hD hS hl
theorem j_aast (C : CB x own cc) {a v ci j : Nat} {i : Int32} (kd : Nat) {r : vw_C} (hkd : kd = 18 ∨ kd = 19 ∨ kd = 20) (hE : (TY (fun i => i))[kd - 13]? = some (kd, .object r.1)) (d : decode cc pc = .ok (.aastore, 1)) (hL' : a ∈ hL S) (hK' : hK S a = kd) (hin : vp_in i (hN S a)) (hj : i.toNatClampNeg = j) (hLv : v ∈ hL S) (hKv : hK S v = ci) (hr : vwCl[ci]? = some r) (K : J x k n (tR S a j (some v)) lv (pc + 1) st) : J x k n S lv pc (.ref v :: .int i :: .ref a :: st) := fun H locs ls hP hD hS hl => by
  subst hj
  obtain ⟨-, h13, -⟩ := cl_all ci r hr
  obtain ⟨q, hq, hq2⟩ := ar_R (cy := (x_v x).2.1) hL' hK' (by omega)
  obtain ⟨qv, hqv⟩ := pl_get (cy := (x_v x).2.1) hLv
  rw [pf_obj hKv h13] at hqv
  have ht : (TY (x_v x).2.1)[kd - 13]? = some ((x_v x).2.1 kd, .object r.1) := by
    rcases hkd with rfl | rfl | rfl <;> (injection hE with hE; injection hE with _ hE; injection hE with hE; rw [← hE]; rfl)
  refine va_astq C.1 C.2.1 C.2.2.2.2.2.2.1 hP hD hS q _ qv ci hq ht hqv hr hin d (fun H1 locs1 hP1 hD1 hS1 => ?_)
  rw [pl_set (S' := tR S a i.toNatClampNeg (some v)) hD hL' hq2 rfl (pf_tR hK' (by omega) _ _)] at hP1 hD1
  exact K H1 locs1 ls hP1 hD1 hS1 hl
theorem j_copy (C : CB x own cc) {a0 a kd n0 n1 idx p0 p1 m0 : Nat} {ty : FieldType} {sp dp c : Int32} (F : Cond.methodLink own idx arraycopyName ∈ TBL) (hty : (kd = 13 ∧ ty = .byte) ∨ (kd = 14 ∧ ty = .int)) (h0 : a0 ∈ hL S) (hk0 : hK S a0 = kd) (hn0 : hN S a0 = n0) (h1 : a ∈ hL S) (hk1 : hK S a = kd) (hn1 : hN S a = n1) (hsp : ¬ sp < 0) (hdp : ¬ dp < 0) (hc : ¬ c < 0) (e0 : sp.toNatClampNeg = p0) (e1 : dp.toNatClampNeg = p1) (e2 : c.toNatClampNeg = m0) (b0 : p0 + m0 ≤ n0) (b1 : p1 + m0 ≤ n1) (hfit : ∀ i, i < m0 → fits ty (.int (aI S a0 (p0 + i))) = true) (hR : 1 ≤ (x_R x).frames ∧ 20 ≤ (x_R x).locals) (dc : decode cc pc = .ok (.invokestatic idx, 3)) (K : J x k n (rI S a (va_cpy (aI S a0) (aI S a) p0 p1 m0)) lv (pc + 3) []) : J x k n S lv pc [.int c, .int dp, .ref a, .int sp, .ref a0] := fun H locs ls hP hD hS hl => by
  subst e0; subst e1; subst e2; subst hn0; subst hn1
  have hkd : ¬ kd < 13 ∧ ¬ kd = 15 ∧ kd < 18 := by omega
  have ht : (TY (x_v x).2.1)[kd - 13]? = some ((x_v x).2.1 kd, ty) := by rcases hty with ⟨rfl, rfl⟩ | ⟨rfl, rfl⟩ <;> rfl
  obtain ⟨q0, hq0, -⟩ := ar_I (cy := (x_v x).2.1) h0 hk0 hkd.1 hkd.2.1 hkd.2.2
  obtain ⟨q1, hq1, hq2⟩ := ar_I (cy := (x_v x).2.1) h1 hk1 hkd.1 hkd.2.1 hkd.2.2
  refine va_copyi C.1 C.2.1 (by rw [C.2.2.1]; exact hl.1.symm) C.2.2.2.1 (C.2.2.2.2.1 _ F) (C.2.2.2.2.1 _ ac_nat) (C.2.2.2.2.1 _ ac_sta) (C.2.2.2.2.1 _ ac_ini) C.2.2.2.2.2.2.1 hP hD hS q0 q1 (kd - 13) (kd - 13) hq0 hq1 ht ht (by rcases hty with ⟨rfl, rfl⟩ | ⟨rfl, rfl⟩ <;> rfl) hsp hdp hc b0 b1 hfit hR.1 (Nat.le_trans (Nat.le_of_ble_eq_true rfl) hR.2) dc (fun H1 locs1 hP1 hD1 hS1 => ?_)
  rw [pl_set (S' := rI S a (va_cpy (aI S a0) (aI S a) sp.toNatClampNeg dp.toNatClampNeg c.toNatClampNeg)) hD h1 hq2 rfl (pf_rI hk1 hkd.1 hkd.2.1 hkd.2.2 _)] at hP1 hD1
  exact K H1 locs1 ls hP1 hD1 hS1 hl
end JR3
end
section
/-! Frames: from S to S', only the fields WI (whole numbers, longs), WR (references) and the rows of the arrays WA may have changed, of all that was there. -/
def Fm (WI WR : Nat → Nat → Prop) (WA : Nat → Prop) (S S' : Hp) : Prop := ∀ a, a ∈ hL S → a ∈ hL S' ∧ hK S' a = hK S a ∧ hN S' a = hN S a ∧ (∀ f, ¬ WI f a → hI S' f a = hI S f a ∧ hJ S' f a = hJ S f a) ∧ (∀ f, ¬ WR f a → hR S' f a = hR S f a) ∧ (¬ WA a → ∀ j, aI S' a j = aI S a j ∧ aJ S' a j = aJ S a j ∧ aR S' a j = aR S a j)
/-- a kind, a length: said so that omega does not look at it -/
def Kd (S : Hp) (a c : Nat) : Prop := hK S a = c
def Ln (S : Hp) (a c : Nat) : Prop := hN S a = c
section FRM
variable {WI WR VI VR : Nat → Nat → Prop} {WA VA : Nat → Prop} {S S' S2 : Hp}
theorem Fm.refl : Fm WI WR WA S S := fun a h => ⟨h, rfl, rfl, fun _ _ => ⟨rfl, rfl⟩, fun _ _ => rfl, fun _ _ => ⟨rfl, rfl, rfl⟩⟩
theorem Fm.mem (h : Fm WI WR WA S S') {a : Nat} (ha : a ∈ hL S) : a ∈ hL S' := (h a ha).1
theorem Fm.kd (h : Fm WI WR WA S S') {a c : Nat} (ha : a ∈ hL S) (hc : hK S a = c) : hK S' a = c := (h a ha).2.1.trans hc
theorem Fm.ln (h : Fm WI WR WA S S') {a c : Nat} (ha : a ∈ hL S) (hc : hN S a = c) : hN S' a = c := (h a ha).2.2.1.trans hc
theorem Fm.fi (h : Fm WI WR WA S S') {a f : Nat} {v : Int32} (ha : a ∈ hL S) (hw : ¬ WI f a) (hc : hI S f a = v) : hI S' f a = v := ((h a ha).2.2.2.1 f hw).1.trans hc
theorem Fm.fj (h : Fm WI WR WA S S') {a f : Nat} {v : Int64} (ha : a ∈ hL S) (hw : ¬ WI f a) (hc : hJ S f a = v) : hJ S' f a = v := ((h a ha).2.2.2.1 f hw).2.trans hc
theorem Fm.fr (h : Fm WI WR WA S S') {a f : Nat} {v : Option Nat} (ha : a ∈ hL S) (hw : ¬ WR f a) (hc : hR S f a = v) : hR S' f a = v := ((h a ha).2.2.2.2.1 f hw).trans hc
theorem Fm.ai (h : Fm WI WR WA S S') {a : Nat} (ha : a ∈ hL S) (hw : ¬ WA a) (j : Nat) : aI S' a j = aI S a j := ((h a ha).2.2.2.2.2 hw j).1
theorem Fm.aj (h : Fm WI WR WA S S') {a : Nat} (ha : a ∈ hL S) (hw : ¬ WA a) (j : Nat) : aJ S' a j = aJ S a j := ((h a ha).2.2.2.2.2 hw j).2.1
theorem Fm.ar (h : Fm WI WR WA S S') {a : Nat} (ha : a ∈ hL S) (hw : ¬ WA a) (j : Nat) : aR S' a j = aR S a j := ((h a ha).2.2.2.2.2 hw j).2.2
theorem Fm.then (h : Fm WI WR WA S S') (h2 : Fm VI VR VA S' S2) (h3 : ∀ a, a ∈ hL S → (∀ f, VI f a → WI f a) ∧ (∀ f, VR f a → WR f a) ∧ (VA a → WA a)) : Fm WI WR WA S S2 := fun a ha => by
  obtain ⟨q1, q2, q3, q4, q5, q6⟩ := h a ha
  obtain ⟨p1, p2, p3, p4, p5, p6⟩ := h2 a q1
  obtain ⟨w1, w2, w3⟩ := h3 a ha
  exact ⟨p1, p2.trans q2, p3.trans q3, fun f hf => ⟨(p4 f (fun q => hf (w1 f q))).1.trans (q4 f hf).1, (p4 f (fun q => hf (w1 f q))).2.trans (q4 f hf).2⟩, fun f hf => (p5 f (fun q => hf (w2 f q))).trans (q5 f hf), fun hf j => ⟨(p6 (fun q => hf (w3 q)) j).1.trans (q6 hf j).1, (p6 (fun q => hf (w3 q)) j).2.1.trans (q6 hf j).2.1, (p6 (fun q => hf (w3 q)) j).2.2.trans (q6 hf j).2.2⟩⟩
theorem Fm.weak (h : Fm WI WR WA S S') (h1 : ∀ f a, WI f a → VI f a) (h2 : ∀ f a, WR f a → VR f a) (h3 : ∀ a, WA a → VA a) : Fm VI VR VA S S' := Fm.then Fm.refl h fun a _ => ⟨fun f => h1 f a, fun f => h2 f a, h3 a⟩
theorem Fm.sI (h : Fm WI WR WA S S') {g b : Nat} (v : Int32) (hw : b ∈ hL S → WI g b) : Fm WI WR WA S (sI S' g b v) := fun a ha => by
  obtain ⟨q1, q2, q3, q4, q5, q6⟩ := h a ha
  refine ⟨q1, q2, q3, fun f hf => ⟨?_, (q4 f hf).2⟩, q5, q6⟩
  rw [hI_sI, if_neg]
  · exact (q4 f hf).1
  · rintro ⟨rfl, rfl⟩
    exact hf (hw ha)
theorem Fm.sJ (h : Fm WI WR WA S S') {g b : Nat} (v : Int64) (hw : b ∈ hL S → WI g b) : Fm WI WR WA S (sJ S' g b v) := fun a ha => by
  obtain ⟨q1, q2, q3, q4, q5, q6⟩ := h a ha
  refine ⟨q1, q2, q3, fun f hf => ⟨(q4 f hf).1, ?_⟩, q5, q6⟩
  rw [hJ_sJ, if_neg]
  · exact (q4 f hf).2
  · rintro ⟨rfl, rfl⟩
    exact hf (hw ha)
theorem Fm.sR (h : Fm WI WR WA S S') {g b : Nat} (v : Option Nat) (hw : b ∈ hL S → WR g b) : Fm WI WR WA S (sR S' g b v) := fun a ha => by
  obtain ⟨q1, q2, q3, q4, q5, q6⟩ := h a ha
  refine ⟨q1, q2, q3, q4, fun f hf => ?_, q6⟩
  rw [hR_sR, if_neg]
  · exact q5 f hf
  · rintro ⟨rfl, rfl⟩
    exact hf (hw ha)
theorem Fm.tI (h : Fm WI WR WA S S') {b : Nat} (i : Nat) (v : Int32) (hw : b ∈ hL S → WA b) : Fm WI WR WA S (tI S' b i v) := fun a ha => by
  obtain ⟨q1, q2, q3, q4, q5, q6⟩ := h a ha
  refine ⟨q1, q2, q3, q4, q5, fun hf j => ⟨?_, (q6 hf j).2⟩⟩
  rw [aI_tI, if_neg]
  · exact (q6 hf j).1
  · rintro ⟨rfl, rfl⟩
    exact hf (hw ha)
theorem Fm.tJ (h : Fm WI WR WA S S') {b : Nat} (i : Nat) (v : Int64) (hw : b ∈ hL S → WA b) : Fm WI WR WA S (tJ S' b i v) := fun a ha => by
  obtain ⟨q1, q2, q3, q4, q5, q6⟩ := h a ha
  refine ⟨q1, q2, q3, q4, q5, fun hf j => ⟨(q6 hf j).1, ?_, (q6 hf j).2.2⟩⟩
  rw [aJ_tJ, if_neg]
  · exact (q6 hf j).2.1
  · rintro ⟨rfl, rfl⟩
    exact hf (hw ha)
theorem Fm.tR (h : Fm WI WR WA S S') {b : Nat} (i : Nat) (v : Option Nat) (hw : b ∈ hL S → WA b) : Fm WI WR WA S (tR S' b i v) := fun a ha => by
  obtain ⟨q1, q2, q3, q4, q5, q6⟩ := h a ha
  refine ⟨q1, q2, q3, q4, q5, fun hf j => ⟨(q6 hf j).1, (q6 hf j).2.1, ?_⟩⟩
  rw [aR_tR, if_neg]
  · exact (q6 hf j).2.2
  · rintro ⟨rfl, rfl⟩
    exact hf (hw ha)
theorem Fm.rI (h : Fm WI WR WA S S') {b : Nat} (v : Nat → Int32) (hw : b ∈ hL S → WA b) : Fm WI WR WA S (rI S' b v) := fun a ha => by
  obtain ⟨q1, q2, q3, q4, q5, q6⟩ := h a ha
  refine ⟨q1, q2, q3, q4, q5, fun hf j => ⟨?_, (q6 hf j).2⟩⟩
  rw [aI_rI, if_neg]
  · exact (q6 hf j).1
  · rintro rfl
    exact hf (hw ha)
theorem Fm.nO (h : Fm WI WR WA S S') {b : Nat} (k : Nat) (hb : b ∉ hL S') : Fm WI WR WA S (nO S' b k) := fun a ha => by
  obtain ⟨q1, q2, q3, q4, q5, q6⟩ := h a ha
  have e : a ≠ b := fun e => hb (e ▸ q1)
  refine ⟨List.mem_append_left _ q1, ?_, q3, fun f hf => ⟨?_, ?_⟩, fun f hf => ?_, q6⟩
  · rw [hK_nO, if_neg e]; exact q2
  · rw [hI_nO, if_neg e]; exact (q4 f hf).1
  · rw [hJ_nO, if_neg e]; exact (q4 f hf).2
  · rw [hR_nO, if_neg e]; exact q5 f hf
theorem Fm.nA (h : Fm WI WR WA S S') {b : Nat} (k n : Nat) (hb : b ∉ hL S') : Fm WI WR WA S (nA S' b k n) := fun a ha => by
  obtain ⟨q1, q2, q3, q4, q5, q6⟩ := h a ha
  have e : a ≠ b := fun e => hb (e ▸ q1)
  refine ⟨List.mem_append_left _ q1, ?_, ?_, q4, q5, fun hf j => ⟨?_, ?_, ?_⟩⟩
  · rw [hK_nA, if_neg e]; exact q2
  · rw [hN_nA, if_neg e]; exact q3
  · rw [aI_nA, if_neg e]; exact (q6 hf j).1
  · rw [aJ_nA, if_neg e]; exact (q6 hf j).2.1
  · rw [aR_nA, if_neg e]; exact (q6 hf j).2.2
end FRM
/-- what stands behind a new cell -/
theorem mem_old {l : List Nat} {a q : Nat} (h : a ∈ l) : a ∈ l ++ [q] := List.mem_append_left _ h
theorem mem_new {l : List Nat} {q : Nat} : q ∈ l ++ [q] := List.mem_append_right _ (List.mem_singleton.mpr rfl)
theorem kd_nO {S : Hp} {a q k c : Nat} (hq : q ∉ hL S) (ha : a ∈ hL S) (h : hK S a = c) : hK (nO S q k) a = c := by
  rw [hK_nO, if_neg (fun e : a = q => hq (e ▸ ha))]; exact h
theorem kd_nO' {S : Hp} {q k : Nat} : hK (nO S q k) q = k := by rw [hK_nO, if_pos rfl]
theorem kd_nA {S : Hp} {a q k n c : Nat} (hq : q ∉ hL S) (ha : a ∈ hL S) (h : hK S a = c) : hK (nA S q k n) a = c := by
  rw [hK_nA, if_neg (fun e : a = q => hq (e ▸ ha))]; exact h
theorem kd_nA' {S : Hp} {q k n : Nat} : hK (nA S q k n) q = k := by rw [hK_nA, if_pos rfl]
theorem ln_nA {S : Hp} {a q k n c : Nat} (hq : q ∉ hL S) (ha : a ∈ hL S) (h : hN S a = c) : hN (nA S q k n) a = c := by
  rw [hN_nA, if_neg (fun e : a = q => hq (e ▸ ha))]; exact h
theorem ln_nA' {S : Hp} {q k n : Nat} : hN (nA S q k n) q = n := by rw [hN_nA, if_pos rfl]
theorem rd_sI {S : Hp} {g a : Nat} {v : Int32} : hI (sI S g a v) g a = v := if_pos ⟨rfl, rfl⟩
theorem rd_sIf {S : Hp} {g a x b : Nat} {v c : Int32} (h : x ≠ g) (hc : hI S x b = c) : hI (sI S g a v) x b = c := (if_neg (fun q => h q.1)).trans hc
theorem rd_sIa {S : Hp} {g a x b : Nat} {v c : Int32} (h : b ≠ a) (hc : hI S x b = c) : hI (sI S g a v) x b = c := (if_neg (fun q => h q.2)).trans hc
theorem rd_sJ {S : Hp} {g a : Nat} {v : Int64} : hJ (sJ S g a v) g a = v := if_pos ⟨rfl, rfl⟩
theorem rd_sJf {S : Hp} {g a x b : Nat} {v c : Int64} (h : x ≠ g) (hc : hJ S x b = c) : hJ (sJ S g a v) x b = c := (if_neg (fun q => h q.1)).trans hc
theorem rd_sJa {S : Hp} {g a x b : Nat} {v c : Int64} (h : b ≠ a) (hc : hJ S x b = c) : hJ (sJ S g a v) x b = c := (if_neg (fun q => h q.2)).trans hc
theorem rd_sR {S : Hp} {g a : Nat} {v : Option Nat} : hR (sR S g a v) g a = v := if_pos ⟨rfl, rfl⟩
theorem rd_sRf {S : Hp} {g a x b : Nat} {v c : Option Nat} (h : x ≠ g) (hc : hR S x b = c) : hR (sR S g a v) x b = c := (if_neg (fun q => h q.1)).trans hc
theorem rd_sRa {S : Hp} {g a x b : Nat} {v c : Option Nat} (h : b ≠ a) (hc : hR S x b = c) : hR (sR S g a v) x b = c := (if_neg (fun q => h q.2)).trans hc
theorem rd_nOI {S : Hp} {q k f a : Nat} {c : Int32} (hq : q ∉ hL S) (ha : a ∈ hL S) (h : hI S f a = c) : hI (nO S q k) f a = c := (if_neg (fun e : a = q => hq (e ▸ ha))).trans h
theorem rd_nOJ {S : Hp} {q k f a : Nat} {c : Int64} (hq : q ∉ hL S) (ha : a ∈ hL S) (h : hJ S f a = c) : hJ (nO S q k) f a = c := (if_neg (fun e : a = q => hq (e ▸ ha))).trans h
theorem rd_nOR {S : Hp} {q k f a : Nat} {c : Option Nat} (hq : q ∉ hL S) (ha : a ∈ hL S) (h : hR S f a = c) : hR (nO S q k) f a = c := (if_neg (fun e : a = q => hq (e ▸ ha))).trans h
theorem rd_nOI' {S : Hp} {q k f : Nat} : hI (nO S q k) f q = 0 := if_pos rfl
theorem rd_nOJ' {S : Hp} {q k f : Nat} : hJ (nO S q k) f q = 0 := if_pos rfl
theorem rd_nOR' {S : Hp} {q k f : Nat} : hR (nO S q k) f q = none := if_pos rfl
theorem rd_nAI {S : Hp} {q k n j a : Nat} {c : Int32} (hq : q ∉ hL S) (ha : a ∈ hL S) (h : aI S a j = c) : aI (nA S q k n) a j = c := by
  rw [aI_nA, if_neg (fun e : a = q => hq (e ▸ ha))]; exact h
theorem rd_nAR {S : Hp} {q k n j a : Nat} {c : Option Nat} (hq : q ∉ hL S) (ha : a ∈ hL S) (h : aR S a j = c) : aR (nA S q k n) a j = c := by
  rw [aR_nA, if_neg (fun e : a = q => hq (e ▸ ha))]; exact h
theorem rd_nAI' {S : Hp} {q k n j : Nat} : aI (nA S q k n) q j = 0 := by rw [aI_nA, if_pos rfl]
theorem rd_nAR' {S : Hp} {q k n j : Nat} : aR (nA S q k n) q j = none := by rw [aR_nA, if_pos rfl]
theorem rd_tIa {S : Hp} {a b j i : Nat} {v c : Int32} (h : a ≠ b) (hc : aI S a i = c) : aI (tI S b j v) a i = c := (if_neg (fun q => h q.1)).trans hc
theorem rd_rIa {S : Hp} {a b i : Nat} {f : Nat → Int32} {c : Int32} (h : a ≠ b) (hc : aI S a i = c) : aI (rI S b f) a i = c := by
  rw [aI_rI, if_neg h]; exact hc
theorem fill_step {S : Hp} {a i : Nat} {v : Int32} (h : ∀ j, j < i → aI S a j = v) (j : Nat) (hj : j < i + 1) : aI (tI S a i v) a j = v := by
  rw [aI_tI]
  by_cases e : j = i
  · rw [if_pos ⟨rfl, e⟩]
  · rw [if_neg (fun q => e q.2)]
    exact h j (by omega)
theorem inr_of {S : Hp} {a n : Nat} {i : Int32} (h : hN S a = n) (h2 : vp_in i n) : vp_in i (hN S a) := by rw [h]; exact h2
theorem len_of {S : Hp} {a n : Nat} {v : Int32} (h : hN S a = n) (h2 : Int32.ofNat n = v) : Int32.ofNat (hN S a) = v := by rw [h]; exact h2
theorem vp_lit {i : Int32} {n : Nat} (h : ¬ (i < 0 ∨ n ≤ i.toNatClampNeg)) : vp_in i n := h
theorem CM.cells {x : JX} {d K0 N0 k : Nat} {ret : Option FieldType} {S0 : Hp} {Q : Option Value → Hp → Prop} (M : CM x d K0 N0 ret S0 Q) (h : k ≤ K0) : k ≤ (x_R x).cells := by rw [M.1]; exact h
theorem CM.slots {x : JX} {d K0 N0 k : Nat} {ret : Option FieldType} {S0 : Hp} {Q : Option Value → Hp → Prop} (M : CM x d K0 N0 ret S0 Q) (h : k ≤ N0) : k ≤ (x_R x).slots := by rw [M.1]; exact h
theorem CM.fl {x : JX} {d K0 N0 : Nat} {ret : Option FieldType} {S0 : Hp} {Q : Option Value → Hp → Prop} (M : CM x d K0 N0 ret S0 Q) (h : 1 ≤ d) : 1 ≤ (x_R x).frames ∧ 20 ≤ (x_R x).locals := by
  rw [M.1]
  exact ⟨h, show 20 ≤ 40 * d by omega⟩
def notOi : Cond → Bool
  | .methodLinkNest _ _ y _ => !(decide (y.cls = "java/lang/Object"))
  | _ => true
set_option maxRecDepth 100000 in
theorem nst_oi_tab : NST.all notOi = true := by decide +kernel
theorem nst_oi {own : String} {idx : Nat} : ∀ host, Cond.methodLinkNest own idx Lib.objectInit host ∉ NST := fun host h => by
  have := List.all_eq_true.mp nst_oi_tab _ h
  exact Bool.noConfusion (show false = true from this)
theorem gx_Environment {x : JX} {own : String} {cc : ByteArray} (C : CB x own cc) : va_AO "PrinterHouse$Environment" (x_s x) := C.2.2.2.2.2.2.2.2.2.2.2.2.2.1
theorem gx_Reading {x : JX} {own : String} {cc : ByteArray} (C : CB x own cc) : va_AO "PrinterHouse$Reading" (x_s x) := C.2.2.2.2.2.2.2.2.2.2.2.2.2.2.1
theorem gx_Tile {x : JX} {own : String} {cc : ByteArray} (C : CB x own cc) : va_AO "PrinterHouse$Tile" (x_s x) := C.2.2.2.2.2.2.2.2.2.2.2.2.2.2.2.1
theorem gx_rows {x : JX} {own : String} {cc : ByteArray} (C : CB x own cc) : va_AOA .int (x_s x) := C.2.2.2.2.2.2.2.2.2.2.2.2.2.2.2.2
theorem ne_of_nin {l : List Nat} {a q : Nat} (hq : q ∉ l) (ha : a ∈ l) : a ≠ q := fun e => hq (e ▸ ha)
end
section
/-- an array of rows and its rows -/
def nM (S : Hp) (q : Nat) (rs : List Nat) (N K : Nat) : Hp := (q :: (hL S ++ rs), (fun a => if a = q then 21 else if a ∈ rs then 14 else hK S a), hI S, hJ S, hR S, (fun a => if a = q then N else if a ∈ rs then K else hN S a), (fun a => if a ∈ rs then (fun _ => 0) else aI S a), aJ S, (fun a => if a = q then (fun i => rs[i]?) else aR S a))
/-- what is known of a new array of rows -/
def Rows (S S' : Hp) (q N K : Nat) : Prop := (∀ i, i < N → ∃ y, aR S' q i = some y ∧ y ∉ hL S ∧ y ∈ hL S' ∧ Kd S' y 14 ∧ Ln S' y K ∧ ∀ j, aI S' y j = 0) ∧ ∀ i j y, i < N → j < N → aR S' q i = some y → aR S' q j = some y → i = j
theorem nM_q {cy : Nat → ClassId} {S : Hp} {q : Nat} {rs : List Nat} {N K : Nat} : pf cy (nM S q rs N K) q = .inl (cy 21, N, .inr (.inr (.inr (.inr (fun i => rs[i]?))))) := by
  have h : hK (nM S q rs N K) q = 21 := if_pos rfl
  rw [pf_R h (by decide)]
  have h1 : hN (nM S q rs N K) q = N := if_pos rfl
  have h2 : aR (nM S q rs N K) q = fun i => rs[i]? := if_pos rfl
  rw [h1, h2]
theorem nM_r {cy : Nat → ClassId} {S : Hp} {q a : Nat} {rs : List Nat} {N K : Nat} (hq : a ≠ q) (ha : a ∈ rs) : pf cy (nM S q rs N K) a = .inl (cy 14, K, .inl (fun _ => 0)) := by
  have h : hK (nM S q rs N K) a = 14 := (if_neg hq).trans (if_pos ha)
  rw [pf_I h (by decide) (by decide) (by decide)]
  have h1 : hN (nM S q rs N K) a = K := (if_neg hq).trans (if_pos ha)
  have h2 : aI (nM S q rs N K) a = fun _ => 0 := if_pos ha
  rw [h1, h2]
theorem nM_o {cy : Nat → ClassId} {S : Hp} {q a : Nat} {rs : List Nat} {N K : Nat} (hq : a ≠ q) (ha : a ∉ rs) : pf cy S a = pf cy (nM S q rs N K) a :=
  pf_off ((if_neg hq).trans (if_neg ha)) ((if_neg hq).trans (if_neg ha)) (fun _ => rfl) (fun _ => rfl) (fun _ => rfl) (if_neg ha) rfl (if_neg hq)
theorem Fm_nM {WI WR : Nat → Nat → Prop} {WA : Nat → Prop} {S : Hp} {q : Nat} {rs : List Nat} {N K : Nat} (hq : q ∉ hL S) (hr : ∀ a, a ∈ rs → a ∉ hL S) : Fm WI WR WA S (nM S q rs N K) := fun a ha => by
  have e : a ≠ q := fun e => hq (e ▸ ha)
  have e2 : a ∉ rs := fun h => hr a h ha
  refine ⟨List.mem_cons_of_mem _ (List.mem_append_left _ ha), (if_neg e).trans (if_neg e2), (if_neg e).trans (if_neg e2), fun f _ => ⟨rfl, rfl⟩, fun f _ => rfl, fun _ j => ⟨?_, rfl, ?_⟩⟩
  · exact congrFun (if_neg e2 : aI (nM S q rs N K) a = aI S a) j
  · exact congrFun (if_neg e : aR (nM S q rs N K) a = aR S a) j
theorem inner_int (c : ClassId) (K : Nat) : Jvm.Free.Multi.innerC c K (defaultValue .int) = vp_cell c (K, .inl (fun _ => 0)) := by
  show ({ cls := c, slots := Array.replicate K (.int 0), vm := .none } : Cell) = _
  rw [arrV_new]
  rfl
section JRM
variable {x : JX} {own : String} {cc : ByteArray} {k n pc tgt : Nat} {S : Hp} {lv : List (Nat × Value)} {st : List Value}
theorem j_mna (C : CB x own cc) {idx N K : Nat} {u v : Int32} (hkl : Cond.classLink own idx "[[I" ∈ TBL) (hu : ¬ u < 0) (hv : ¬ v < 0) (hN' : u.toNatClampNeg = N) (hK' : v.toNatClampNeg = K) (hb1 : N * 4 ≤ 536870912) (hb2 : K * 4 ≤ 536870912) (hk : k + (1 + N) ≤ (x_R x).cells) (hn : n + (N + N * K) ≤ (x_R x).slots) (dc : decode cc pc = .ok (.multianewarray idx 2, 4)) (ha : Cond.arrayClass .int ∈ TBL)
    (KK : ∀ (q : Nat) (S' : Hp), q ∉ hL S → Fm (fun _ _ => False) (fun _ _ => False) (fun _ => False) S S' → q ∈ hL S' → Kd S' q 21 → Ln S' q N → Rows S S' q N K → J x (k + 1 + N) (n + N + N * K) S' lv (pc + 4) (.ref q :: st)) : J x k n S lv pc (.int v :: .int u :: st) := fun H locs ls hP hD hS hl => by
  have hcy : (x_s x).vm.findClass (FieldType.array .int).toString = some ((x_v x).2.1 14) := by
    have := (C.2.2.2.2.2.2.1.2 1 _ (rfl : (TY (x_v x).2.1)[1]? = some ((x_v x).2.1 14, .int))).2
    exact this
  refine va_mna (X := []) (L := hL S) (f := pf (x_v x).2.1 S) (ty := .int) (z := (K, .inl (fun _ => 0))) C.1 C.2.1 C.2.2.2.1 (C.2.2.2.2.1 _ hkl) (gx_rows C) (C.2.2.2.2.1 _ ha) hcy C.2.2.2.2.2.2.1 hP hD hS C.2.2.2.2.2.1 hu hv hN' hK' hb1 hb2 (by omega) rfl rfl hk hn (fun c => inner_int c K) dc (fun q r cA H1 hinj hfr hK1 hP1 hD1 hS1 => ?_)
  have e := cy_prim (t := 8) (kd := 21) C.2.2.2.2.2.2.1 rfl (fun _ h => by cases h) hK1
  subst e
  have hq : q ∉ hL S ++ (List.range N).map r := fun h => by
    have h2 : ∃ j, (va_pl (hL S ++ (List.range N).map r) (vr_up (pf (x_v x).2.1 S) ((List.range N).map r) (.inl ((x_v x).2.1 14, (K, .inl (fun _ => 0))))))[j]? = some (q, vr_up (pf (x_v x).2.1 S) ((List.range N).map r) (.inl ((x_v x).2.1 14, (K, .inl (fun _ => 0)))) q) := va_pl_get (X := []) h
    obtain ⟨j, hj⟩ := h2
    exact absurd (hD1.1 0 (j + 1) (q, _) (q, _) rfl hj rfl) (by omega)
  have hq1 : q ∉ hL S := fun h => hq (List.mem_append_left _ h)
  have hq2 : q ∉ (List.range N).map r := fun h => hq (List.mem_append_right _ h)
  have hrs : ∀ a, a ∈ (List.range N).map r → a ∉ hL S := fun a h => by
    obtain ⟨i, hi, rfl⟩ := List.mem_map.mp h
    exact hfr i (List.mem_range.mp hi)
  have hget : ∀ i, ((List.range N).map r)[i]? = if i < N then some (r i) else none := fun i => by
    by_cases h : i < N <;> simp [h]
  have hpl : ([] ++ [(q, (.inl ((x_v x).2.1 21, N, .inr (.inr (.inr (.inr (fun i => if i < N then some (r i) else none))))) : va_E))]) ++ va_pl (hL S ++ (List.range N).map r) (vr_up (pf (x_v x).2.1 S) ((List.range N).map r) (.inl ((x_v x).2.1 14, (K, .inl (fun _ => 0))))) = pl (x_v x).2.1 (nM S q ((List.range N).map r) N K) := by
    show (q, _) :: va_pl (hL S ++ (List.range N).map r) _ = (q, pf (x_v x).2.1 (nM S q ((List.range N).map r) N K) q) :: va_pl (hL S ++ (List.range N).map r) (pf (x_v x).2.1 (nM S q ((List.range N).map r) N K))
    rw [nM_q]
    congr 1
    · simp only [hget]
    · unfold va_pl
      refine List.map_congr_left fun a ha => ?_
      have e : a ≠ q := fun e => hq (e ▸ ha)
      by_cases h : a ∈ (List.range N).map r
      · rw [vr_up_in h, nM_r e h]
      · rw [vr_up_ne h, nM_o e h]
  rw [hpl] at hP1 hD1
  refine KK q _ hq1 (Fm_nM hq1 hrs) List.mem_cons_self (if_pos rfl) (if_pos rfl) ⟨fun i hi => ⟨r i, ?_, hfr i hi, ?_, ?_, ?_, ?_⟩, fun i j y hi hj h1 h2 => ?_⟩ H1 locs ls hP1 hD1 hS1 hl
  · show (if q = q then (fun i => ((List.range N).map r)[i]?) else aR S q) i = _
    rw [if_pos rfl]
    exact (hget i).trans (if_pos hi)
  · exact List.mem_cons_of_mem _ (List.mem_append_right _ (List.mem_map.mpr ⟨i, List.mem_range.mpr hi, rfl⟩))
  · have hm : r i ∈ (List.range N).map r := List.mem_map.mpr ⟨i, List.mem_range.mpr hi, rfl⟩
    exact (if_neg (fun e : r i = q => hq2 (e ▸ hm))).trans (if_pos hm)
  · have hm : r i ∈ (List.range N).map r := List.mem_map.mpr ⟨i, List.mem_range.mpr hi, rfl⟩
    exact (if_neg (fun e : r i = q => hq2 (e ▸ hm))).trans (if_pos hm)
  · intro j
    have hm : r i ∈ (List.range N).map r := List.mem_map.mpr ⟨i, List.mem_range.mpr hi, rfl⟩
    exact congrFun (if_pos hm : aI (nM S q ((List.range N).map r) N K) (r i) = fun _ => 0) j
  · have g1 : aR (nM S q ((List.range N).map r) N K) q i = some (r i) := by
      show (if q = q then (fun i => ((List.range N).map r)[i]?) else aR S q) i = _
      rw [if_pos rfl]
      exact (hget i).trans (if_pos hi)
    have g2 : aR (nM S q ((List.range N).map r) N K) q j = some (r j) := by
      show (if q = q then (fun i => ((List.range N).map r)[i]?) else aR S q) j = _
      rw [if_pos rfl]
      exact (hget j).trans (if_pos hj)
    exact hinj i j hi hj (Option.some.inj ((g1.symm.trans h1).trans (h2.symm.trans g2)))
end JRM
end
section
theorem dX8_init_0 : decode cX8_init 0 = .ok (.aload_n 0, 1) := by decide +kernel
theorem dX8_init_1 : decode cX8_init 1 = .ok (.invokespecial 1, 3) := by decide +kernel
theorem dX8_init_4 : decode cX8_init 4 = .ok (.aload_n 0, 1) := by decide +kernel
theorem dX8_init_5 : decode cX8_init 5 = .ok (.bipush 16, 2) := by decide +kernel
theorem dX8_init_7 : decode cX8_init 7 = .ok (.newarray .int, 2) := by decide +kernel
theorem dX8_init_9 : decode cX8_init 9 = .ok (.putfield 9, 3) := by decide +kernel
theorem dX8_init_12 : decode cX8_init 12 = .ok (.return_, 1) := by decide +kernel
set_option maxRecDepth 100000 in
set_option maxHeartbeats 4000000 in
theorem c_X8_init (S : Hp) (h : Nat) (hm : h ∈ hL S) (hk : hK S h = 8) : Ct 1 yX8_init cX8_init 1 none 1 16 [.ref h] S (fun r S' => r = none ∧ Fm (fun _ _ => False) (fun f9 b9 => b9 = h) (fun _ => False) S S' ∧ ∃ q0 : Nat, q0 ∉ hL S ∧ q0 ∈ hL S' ∧ Kd S' q0 14 ∧ Ln S' q0 16 ∧ hR S' 800 h = some q0 ∧ (∀ j, aI S' q0 j = 0)) := by
  refine ct_of (by decide) (Nat.le_of_ble_eq_true rfl) fun x hn9 C M hm9 => ?_
  have C : CB x RX8 cX8_init := C
  refine J.eq (lv' := [(0, .ref h)]) rfl rfl rfl ?_
  refine j_aload_n C dX8_init_0 rfl 0 rfl ?_
  refine j_objInit C mlX8_1 nst_oi (M.fl (by decide)) dX8_init_1 ?_
  refine j_aload_n C dX8_init_4 rfl 0 rfl ?_
  refine j_bipush (v := 16) C dX8_init_5 (by decide) ?_
  refine j_newI (N := 16) C ka_int (by decide) (by decide) (Nat.le_of_ble_eq_true rfl) (M.cells (by decide)) (M.slots (Nat.le_of_ble_eq_true rfl)) dX8_init_7 (fun q_1 hq_2 => ?_)
  have hz_3 : q_1 ∉ hL S := hq_2
  refine j_putrF (f := 800) C hm9 flX8_9o (by decide) rfl rfl dX8_init_9 (mem_old hm) (kd_nA (k := 14) (n := 16) hq_2 hm hk) rfl ?_
  exact j_vret C M dX8_init_12 (Nat.le_of_ble_eq_true rfl) (Nat.le_of_ble_eq_true rfl) ⟨rfl, (((Fm.refl (WI := (fun _ _ => False)) (WR := (fun f9 b9 => b9 = h)) (WA := (fun _ => False))).nA _ _ hq_2).sR _ (fun _ => rfl)), q_1, hz_3, mem_new, (kd_nA' (k := 14) (n := 16)), (ln_nA' (k := 14)), (rd_sR (S := (nA S q_1 14 16)) (g := 800) (a := h) (v := (some q_1))), (fun j9 => rd_nAI' (k := 14) (n := 16))⟩

theorem dX7_init_0 : decode cX7_init 0 = .ok (.aload_n 0, 1) := by decide +kernel
theorem dX7_init_1 : decode cX7_init 1 = .ok (.invokespecial 3, 3) := by decide +kernel
theorem dX7_init_4 : decode cX7_init 4 = .ok (.aload_n 0, 1) := by decide +kernel
theorem dX7_init_5 : decode cX7_init 5 = .ok (.bipush 40, 2) := by decide +kernel
theorem dX7_init_7 : decode cX7_init 7 = .ok (.newarray .int, 2) := by decide +kernel
theorem dX7_init_9 : decode cX7_init 9 = .ok (.putfield 11, 3) := by decide +kernel
theorem dX7_init_12 : decode cX7_init 12 = .ok (.return_, 1) := by decide +kernel
set_option maxRecDepth 100000 in
set_option maxHeartbeats 4000000 in
theorem c_X7_init (S : Hp) (h : Nat) (hm : h ∈ hL S) (hk : hK S h = 7) : Ct 1 yX7_init cX7_init 1 none 1 40 [.ref h] S (fun r S' => r = none ∧ Fm (fun _ _ => False) (fun f9 b9 => b9 = h) (fun _ => False) S S' ∧ ∃ q0 : Nat, q0 ∉ hL S ∧ q0 ∈ hL S' ∧ Kd S' q0 14 ∧ Ln S' q0 40 ∧ hR S' 712 h = some q0 ∧ (∀ j, aI S' q0 j = 0)) := by
  refine ct_of (by decide) (Nat.le_of_ble_eq_true rfl) fun x hn9 C M hm9 => ?_
  have C : CB x RX7 cX7_init := C
  refine J.eq (lv' := [(0, .ref h)]) rfl rfl rfl ?_
  refine j_aload_n C dX7_init_0 rfl 0 rfl ?_
  refine j_objInit C mlX7_3 nst_oi (M.fl (by decide)) dX7_init_1 ?_
  refine j_aload_n C dX7_init_4 rfl 0 rfl ?_
  refine j_bipush (v := 40) C dX7_init_5 (by decide) ?_
  refine j_newI (N := 40) C ka_int (by decide) (by decide) (Nat.le_of_ble_eq_true rfl) (M.cells (by decide)) (M.slots (Nat.le_of_ble_eq_true rfl)) dX7_init_7 (fun q_1 hq_2 => ?_)
  have hz_3 : q_1 ∉ hL S := hq_2
  refine j_putrF (f := 712) C hm9 flX7_11o (by decide) rfl rfl dX7_init_9 (mem_old hm) (kd_nA (k := 14) (n := 40) hq_2 hm hk) rfl ?_
  exact j_vret C M dX7_init_12 (Nat.le_of_ble_eq_true rfl) (Nat.le_of_ble_eq_true rfl) ⟨rfl, (((Fm.refl (WI := (fun _ _ => False)) (WR := (fun f9 b9 => b9 = h)) (WA := (fun _ => False))).nA _ _ hq_2).sR _ (fun _ => rfl)), q_1, hz_3, mem_new, (kd_nA' (k := 14) (n := 40)), (ln_nA' (k := 14)), (rd_sR (S := (nA S q_1 14 40)) (g := 712) (a := h) (v := (some q_1))), (fun j9 => rd_nAI' (k := 14) (n := 40))⟩

theorem dX4_init_0 : decode cX4_init 0 = .ok (.aload_n 0, 1) := by decide +kernel
theorem dX4_init_1 : decode cX4_init 1 = .ok (.invokespecial 1, 3) := by decide +kernel
theorem dX4_init_4 : decode cX4_init 4 = .ok (.aload_n 0, 1) := by decide +kernel
theorem dX4_init_5 : decode cX4_init 5 = .ok (.bipush 20, 2) := by decide +kernel
theorem dX4_init_7 : decode cX4_init 7 = .ok (.newarray .int, 2) := by decide +kernel
theorem dX4_init_9 : decode cX4_init 9 = .ok (.putfield 9, 3) := by decide +kernel
theorem dX4_init_12 : decode cX4_init 12 = .ok (.return_, 1) := by decide +kernel
set_option maxRecDepth 100000 in
set_option maxHeartbeats 4000000 in
theorem c_X4_init (S : Hp) (h : Nat) (hm : h ∈ hL S) (hk : hK S h = 4) : Ct 1 yX4_init cX4_init 1 none 1 20 [.ref h] S (fun r S' => r = none ∧ Fm (fun _ _ => False) (fun f9 b9 => b9 = h) (fun _ => False) S S' ∧ ∃ q0 : Nat, q0 ∉ hL S ∧ q0 ∈ hL S' ∧ Kd S' q0 14 ∧ Ln S' q0 20 ∧ hR S' 407 h = some q0 ∧ (∀ j, aI S' q0 j = 0)) := by
  refine ct_of (by decide) (Nat.le_of_ble_eq_true rfl) fun x hn9 C M hm9 => ?_
  have C : CB x RX4 cX4_init := C
  refine J.eq (lv' := [(0, .ref h)]) rfl rfl rfl ?_
  refine j_aload_n C dX4_init_0 rfl 0 rfl ?_
  refine j_objInit C mlX4_1 nst_oi (M.fl (by decide)) dX4_init_1 ?_
  refine j_aload_n C dX4_init_4 rfl 0 rfl ?_
  refine j_bipush (v := 20) C dX4_init_5 (by decide) ?_
  refine j_newI (N := 20) C ka_int (by decide) (by decide) (Nat.le_of_ble_eq_true rfl) (M.cells (by decide)) (M.slots (Nat.le_of_ble_eq_true rfl)) dX4_init_7 (fun q_1 hq_2 => ?_)
  have hz_3 : q_1 ∉ hL S := hq_2
  refine j_putrF (f := 407) C hm9 flX4_9o (by decide) rfl rfl dX4_init_9 (mem_old hm) (kd_nA (k := 14) (n := 20) hq_2 hm hk) rfl ?_
  exact j_vret C M dX4_init_12 (Nat.le_of_ble_eq_true rfl) (Nat.le_of_ble_eq_true rfl) ⟨rfl, (((Fm.refl (WI := (fun _ _ => False)) (WR := (fun f9 b9 => b9 = h)) (WA := (fun _ => False))).nA _ _ hq_2).sR _ (fun _ => rfl)), q_1, hz_3, mem_new, (kd_nA' (k := 14) (n := 20)), (ln_nA' (k := 14)), (rd_sR (S := (nA S q_1 14 20)) (g := 407) (a := h) (v := (some q_1))), (fun j9 => rd_nAI' (k := 14) (n := 20))⟩

theorem dX5_init_0 : decode cX5_init 0 = .ok (.aload_n 0, 1) := by decide +kernel
theorem dX5_init_1 : decode cX5_init 1 = .ok (.invokespecial 3, 3) := by decide +kernel
theorem dX5_init_4 : decode cX5_init 4 = .ok (.aload_n 0, 1) := by decide +kernel
theorem dX5_init_5 : decode cX5_init 5 = .ok (.iconst 0, 1) := by decide +kernel
theorem dX5_init_6 : decode cX5_init 6 = .ok (.newarray .byte, 2) := by decide +kernel
theorem dX5_init_8 : decode cX5_init 8 = .ok (.putfield 9, 3) := by decide +kernel
theorem dX5_init_11 : decode cX5_init 11 = .ok (.return_, 1) := by decide +kernel
set_option maxRecDepth 100000 in
set_option maxHeartbeats 4000000 in
theorem c_X5_init (S : Hp) (h : Nat) (hm : h ∈ hL S) (hk : hK S h = 5) : Ct 1 yX5_init cX5_init 1 none 1 0 [.ref h] S (fun r S' => r = none ∧ Fm (fun _ _ => False) (fun f9 b9 => b9 = h) (fun _ => False) S S' ∧ ∃ q0 : Nat, q0 ∉ hL S ∧ q0 ∈ hL S' ∧ Kd S' q0 13 ∧ Ln S' q0 0 ∧ hR S' 500 h = some q0 ∧ (∀ j, aI S' q0 j = 0)) := by
  refine ct_of (by decide) (Nat.le_of_ble_eq_true rfl) fun x hn9 C M hm9 => ?_
  have C : CB x RX5 cX5_init := C
  refine J.eq (lv' := [(0, .ref h)]) rfl rfl rfl ?_
  refine j_aload_n C dX5_init_0 rfl 0 rfl ?_
  refine j_objInit C mlX5_3 nst_oi (M.fl (by decide)) dX5_init_1 ?_
  refine j_aload_n C dX5_init_4 rfl 0 rfl ?_
  refine j_iconst (v := 0) C dX5_init_5 (by decide) ?_
  refine j_newB (N := 0) C ka_byte (by decide) (by decide) (Nat.le_of_ble_eq_true rfl) (M.cells (by decide)) (M.slots (Nat.le_of_ble_eq_true rfl)) dX5_init_6 (fun q_1 hq_2 => ?_)
  have hz_3 : q_1 ∉ hL S := hq_2
  refine j_putr (f := 500) C flX5_9 (by decide) rfl rfl dX5_init_8 (mem_old hm) (kd_nA (k := 13) (n := 0) hq_2 hm hk) rfl ?_
  exact j_vret C M dX5_init_11 (Nat.le_of_ble_eq_true rfl) (Nat.le_of_ble_eq_true rfl) ⟨rfl, (((Fm.refl (WI := (fun _ _ => False)) (WR := (fun f9 b9 => b9 = h)) (WA := (fun _ => False))).nA _ _ hq_2).sR _ (fun _ => rfl)), q_1, hz_3, mem_new, (kd_nA' (k := 13) (n := 0)), (ln_nA' (k := 13)), (rd_sR (S := (nA S q_1 13 0)) (g := 500) (a := h) (v := (some q_1))), (fun j9 => rd_nAI' (k := 13) (n := 0))⟩

theorem dX10_init_0 : decode cX10_init 0 = .ok (.aload_n 0, 1) := by decide +kernel
theorem dX10_init_1 : decode cX10_init 1 = .ok (.invokespecial 1, 3) := by decide +kernel
theorem dX10_init_4 : decode cX10_init 4 = .ok (.aload_n 0, 1) := by decide +kernel
theorem dX10_init_5 : decode cX10_init 5 = .ok (.iconst 1, 1) := by decide +kernel
theorem dX10_init_6 : decode cX10_init 6 = .ok (.putfield 7, 3) := by decide +kernel
theorem dX10_init_9 : decode cX10_init 9 = .ok (.aload_n 0, 1) := by decide +kernel
theorem dX10_init_10 : decode cX10_init 10 = .ok (.iconst 1, 1) := by decide +kernel
theorem dX10_init_11 : decode cX10_init 11 = .ok (.putfield 13, 3) := by decide +kernel
theorem dX10_init_14 : decode cX10_init 14 = .ok (.aload_n 0, 1) := by decide +kernel
theorem dX10_init_15 : decode cX10_init 15 = .ok (.bipush 16, 2) := by decide +kernel
theorem dX10_init_17 : decode cX10_init 17 = .ok (.newarray .long, 2) := by decide +kernel
theorem dX10_init_19 : decode cX10_init 19 = .ok (.putfield 16, 3) := by decide +kernel
theorem dX10_init_22 : decode cX10_init 22 = .ok (.return_, 1) := by decide +kernel
set_option maxRecDepth 100000 in
set_option maxHeartbeats 4000000 in
theorem c_X10_init (S : Hp) (h : Nat) (hm : h ∈ hL S) (hk : hK S h = 10) : Ct 1 yX10_init cX10_init 1 none 1 16 [.ref h] S (fun r S' => r = none ∧ Fm (fun f9 b9 => (f9 = 1000 ∧ b9 = h) ∨ (f9 = 1001 ∧ b9 = h)) (fun f9 b9 => b9 = h) (fun _ => False) S S' ∧ hI S' 1000 h = 1 ∧ hI S' 1001 h = 1 ∧ ∃ q0 : Nat, q0 ∉ hL S ∧ q0 ∈ hL S' ∧ Kd S' q0 15 ∧ Ln S' q0 16 ∧ hR S' 1003 h = some q0) := by
  refine ct_of (by decide) (Nat.le_of_ble_eq_true rfl) fun x hn9 C M hm9 => ?_
  have C : CB x RX10 cX10_init := C
  refine J.eq (lv' := [(0, .ref h)]) rfl rfl rfl ?_
  refine j_aload_n C dX10_init_0 rfl 0 rfl ?_
  refine j_objInit C mlX10_1 nst_oi (M.fl (by decide)) dX10_init_1 ?_
  refine j_aload_n C dX10_init_4 rfl 0 rfl ?_
  refine j_iconst (v := 1) C dX10_init_5 (by decide) ?_
  refine j_puti (f := 1000) C flX10_7 (by decide) rfl rfl dX10_init_6 hm hk rfl ?_
  refine j_aload_n C dX10_init_9 rfl 0 rfl ?_
  refine j_iconst (v := 1) C dX10_init_10 (by decide) ?_
  refine j_puti (f := 1001) C flX10_13 (by decide) rfl rfl dX10_init_11 hm hk rfl ?_
  show J _ _ _ _ _ 14 _
  refine j_aload_n C dX10_init_14 rfl 0 rfl ?_
  refine j_bipush (v := 16) C dX10_init_15 (by decide) ?_
  have hf_3 : Fm (fun f9 b9 => (f9 = 1000 ∧ b9 = h) ∨ (f9 = 1001 ∧ b9 = h)) (fun f9 b9 => b9 = h) (fun _ => False) S (sI (sI S 1000 h 1) 1001 h 1) := (((Fm.refl (WI := (fun f9 b9 => (f9 = 1000 ∧ b9 = h) ∨ (f9 = 1001 ∧ b9 = h))) (WR := (fun f9 b9 => b9 = h)) (WA := (fun _ => False))).sI _ (fun _ => (Or.inl ⟨rfl, rfl⟩))).sI _ (fun _ => (Or.inr ⟨rfl, rfl⟩)))
  refine j_newJ (N := 16) C ka_long (by decide) (by decide) (Nat.le_of_ble_eq_true rfl) (M.cells (by decide)) (M.slots (Nat.le_of_ble_eq_true rfl)) dX10_init_17 (fun q_1 hq_2 => ?_)
  have hz_4 : q_1 ∉ hL S := fun h9 => hq_2 (hf_3.mem h9)
  refine j_putrF (f := 1003) C hm9 flX10_16o (by decide) rfl rfl dX10_init_19 (mem_old hm) (kd_nA (k := 15) (n := 16) hq_2 hm hk) rfl ?_
  exact j_vret C M dX10_init_22 (Nat.le_of_ble_eq_true rfl) (Nat.le_of_ble_eq_true rfl) ⟨rfl, ((hf_3.nA _ _ hq_2).sR _ (fun _ => rfl)), (rd_sIf (S := (sI S 1000 h 1)) (g := 1001) (a := h) (v := 1) (by decide) (rd_sI (S := S) (g := 1000) (a := h) (v := 1))), (rd_sI (S := (sI S 1000 h 1)) (g := 1001) (a := h) (v := 1)), q_1, hz_4, mem_new, (kd_nA' (k := 15) (n := 16)), (ln_nA' (k := 15)), (rd_sR (S := (nA (sI (sI S 1000 h 1) 1001 h 1) q_1 15 16)) (g := 1003) (a := h) (v := (some q_1)))⟩

theorem dX1_init_0 : decode cX1_init 0 = .ok (.aload_n 0, 1) := by decide +kernel
theorem dX1_init_1 : decode cX1_init 1 = .ok (.invokespecial 3, 3) := by decide +kernel
theorem dX1_init_4 : decode cX1_init 4 = .ok (.aload_n 0, 1) := by decide +kernel
theorem dX1_init_5 : decode cX1_init 5 = .ok (.new 9, 3) := by decide +kernel
theorem dX1_init_8 : decode cX1_init 8 = .ok (.dup, 1) := by decide +kernel
theorem dX1_init_9 : decode cX1_init 9 = .ok (.invokespecial 11, 3) := by decide +kernel
theorem dX1_init_12 : decode cX1_init 12 = .ok (.putfield 12, 3) := by decide +kernel
theorem dX1_init_15 : decode cX1_init 15 = .ok (.aload_n 0, 1) := by decide +kernel
theorem dX1_init_16 : decode cX1_init 16 = .ok (.new 18, 3) := by decide +kernel
theorem dX1_init_19 : decode cX1_init 19 = .ok (.dup, 1) := by decide +kernel
theorem dX1_init_20 : decode cX1_init 20 = .ok (.invokespecial 20, 3) := by decide +kernel
theorem dX1_init_23 : decode cX1_init 23 = .ok (.putfield 21, 3) := by decide +kernel
theorem dX1_init_26 : decode cX1_init 26 = .ok (.aload_n 0, 1) := by decide +kernel
theorem dX1_init_27 : decode cX1_init 27 = .ok (.new 25, 3) := by decide +kernel
theorem dX1_init_30 : decode cX1_init 30 = .ok (.dup, 1) := by decide +kernel
theorem dX1_init_31 : decode cX1_init 31 = .ok (.invokespecial 27, 3) := by decide +kernel
theorem dX1_init_34 : decode cX1_init 34 = .ok (.putfield 28, 3) := by decide +kernel
theorem dX1_init_37 : decode cX1_init 37 = .ok (.aload_n 0, 1) := by decide +kernel
theorem dX1_init_38 : decode cX1_init 38 = .ok (.bipush 8, 2) := by decide +kernel
theorem dX1_init_40 : decode cX1_init 40 = .ok (.newarray .int, 2) := by decide +kernel
theorem dX1_init_42 : decode cX1_init 42 = .ok (.putfield 34, 3) := by decide +kernel
theorem dX1_init_45 : decode cX1_init 45 = .ok (.aload_n 0, 1) := by decide +kernel
theorem dX1_init_46 : decode cX1_init 46 = .ok (.bipush 8, 2) := by decide +kernel
theorem dX1_init_48 : decode cX1_init 48 = .ok (.newarray .int, 2) := by decide +kernel
theorem dX1_init_50 : decode cX1_init 50 = .ok (.putfield 38, 3) := by decide +kernel
theorem dX1_init_53 : decode cX1_init 53 = .ok (.return_, 1) := by decide +kernel
set_option maxRecDepth 100000 in
set_option maxHeartbeats 4000000 in
theorem c_X1_init (S : Hp) (h : Nat) (hm : h ∈ hL S) (hk : hK S h = 1) : Ct 2 yX1_init cX1_init 1 none 8 117 [.ref h] S (fun r S' => r = none ∧ Fm (fun _ _ => False) (fun f9 b9 => b9 = h) (fun _ => False) S S') := by
  refine ct_of (by decide) (Nat.le_of_ble_eq_true rfl) fun x hn9 C M hm9 => ?_
  have C : CB x RX1 cX1_init := C
  refine J.eq (lv' := [(0, .ref h)]) rfl rfl rfl ?_
  refine j_aload_n C dX1_init_0 rfl 0 rfl ?_
  refine j_objInit C mlX1_3 nst_oi (M.fl (by decide)) dX1_init_1 ?_
  refine j_aload_n C dX1_init_4 rfl 0 rfl ?_
  refine j_new (N := 13) C (ci := 7) rfl rfl klX1_9 knX7 kiX7 (M.cells (by decide)) (M.slots (by decide)) dX1_init_5 (fun q_1 hq_2 => ?_)
  have hz_3 : q_1 ∉ hL S := hq_2
  refine j_dup C dX1_init_8 rfl ?_
  have hf_4 : Fm (fun _ _ => False) (fun f9 b9 => b9 = h) (fun _ => False) S (nO S q_1 7) := ((Fm.refl (WI := (fun _ _ => False)) (WR := (fun f9 b9 => b9 = h)) (WA := (fun _ => False))).nO _ hq_2)
  refine j_callI C [] [.ref q_1, .ref h] mlX1_11 mcX7_init (c_X7_init (nO S q_1 7) q_1 mem_new (kd_nO' (k := 7))) (M.rm (by decide) (by decide) (Nat.le_of_ble_eq_true rfl) (Nat.le_of_ble_eq_true rfl)) rfl rfl (Nat.le_of_ble_eq_true rfl) dX1_init_9 (fun r_12 S_13 hp_14 => ?_)
  obtain ⟨rfl, hf_15, q_5, e_6, e_7, e_8, e_9, e_10, e_11⟩ := hp_14
  refine J.eq (st' := [.ref q_1, .ref h]) rfl rfl rfl ?_
  have hm_16 : h ∈ hL S_13 := hf_15.mem (mem_old hm)
  have hk_17 : Kd S_13 h 1 := hf_15.kd (mem_old hm) (kd_nO (k := 7) hq_2 hm hk)
  have hm_18 : q_1 ∈ hL S_13 := hf_15.mem mem_new
  have hk_19 : Kd S_13 q_1 7 := hf_15.kd mem_new (kd_nO' (k := 7))
  have hf_20 : Fm (fun _ _ => False) (fun f9 b9 => b9 = h) (fun _ => False) S S_13 := hf_4.then hf_15 (fun a9 ha9 => ⟨(fun f9 h9 => h9.elim), (fun f9 h9 => (fun h8 => absurd (h8 ▸ ha9) hz_3) h9), (fun h9 => h9.elim)⟩)
  have hz_21 : q_5 ∉ hL S := fun h9 => e_6 (hf_4.mem h9)
  refine j_putrF (f := 100) C hm9 flX1_12o (by decide) rfl rfl dX1_init_12 hm_16 hk_17 rfl ?_
  refine j_aload_n C dX1_init_15 rfl 0 rfl ?_
  show J _ _ _ _ _ 16 _
  have hf_24 : Fm (fun _ _ => False) (fun f9 b9 => b9 = h) (fun _ => False) S (sR S_13 100 h (some q_1)) := (hf_20.sR _ (fun _ => rfl))
  refine j_new (N := 8) C (ci := 4) rfl rfl klX1_18 knX4 kiX4 (M.cells (by decide)) (M.slots (by decide)) dX1_init_16 (fun q_22 hq_23 => ?_)
  have hz_25 : q_22 ∉ hL S := fun h9 => hq_23 (hf_24.mem h9)
  refine j_dup C dX1_init_19 rfl ?_
  have hf_26 : Fm (fun _ _ => False) (fun f9 b9 => b9 = h) (fun _ => False) S (nO (sR S_13 100 h (some q_1)) q_22 4) := (hf_24.nO _ hq_23)
  refine j_callI C [] [.ref q_22, .ref h] mlX1_20 mcX4_init (c_X4_init (nO (sR S_13 100 h (some q_1)) q_22 4) q_22 mem_new (kd_nO' (k := 4))) (M.rm (by decide) (by decide) (Nat.le_of_ble_eq_true rfl) (Nat.le_of_ble_eq_true rfl)) rfl rfl (Nat.le_of_ble_eq_true rfl) dX1_init_20 (fun r_34 S_35 hp_36 => ?_)
  obtain ⟨rfl, hf_37, q_27, e_28, e_29, e_30, e_31, e_32, e_33⟩ := hp_36
  refine J.eq (st' := [.ref q_22, .ref h]) rfl rfl rfl ?_
  have hz_38 : ∀ j, aI S_35 q_5 j = 0 := fun j9 => (hf_37.ai (mem_old e_7) (fun h9 => h9) j9).trans (e_11 j9)
  have hm_39 : h ∈ hL S_35 := hf_37.mem (mem_old hm_16)
  have hk_40 : Kd S_35 h 1 := hf_37.kd (mem_old hm_16) (kd_nO (k := 4) hq_23 hm_16 hk_17)
  have hm_41 : q_1 ∈ hL S_35 := hf_37.mem (mem_old hm_18)
  have hk_42 : Kd S_35 q_1 7 := hf_37.kd (mem_old hm_18) (kd_nO (k := 4) hq_23 hm_18 hk_19)
  have hm_43 : q_22 ∈ hL S_35 := hf_37.mem mem_new
  have hk_44 : Kd S_35 q_22 4 := hf_37.kd mem_new (kd_nO' (k := 4))
  have hm_45 : q_5 ∈ hL S_35 := hf_37.mem (mem_old e_7)
  have hk_46 : Kd S_35 q_5 14 := hf_37.kd (mem_old e_7) (kd_nO (k := 4) hq_23 e_7 e_8)
  have hn_47 : Ln S_35 q_5 40 := hf_37.ln (mem_old e_7) e_9
  have hv_48 : hR S_35 100 h = (some q_1) := hf_37.fr (mem_old hm_16) (fun q9 => (fun e9 => absurd (((kd_nO (k := 4) hq_23 hm_16 hk_17)).symm.trans ((congrArg (hK _) e9).trans (kd_nO' (k := 4)))) (by decide)) q9) (rd_nOR (k := 4) hq_23 hm_16 (rd_sR (S := S_13) (g := 100) (a := h) (v := (some q_1))))
  have hv_49 : hR S_35 712 q_1 = (some q_5) := hf_37.fr (mem_old hm_18) (fun q9 => (fun e9 => absurd (((kd_nO (k := 4) hq_23 hm_18 hk_19)).symm.trans ((congrArg (hK _) e9).trans (kd_nO' (k := 4)))) (by decide)) q9) (rd_nOR (k := 4) hq_23 hm_18 (rd_sRf (S := S_13) (g := 100) (a := h) (v := (some q_1)) (by decide) e_10))
  have hf_50 : Fm (fun _ _ => False) (fun f9 b9 => b9 = h) (fun _ => False) S S_35 := hf_26.then hf_37 (fun a9 ha9 => ⟨(fun f9 h9 => h9.elim), (fun f9 h9 => (fun h8 => absurd (h8 ▸ ha9) hz_25) h9), (fun h9 => h9.elim)⟩)
  have hz_51 : q_27 ∉ hL S := fun h9 => e_28 (hf_26.mem h9)
  refine j_putrF (f := 101) C hm9 flX1_21o (by decide) rfl rfl dX1_init_23 hm_39 hk_40 rfl ?_
  refine j_aload_n C dX1_init_26 rfl 0 rfl ?_
  have hf_54 : Fm (fun _ _ => False) (fun f9 b9 => b9 = h) (fun _ => False) S (sR S_35 101 h (some q_22)) := (hf_50.sR _ (fun _ => rfl))
  refine j_new (N := 4) C (ci := 10) rfl rfl klX1_25 knX10 kiX10 (M.cells (by decide)) (M.slots (by decide)) dX1_init_27 (fun q_52 hq_53 => ?_)
  have hz_55 : q_52 ∉ hL S := fun h9 => hq_53 (hf_54.mem h9)
  refine j_dup C dX1_init_30 rfl ?_
  have hf_56 : Fm (fun _ _ => False) (fun f9 b9 => b9 = h) (fun _ => False) S (nO (sR S_35 101 h (some q_22)) q_52 10) := (hf_54.nO _ hq_53)
  refine j_callI C [] [.ref q_52, .ref h] mlX1_27 mcX10_init (c_X10_init (nO (sR S_35 101 h (some q_22)) q_52 10) q_52 mem_new (kd_nO' (k := 10))) (M.rm (by decide) (by decide) (Nat.le_of_ble_eq_true rfl) (Nat.le_of_ble_eq_true rfl)) rfl rfl (Nat.le_of_ble_eq_true rfl) dX1_init_31 (fun r_65 S_66 hp_67 => ?_)
  obtain ⟨rfl, hf_68, e_58, e_59, q_57, e_60, e_61, e_62, e_63, e_64⟩ := hp_67
  refine J.eq (st' := [.ref q_52, .ref h]) rfl rfl rfl ?_
  have hz_69 : ∀ j, aI S_66 q_27 j = 0 := fun j9 => (hf_68.ai (mem_old e_29) (fun h9 => h9) j9).trans (e_33 j9)
  have hz_70 : ∀ j, aI S_66 q_5 j = 0 := fun j9 => (hf_68.ai (mem_old hm_45) (fun h9 => h9) j9).trans (hz_38 j9)
  have hm_71 : h ∈ hL S_66 := hf_68.mem (mem_old hm_39)
  have hk_72 : Kd S_66 h 1 := hf_68.kd (mem_old hm_39) (kd_nO (k := 10) hq_53 hm_39 hk_40)
  have hm_73 : q_1 ∈ hL S_66 := hf_68.mem (mem_old hm_41)
  have hk_74 : Kd S_66 q_1 7 := hf_68.kd (mem_old hm_41) (kd_nO (k := 10) hq_53 hm_41 hk_42)
  have hm_75 : q_22 ∈ hL S_66 := hf_68.mem (mem_old hm_43)
  have hk_76 : Kd S_66 q_22 4 := hf_68.kd (mem_old hm_43) (kd_nO (k := 10) hq_53 hm_43 hk_44)
  have hm_77 : q_27 ∈ hL S_66 := hf_68.mem (mem_old e_29)
  have hk_78 : Kd S_66 q_27 14 := hf_68.kd (mem_old e_29) (kd_nO (k := 10) hq_53 e_29 e_30)
  have hn_79 : Ln S_66 q_27 20 := hf_68.ln (mem_old e_29) e_31
  have hm_80 : q_5 ∈ hL S_66 := hf_68.mem (mem_old hm_45)
  have hk_81 : Kd S_66 q_5 14 := hf_68.kd (mem_old hm_45) (kd_nO (k := 10) hq_53 hm_45 hk_46)
  have hn_82 : Ln S_66 q_5 40 := hf_68.ln (mem_old hm_45) hn_47
  have hm_83 : q_52 ∈ hL S_66 := hf_68.mem mem_new
  have hk_84 : Kd S_66 q_52 10 := hf_68.kd mem_new (kd_nO' (k := 10))
  have hv_85 : hR S_66 100 h = (some q_1) := hf_68.fr (mem_old hm_39) (fun q9 => (fun e9 => absurd (((kd_nO (k := 10) hq_53 hm_39 hk_40)).symm.trans ((congrArg (hK _) e9).trans (kd_nO' (k := 10)))) (by decide)) q9) (rd_nOR (k := 10) hq_53 hm_39 (rd_sRf (S := S_35) (g := 101) (a := h) (v := (some q_22)) (by decide) hv_48))
  have hv_86 : hR S_66 101 h = (some q_22) := hf_68.fr (mem_old hm_39) (fun q9 => (fun e9 => absurd (((kd_nO (k := 10) hq_53 hm_39 hk_40)).symm.trans ((congrArg (hK _) e9).trans (kd_nO' (k := 10)))) (by decide)) q9) (rd_nOR (k := 10) hq_53 hm_39 (rd_sR (S := S_35) (g := 101) (a := h) (v := (some q_22))))
  have hv_87 : hR S_66 407 q_22 = (some q_27) := hf_68.fr (mem_old hm_43) (fun q9 => (fun e9 => absurd (((kd_nO (k := 10) hq_53 hm_43 hk_44)).symm.trans ((congrArg (hK _) e9).trans (kd_nO' (k := 10)))) (by decide)) q9) (rd_nOR (k := 10) hq_53 hm_43 (rd_sRf (S := S_35) (g := 101) (a := h) (v := (some q_22)) (by decide) e_32))
  have hv_88 : hR S_66 712 q_1 = (some q_5) := hf_68.fr (mem_old hm_41) (fun q9 => (fun e9 => absurd (((kd_nO (k := 10) hq_53 hm_41 hk_42)).symm.trans ((congrArg (hK _) e9).trans (kd_nO' (k := 10)))) (by decide)) q9) (rd_nOR (k := 10) hq_53 hm_41 (rd_sRf (S := S_35) (g := 101) (a := h) (v := (some q_22)) (by decide) hv_49))
  have hf_89 : Fm (fun _ _ => False) (fun f9 b9 => b9 = h) (fun _ => False) S S_66 := hf_56.then hf_68 (fun a9 ha9 => ⟨(fun f9 h9 => (fun h9 => h9.elim (fun h8 => absurd (h8.2 ▸ ha9) hz_55) (fun h8 => absurd (h8.2 ▸ ha9) hz_55)) h9), (fun f9 h9 => (fun h8 => absurd (h8 ▸ ha9) hz_55) h9), (fun h9 => h9.elim)⟩)
  have hz_90 : q_57 ∉ hL S := fun h9 => e_60 (hf_56.mem h9)
  show J _ _ _ _ _ 34 _
  refine j_putrF (f := 102) C hm9 flX1_28o (by decide) rfl rfl dX1_init_34 hm_71 hk_72 rfl ?_
  refine j_aload_n C dX1_init_37 rfl 0 rfl ?_
  refine j_bipush (v := 8) C dX1_init_38 (by decide) ?_
  have hf_93 : Fm (fun _ _ => False) (fun f9 b9 => b9 = h) (fun _ => False) S (sR S_66 102 h (some q_52)) := (hf_89.sR _ (fun _ => rfl))
  refine j_newI (N := 8) C ka_int (by decide) (by decide) (Nat.le_of_ble_eq_true rfl) (M.cells (by decide)) (M.slots (Nat.le_of_ble_eq_true rfl)) dX1_init_40 (fun q_91 hq_92 => ?_)
  have hz_94 : q_91 ∉ hL S := fun h9 => hq_92 (hf_93.mem h9)
  refine j_putrF (f := 103) C hm9 flX1_34o (by decide) rfl rfl dX1_init_42 (mem_old hm_71) (kd_nA (k := 14) (n := 8) hq_92 hm_71 hk_72) rfl ?_
  refine j_aload_n C dX1_init_45 rfl 0 rfl ?_
  refine j_bipush (v := 8) C dX1_init_46 (by decide) ?_
  have hf_97 : Fm (fun _ _ => False) (fun f9 b9 => b9 = h) (fun _ => False) S (sR (nA (sR S_66 102 h (some q_52)) q_91 14 8) 103 h (some q_91)) := ((hf_93.nA _ _ hq_92).sR _ (fun _ => rfl))
  obtain ⟨S_95, eS_96⟩ : ∃ S9 : Hp, S9 = (sR (nA (sR S_66 102 h (some q_52)) q_91 14 8) 103 h (some q_91)) := ⟨_, rfl⟩
  refine J.eq (S' := S_95) eS_96.symm rfl rfl ?_
  have hm_98 : h ∈ hL S_95 := by rw [eS_96]; exact (mem_old hm_71)
  have hk_99 : Kd S_95 h 1 := by rw [eS_96]; exact (kd_nA (k := 14) (n := 8) hq_92 hm_71 hk_72)
  have hm_100 : q_1 ∈ hL S_95 := by rw [eS_96]; exact (mem_old hm_73)
  have hk_101 : Kd S_95 q_1 7 := by rw [eS_96]; exact (kd_nA (k := 14) (n := 8) hq_92 hm_73 hk_74)
  have hm_102 : q_22 ∈ hL S_95 := by rw [eS_96]; exact (mem_old hm_75)
  have hk_103 : Kd S_95 q_22 4 := by rw [eS_96]; exact (kd_nA (k := 14) (n := 8) hq_92 hm_75 hk_76)
  have hm_104 : q_27 ∈ hL S_95 := by rw [eS_96]; exact (mem_old hm_77)
  have hk_105 : Kd S_95 q_27 14 := by rw [eS_96]; exact (kd_nA (k := 14) (n := 8) hq_92 hm_77 hk_78)
  have hn_106 : Ln S_95 q_27 20 := by rw [eS_96]; exact (ln_nA (k := 14) hq_92 hm_77 hn_79)
  have hz_107 : ∀ j, aI S_95 q_27 j = 0 := by rw [eS_96]; exact (fun j9 => rd_nAI (k := 14) (n := 8) hq_92 hm_77 (hz_69 j9))
  have hm_108 : q_5 ∈ hL S_95 := by rw [eS_96]; exact (mem_old hm_80)
  have hk_109 : Kd S_95 q_5 14 := by rw [eS_96]; exact (kd_nA (k := 14) (n := 8) hq_92 hm_80 hk_81)
  have hn_110 : Ln S_95 q_5 40 := by rw [eS_96]; exact (ln_nA (k := 14) hq_92 hm_80 hn_82)
  have hz_111 : ∀ j, aI S_95 q_5 j = 0 := by rw [eS_96]; exact (fun j9 => rd_nAI (k := 14) (n := 8) hq_92 hm_80 (hz_70 j9))
  have hm_112 : q_52 ∈ hL S_95 := by rw [eS_96]; exact (mem_old hm_83)
  have hk_113 : Kd S_95 q_52 10 := by rw [eS_96]; exact (kd_nA (k := 14) (n := 8) hq_92 hm_83 hk_84)
  have hm_114 : q_57 ∈ hL S_95 := by rw [eS_96]; exact (mem_old e_61)
  have hk_115 : Kd S_95 q_57 15 := by rw [eS_96]; exact (kd_nA (k := 14) (n := 8) hq_92 e_61 e_62)
  have hn_116 : Ln S_95 q_57 16 := by rw [eS_96]; exact (ln_nA (k := 14) hq_92 e_61 e_63)
  have hm_117 : q_91 ∈ hL S_95 := by rw [eS_96]; exact mem_new
  have hk_118 : Kd S_95 q_91 14 := by rw [eS_96]; exact (kd_nA' (k := 14) (n := 8))
  have hn_119 : Ln S_95 q_91 8 := by rw [eS_96]; exact (ln_nA' (k := 14))
  have hz_120 : ∀ j, aI S_95 q_91 j = 0 := by rw [eS_96]; exact (fun j9 => rd_nAI' (k := 14) (n := 8))
  have hv_121 : hI S_95 1000 q_52 = 1 := by rw [eS_96]; exact e_58
  have hv_122 : hI S_95 1001 q_52 = 1 := by rw [eS_96]; exact e_59
  have hv_123 : hR S_95 100 h = (some q_1) := by rw [eS_96]; exact (rd_sRf (S := (nA (sR S_66 102 h (some q_52)) q_91 14 8)) (g := 103) (a := h) (v := (some q_91)) (by decide) (rd_sRf (S := S_66) (g := 102) (a := h) (v := (some q_52)) (by decide) hv_85))
  have hv_124 : hR S_95 1003 q_52 = (some q_57) := by rw [eS_96]; exact (rd_sRf (S := (nA (sR S_66 102 h (some q_52)) q_91 14 8)) (g := 103) (a := h) (v := (some q_91)) (by decide) (rd_sRf (S := S_66) (g := 102) (a := h) (v := (some q_52)) (by decide) e_64))
  have hv_125 : hR S_95 101 h = (some q_22) := by rw [eS_96]; exact (rd_sRf (S := (nA (sR S_66 102 h (some q_52)) q_91 14 8)) (g := 103) (a := h) (v := (some q_91)) (by decide) (rd_sRf (S := S_66) (g := 102) (a := h) (v := (some q_52)) (by decide) hv_86))
  have hv_126 : hR S_95 102 h = (some q_52) := by rw [eS_96]; exact (rd_sRf (S := (nA (sR S_66 102 h (some q_52)) q_91 14 8)) (g := 103) (a := h) (v := (some q_91)) (by decide) (rd_sR (S := S_66) (g := 102) (a := h) (v := (some q_52))))
  have hv_127 : hR S_95 103 h = (some q_91) := by rw [eS_96]; exact (rd_sR (S := (nA (sR S_66 102 h (some q_52)) q_91 14 8)) (g := 103) (a := h) (v := (some q_91)))
  have hv_128 : hR S_95 407 q_22 = (some q_27) := by rw [eS_96]; exact (rd_sRf (S := (nA (sR S_66 102 h (some q_52)) q_91 14 8)) (g := 103) (a := h) (v := (some q_91)) (by decide) (rd_sRf (S := S_66) (g := 102) (a := h) (v := (some q_52)) (by decide) hv_87))
  have hv_129 : hR S_95 712 q_1 = (some q_5) := by rw [eS_96]; exact (rd_sRf (S := (nA (sR S_66 102 h (some q_52)) q_91 14 8)) (g := 103) (a := h) (v := (some q_91)) (by decide) (rd_sRf (S := S_66) (g := 102) (a := h) (v := (some q_52)) (by decide) hv_88))
  have hf_130 : Fm (fun _ _ => False) (fun f9 b9 => b9 = h) (fun _ => False) S S_95 := by rw [eS_96]; exact hf_97
  refine j_newI (N := 8) C ka_int (by decide) (by decide) (Nat.le_of_ble_eq_true rfl) (M.cells (by decide)) (M.slots (Nat.le_of_ble_eq_true rfl)) dX1_init_48 (fun q_131 hq_132 => ?_)
  have hz_133 : q_131 ∉ hL S := fun h9 => hq_132 (hf_130.mem h9)
  show J _ _ _ _ _ 50 _
  refine j_putrF (f := 104) C hm9 flX1_38o (by decide) rfl rfl dX1_init_50 (mem_old hm_98) (kd_nA (k := 14) (n := 8) hq_132 hm_98 hk_99) rfl ?_
  exact j_vret C M dX1_init_53 (Nat.le_of_ble_eq_true rfl) (Nat.le_of_ble_eq_true rfl) ⟨rfl, ((hf_130.nA _ _ hq_132).sR _ (fun _ => rfl))⟩

theorem dX0_init_0 : decode cX0_init 0 = .ok (.aload_n 0, 1) := by decide +kernel
theorem dX0_init_1 : decode cX0_init 1 = .ok (.invokespecial 3, 3) := by decide +kernel
theorem dX0_init_4 : decode cX0_init 4 = .ok (.aload_n 0, 1) := by decide +kernel
theorem dX0_init_5 : decode cX0_init 5 = .ok (.sipush 20000, 3) := by decide +kernel
theorem dX0_init_8 : decode cX0_init 8 = .ok (.newarray .int, 2) := by decide +kernel
theorem dX0_init_10 : decode cX0_init 10 = .ok (.putfield 11, 3) := by decide +kernel
theorem dX0_init_13 : decode cX0_init 13 = .ok (.aload_n 0, 1) := by decide +kernel
theorem dX0_init_14 : decode cX0_init 14 = .ok (.bipush 25, 2) := by decide +kernel
theorem dX0_init_16 : decode cX0_init 16 = .ok (.newarray .int, 2) := by decide +kernel
theorem dX0_init_18 : decode cX0_init 18 = .ok (.putfield 15, 3) := by decide +kernel
theorem dX0_init_21 : decode cX0_init 21 = .ok (.aload_n 0, 1) := by decide +kernel
theorem dX0_init_22 : decode cX0_init 22 = .ok (.new 18, 3) := by decide +kernel
theorem dX0_init_25 : decode cX0_init 25 = .ok (.dup, 1) := by decide +kernel
theorem dX0_init_26 : decode cX0_init 26 = .ok (.invokespecial 20, 3) := by decide +kernel
theorem dX0_init_29 : decode cX0_init 29 = .ok (.putfield 21, 3) := by decide +kernel
theorem dX0_init_32 : decode cX0_init 32 = .ok (.return_, 1) := by decide +kernel
set_option maxRecDepth 100000 in
set_option maxHeartbeats 4000000 in
theorem c_X0_init (S : Hp) (h : Nat) (hm : h ∈ hL S) (hk : hK S h = 0) : Ct 2 yX0_init cX0_init 1 none 4 20045 [.ref h] S (fun r S' => r = none ∧ Fm (fun _ _ => False) (fun f9 b9 => b9 = h) (fun _ => False) S S' ∧ ∃ q0 : Nat, q0 ∉ hL S ∧ q0 ∈ hL S' ∧ Kd S' q0 14 ∧ Ln S' q0 20000 ∧ hR S' 0 h = some q0 ∧ (∀ j, aI S' q0 j = 0)) := by
  refine ct_of (by decide) (Nat.le_of_ble_eq_true rfl) fun x hn9 C M hm9 => ?_
  have C : CB x RX0 cX0_init := C
  refine J.eq (lv' := [(0, .ref h)]) rfl rfl rfl ?_
  refine j_aload_n C dX0_init_0 rfl 0 rfl ?_
  refine j_objInit C mlX0_3 nst_oi (M.fl (by decide)) dX0_init_1 ?_
  refine j_aload_n C dX0_init_4 rfl 0 rfl ?_
  refine j_sipush (v := 20000) C dX0_init_5 (by decide) ?_
  refine j_newI (N := 20000) C ka_int (by decide) (by decide) (Nat.le_of_ble_eq_true rfl) (M.cells (by decide)) (M.slots (Nat.le_of_ble_eq_true rfl)) dX0_init_8 (fun q_1 hq_2 => ?_)
  have hz_3 : q_1 ∉ hL S := hq_2
  refine j_putrF (f := 0) C hm9 flX0_11o (by decide) rfl rfl dX0_init_10 (mem_old hm) (kd_nA (k := 14) (n := 20000) hq_2 hm hk) rfl ?_
  refine j_aload_n C dX0_init_13 rfl 0 rfl ?_
  refine j_bipush (v := 25) C dX0_init_14 (by decide) ?_
  show J _ _ _ _ _ 16 _
  have hf_6 : Fm (fun _ _ => False) (fun f9 b9 => b9 = h) (fun _ => False) S (sR (nA S q_1 14 20000) 0 h (some q_1)) := (((Fm.refl (WI := (fun _ _ => False)) (WR := (fun f9 b9 => b9 = h)) (WA := (fun _ => False))).nA _ _ hq_2).sR _ (fun _ => rfl))
  obtain ⟨S_4, eS_5⟩ : ∃ S9 : Hp, S9 = (sR (nA S q_1 14 20000) 0 h (some q_1)) := ⟨_, rfl⟩
  refine J.eq (S' := S_4) eS_5.symm rfl rfl ?_
  have hm_7 : h ∈ hL S_4 := by rw [eS_5]; exact (mem_old hm)
  have hk_8 : Kd S_4 h 0 := by rw [eS_5]; exact (kd_nA (k := 14) (n := 20000) hq_2 hm hk)
  have hm_9 : q_1 ∈ hL S_4 := by rw [eS_5]; exact mem_new
  have hk_10 : Kd S_4 q_1 14 := by rw [eS_5]; exact (kd_nA' (k := 14) (n := 20000))
  have hn_11 : Ln S_4 q_1 20000 := by rw [eS_5]; exact (ln_nA' (k := 14))
  have hz_12 : ∀ j, aI S_4 q_1 j = 0 := by rw [eS_5]; exact (fun j9 => rd_nAI' (k := 14) (n := 20000))
  have hv_13 : hR S_4 0 h = (some q_1) := by rw [eS_5]; exact (rd_sR (S := (nA S q_1 14 20000)) (g := 0) (a := h) (v := (some q_1)))
  have hf_14 : Fm (fun _ _ => False) (fun f9 b9 => b9 = h) (fun _ => False) S S_4 := by rw [eS_5]; exact hf_6
  refine j_newI (N := 25) C ka_int (by decide) (by decide) (Nat.le_of_ble_eq_true rfl) (M.cells (by decide)) (M.slots (Nat.le_of_ble_eq_true rfl)) dX0_init_16 (fun q_15 hq_16 => ?_)
  have hz_17 : q_15 ∉ hL S := fun h9 => hq_16 (hf_14.mem h9)
  refine j_putrF (f := 1) C hm9 flX0_15o (by decide) rfl rfl dX0_init_18 (mem_old hm_7) (kd_nA (k := 14) (n := 25) hq_16 hm_7 hk_8) rfl ?_
  refine j_aload_n C dX0_init_21 rfl 0 rfl ?_
  have hf_20 : Fm (fun _ _ => False) (fun f9 b9 => b9 = h) (fun _ => False) S (sR (nA S_4 q_15 14 25) 1 h (some q_15)) := ((hf_14.nA _ _ hq_16).sR _ (fun _ => rfl))
  obtain ⟨S_18, eS_19⟩ : ∃ S9 : Hp, S9 = (sR (nA S_4 q_15 14 25) 1 h (some q_15)) := ⟨_, rfl⟩
  refine J.eq (S' := S_18) eS_19.symm rfl rfl ?_
  have hm_21 : h ∈ hL S_18 := by rw [eS_19]; exact (mem_old hm_7)
  have hk_22 : Kd S_18 h 0 := by rw [eS_19]; exact (kd_nA (k := 14) (n := 25) hq_16 hm_7 hk_8)
  have hm_23 : q_1 ∈ hL S_18 := by rw [eS_19]; exact (mem_old hm_9)
  have hk_24 : Kd S_18 q_1 14 := by rw [eS_19]; exact (kd_nA (k := 14) (n := 25) hq_16 hm_9 hk_10)
  have hn_25 : Ln S_18 q_1 20000 := by rw [eS_19]; exact (ln_nA (k := 14) hq_16 hm_9 hn_11)
  have hz_26 : ∀ j, aI S_18 q_1 j = 0 := by rw [eS_19]; exact (fun j9 => rd_nAI (k := 14) (n := 25) hq_16 hm_9 (hz_12 j9))
  have hm_27 : q_15 ∈ hL S_18 := by rw [eS_19]; exact mem_new
  have hk_28 : Kd S_18 q_15 14 := by rw [eS_19]; exact (kd_nA' (k := 14) (n := 25))
  have hn_29 : Ln S_18 q_15 25 := by rw [eS_19]; exact (ln_nA' (k := 14))
  have hz_30 : ∀ j, aI S_18 q_15 j = 0 := by rw [eS_19]; exact (fun j9 => rd_nAI' (k := 14) (n := 25))
  have hv_31 : hR S_18 0 h = (some q_1) := by rw [eS_19]; exact (rd_sRf (S := (nA S_4 q_15 14 25)) (g := 1) (a := h) (v := (some q_15)) (by decide) hv_13)
  have hv_32 : hR S_18 1 h = (some q_15) := by rw [eS_19]; exact (rd_sR (S := (nA S_4 q_15 14 25)) (g := 1) (a := h) (v := (some q_15)))
  have hf_33 : Fm (fun _ _ => False) (fun f9 b9 => b9 = h) (fun _ => False) S S_18 := by rw [eS_19]; exact hf_20
  refine j_new (N := 4) C (ci := 10) rfl rfl klX0_18 knX10 kiX10 (M.cells (by decide)) (M.slots (by decide)) dX0_init_22 (fun q_34 hq_35 => ?_)
  have hz_36 : q_34 ∉ hL S := fun h9 => hq_35 (hf_33.mem h9)
  refine j_dup C dX0_init_25 rfl ?_
  have hf_37 : Fm (fun _ _ => False) (fun f9 b9 => b9 = h) (fun _ => False) S (nO S_18 q_34 10) := (hf_33.nO _ hq_35)
  refine j_callI C [] [.ref q_34, .ref h] mlX0_20 mcX10_init (c_X10_init (nO S_18 q_34 10) q_34 mem_new (kd_nO' (k := 10))) (M.rm (by decide) (by decide) (Nat.le_of_ble_eq_true rfl) (Nat.le_of_ble_eq_true rfl)) rfl rfl (Nat.le_of_ble_eq_true rfl) dX0_init_26 (fun r_46 S_47 hp_48 => ?_)
  obtain ⟨rfl, hf_49, e_39, e_40, q_38, e_41, e_42, e_43, e_44, e_45⟩ := hp_48
  refine J.eq (st' := [.ref q_34, .ref h]) rfl rfl rfl ?_
  have hz_50 : ∀ j, aI S_47 q_1 j = 0 := fun j9 => (hf_49.ai (mem_old hm_23) (fun h9 => h9) j9).trans (hz_26 j9)
  have hz_51 : ∀ j, aI S_47 q_15 j = 0 := fun j9 => (hf_49.ai (mem_old hm_27) (fun h9 => h9) j9).trans (hz_30 j9)
  have hm_52 : h ∈ hL S_47 := hf_49.mem (mem_old hm_21)
  have hk_53 : Kd S_47 h 0 := hf_49.kd (mem_old hm_21) (kd_nO (k := 10) hq_35 hm_21 hk_22)
  have hm_54 : q_1 ∈ hL S_47 := hf_49.mem (mem_old hm_23)
  have hk_55 : Kd S_47 q_1 14 := hf_49.kd (mem_old hm_23) (kd_nO (k := 10) hq_35 hm_23 hk_24)
  have hn_56 : Ln S_47 q_1 20000 := hf_49.ln (mem_old hm_23) hn_25
  have hm_57 : q_15 ∈ hL S_47 := hf_49.mem (mem_old hm_27)
  have hk_58 : Kd S_47 q_15 14 := hf_49.kd (mem_old hm_27) (kd_nO (k := 10) hq_35 hm_27 hk_28)
  have hn_59 : Ln S_47 q_15 25 := hf_49.ln (mem_old hm_27) hn_29
  have hm_60 : q_34 ∈ hL S_47 := hf_49.mem mem_new
  have hk_61 : Kd S_47 q_34 10 := hf_49.kd mem_new (kd_nO' (k := 10))
  have hv_62 : hR S_47 0 h = (some q_1) := hf_49.fr (mem_old hm_21) (fun q9 => (fun e9 => absurd (((kd_nO (k := 10) hq_35 hm_21 hk_22)).symm.trans ((congrArg (hK _) e9).trans (kd_nO' (k := 10)))) (by decide)) q9) (rd_nOR (k := 10) hq_35 hm_21 hv_31)
  have hv_63 : hR S_47 1 h = (some q_15) := hf_49.fr (mem_old hm_21) (fun q9 => (fun e9 => absurd (((kd_nO (k := 10) hq_35 hm_21 hk_22)).symm.trans ((congrArg (hK _) e9).trans (kd_nO' (k := 10)))) (by decide)) q9) (rd_nOR (k := 10) hq_35 hm_21 hv_32)
  have hf_64 : Fm (fun _ _ => False) (fun f9 b9 => b9 = h) (fun _ => False) S S_47 := hf_37.then hf_49 (fun a9 ha9 => ⟨(fun f9 h9 => (fun h9 => h9.elim (fun h8 => absurd (h8.2 ▸ ha9) hz_36) (fun h8 => absurd (h8.2 ▸ ha9) hz_36)) h9), (fun f9 h9 => (fun h8 => absurd (h8 ▸ ha9) hz_36) h9), (fun h9 => h9.elim)⟩)
  have hz_65 : q_38 ∉ hL S := fun h9 => e_41 (hf_37.mem h9)
  refine j_putr (f := 10) C flX0_21 (by decide) rfl rfl dX0_init_29 hm_52 hk_53 rfl ?_
  exact j_vret C M dX0_init_32 (Nat.le_of_ble_eq_true rfl) (Nat.le_of_ble_eq_true rfl) ⟨rfl, (hf_64.sR _ (fun _ => rfl)), q_1, hz_3, hm_54, hk_55, hn_56, (rd_sRf (S := S_47) (g := 10) (a := h) (v := (some q_34)) (by decide) hv_62), hz_50⟩
end
section
theorem dJ7_fill_53178_0 : decode cJ7_fill_53178 0 = .ok (.iconst 0, 1) := by decide +kernel
theorem dJ7_fill_53178_1 : decode cJ7_fill_53178 1 = .ok (.istore_n 2, 1) := by decide +kernel
theorem dJ7_fill_53178_2 : decode cJ7_fill_53178 2 = .ok (.aload_n 0, 1) := by decide +kernel
theorem dJ7_fill_53178_3 : decode cJ7_fill_53178 3 = .ok (.arraylength, 1) := by decide +kernel
theorem dJ7_fill_53178_4 : decode cJ7_fill_53178 4 = .ok (.istore_n 3, 1) := by decide +kernel
theorem dJ7_fill_53178_5 : decode cJ7_fill_53178 5 = .ok (.iload_n 2, 1) := by decide +kernel
theorem dJ7_fill_53178_6 : decode cJ7_fill_53178 6 = .ok (.iload_n 3, 1) := by decide +kernel
theorem dJ7_fill_53178_7 : decode cJ7_fill_53178 7 = .ok (.if_icmp .ge 13, 3) := by decide +kernel
theorem dJ7_fill_53178_10 : decode cJ7_fill_53178 10 = .ok (.aload_n 0, 1) := by decide +kernel
theorem dJ7_fill_53178_11 : decode cJ7_fill_53178 11 = .ok (.iload_n 2, 1) := by decide +kernel
theorem dJ7_fill_53178_12 : decode cJ7_fill_53178 12 = .ok (.iload_n 1, 1) := by decide +kernel
theorem dJ7_fill_53178_13 : decode cJ7_fill_53178 13 = .ok (.iastore, 1) := by decide +kernel
theorem dJ7_fill_53178_14 : decode cJ7_fill_53178 14 = .ok (.iinc 2 1, 3) := by decide +kernel
theorem dJ7_fill_53178_17 : decode cJ7_fill_53178 17 = .ok (.goto (-12), 3) := by decide +kernel
theorem dJ7_fill_53178_20 : decode cJ7_fill_53178 20 = .ok (.return_, 1) := by decide +kernel
set_option maxRecDepth 100000 in
set_option maxHeartbeats 4000000 in
theorem c_J7_fill (S : Hp) (a N : Nat) (v : Int32) (hm : a ∈ hL S) (hk : hK S a = 14) (hn : hN S a = N) (hlt : N < 2 ^ 31) : Ct 1 yJ7_fill_53178 cJ7_fill_53178 4 none 0 0 [.ref a, .int v] S (fun r S' => r = none ∧ Fm (fun _ _ => False) (fun _ _ => False) (fun b9 => b9 = a) S S' ∧ ∀ j, j < N → aI S' a j = v) := by
  refine ct_of (by decide) (Nat.le_of_ble_eq_true rfl) fun x hn9 C M hm9 => ?_
  have C : CB x RJ7 cJ7_fill_53178 := C
  refine J.eq (lv' := [(0, .ref a), (1, .int v)]) rfl rfl rfl ?_
  refine j_iconst (v := 0) C dJ7_fill_53178_0 (by decide) ?_
  refine j_istore_n (lv' := [(2, .int 0), (0, .ref a), (1, .int v)]) C dJ7_fill_53178_1 rfl (by rw [hn9]; decide) rfl ?_
  refine j_aload_n C dJ7_fill_53178_2 rfl 1 rfl ?_
  refine j_alen (v := nI N) C dJ7_fill_53178_3 hm hk (by decide) (by decide) (len_of (n := N) hn rfl) ?_
  refine j_istore_n (lv' := [(3, .int (nI N)), (2, .int 0), (0, .ref a), (1, .int v)]) C dJ7_fill_53178_4 rfl (by rw [hn9]; decide) rfl ?_
  have loop_5 : ∀ (m9 i : Nat) (S_2 : Hp), i + m9 = N → Fm (fun _ _ => False) (fun _ _ => False) (fun b9 => b9 = a) S S_2 → (∀ j, j < i → aI S_2 a j = v) → J x (0) (0) S_2 [(3, .int (nI N)), (2, .int (nI i)), (0, .ref a), (1, .int v)] 5 [] := by
    intro m9
    induction m9 with
    | zero =>
      intro i S_2 hi_6 hl_3 hz
      have hm_7 : a ∈ hL S_2 := hl_3.mem hm
      have hk_8 : Kd S_2 a 14 := hl_3.kd hm hk
      have hn_9 : Ln S_2 a N := hl_3.ln hm hn
      have hf_10 : Fm (fun _ _ => False) (fun _ _ => False) (fun b9 => b9 = a) S S_2 := (Fm.refl (WI := (fun _ _ => False)) (WR := (fun _ _ => False)) (WA := (fun b9 => b9 = a))).then hl_3 (fun a9 ha9 => ⟨(fun f9 h9 => h9.elim), (fun f9 h9 => h9.elim), (fun h9 => (fun h8 => h8) h9)⟩)
      refine j_iload_n C dJ7_fill_53178_5 rfl 1 rfl ?_
      refine j_iload_n C dJ7_fill_53178_6 rfl 0 rfl ?_
      refine j_ic_ge (tgt := 20) C dJ7_fill_53178_7 (by decide) (fun c_7 => ?_) (fun c_7 => absurd (nI_le (by omega) (by omega)) c_7)
      exact j_vret C M dJ7_fill_53178_20 (by decide) (by decide) ⟨rfl, hf_10, fun j hj => hz j (by omega)⟩
    | succ m9 ih_4 =>
      intro i S_2 hi_6 hl_3 hz
      have hm_11 : a ∈ hL S_2 := hl_3.mem hm
      have hk_12 : Kd S_2 a 14 := hl_3.kd hm hk
      have hn_13 : Ln S_2 a N := hl_3.ln hm hn
      have hf_14 : Fm (fun _ _ => False) (fun _ _ => False) (fun b9 => b9 = a) S S_2 := (Fm.refl (WI := (fun _ _ => False)) (WR := (fun _ _ => False)) (WA := (fun b9 => b9 = a))).then hl_3 (fun a9 ha9 => ⟨(fun f9 h9 => h9.elim), (fun f9 h9 => h9.elim), (fun h9 => (fun h8 => h8) h9)⟩)
      refine j_iload_n C dJ7_fill_53178_5 rfl 1 rfl ?_
      refine j_iload_n C dJ7_fill_53178_6 rfl 0 rfl ?_
      show J _ _ _ _ _ 7 _
      refine j_ic_ge (tgt := 20) C dJ7_fill_53178_7 (by decide) (fun c_7 => absurd c_7 (nI_ge (by omega) (by omega))) (fun c_7 => ?_)
      refine j_aload_n C dJ7_fill_53178_10 rfl 2 rfl ?_
      refine j_iload_n C dJ7_fill_53178_11 rfl 1 rfl ?_
      refine j_iload_n C dJ7_fill_53178_12 rfl 3 rfl ?_
      refine j_iast (j := i) C dJ7_fill_53178_13 hm_11 hk_12 (inr_of (n := N) hn_13 (vp_in_nI (by omega) (by omega))) (nI_clamp (by omega)) ?_
      refine j_iinc (q := 1) (v := nI (i + 1)) (lv' := [(2, .int (nI (i + 1))), (3, .int (nI N)), (0, .ref a), (1, .int v)]) C dJ7_fill_53178_14 rfl (by rw [show Int32.ofInt 1 = 1 by decide]; exact nI_add i 1) (by rw [hn9]; decide) rfl ?_
      refine j_goto (tgt := 5) C dJ7_fill_53178_17 (by decide) ?_
      refine J.sub [1, 0, 2, 3] (lv' := [(3, .int (nI N)), (2, .int (nI (i + 1))), (0, .ref a), (1, .int v)]) (by rfl) ?_
      exact ih_4 (i + 1) _ (by omega) (hf_14.tI _ _ (fun _ => rfl)) (fun j hj => fill_step hz j hj)
  refine J.sub [0, 1, 2, 3] (lv' := [(3, .int (nI N)), (2, .int (nI 0)), (0, .ref a), (1, .int v)]) (by rw [nI_0]; rfl) ?_
  exact loop_5 N 0 _ (by omega) Fm.refl (fun j hj => absurd hj (Nat.not_lt_zero j))

theorem dX2_firstWishes_0 : decode cX2_firstWishes 0 = .ok (.aload_n 0, 1) := by decide +kernel
theorem dX2_firstWishes_1 : decode cX2_firstWishes 1 = .ok (.iconst 0, 1) := by decide +kernel
theorem dX2_firstWishes_2 : decode cX2_firstWishes 2 = .ok (.invokestatic 52, 3) := by decide +kernel
theorem dX2_firstWishes_5 : decode cX2_firstWishes 5 = .ok (.aload_n 0, 1) := by decide +kernel
theorem dX2_firstWishes_6 : decode cX2_firstWishes 6 = .ok (.arraylength, 1) := by decide +kernel
theorem dX2_firstWishes_7 : decode cX2_firstWishes 7 = .ok (.bipush 8, 2) := by decide +kernel
theorem dX2_firstWishes_9 : decode cX2_firstWishes 9 = .ok (.if_icmp .lt 19, 3) := by decide +kernel
theorem dX2_firstWishes_12 : decode cX2_firstWishes 12 = .ok (.aload_n 0, 1) := by decide +kernel
theorem dX2_firstWishes_13 : decode cX2_firstWishes 13 = .ok (.iconst 2, 1) := by decide +kernel
theorem dX2_firstWishes_14 : decode cX2_firstWishes 14 = .ok (.sipush 720, 3) := by decide +kernel
theorem dX2_firstWishes_17 : decode cX2_firstWishes 17 = .ok (.iastore, 1) := by decide +kernel
theorem dX2_firstWishes_18 : decode cX2_firstWishes 18 = .ok (.aload_n 0, 1) := by decide +kernel
theorem dX2_firstWishes_19 : decode cX2_firstWishes 19 = .ok (.iconst 3, 1) := by decide +kernel
theorem dX2_firstWishes_20 : decode cX2_firstWishes 20 = .ok (.bipush 8, 2) := by decide +kernel
theorem dX2_firstWishes_22 : decode cX2_firstWishes 22 = .ok (.iastore, 1) := by decide +kernel
theorem dX2_firstWishes_23 : decode cX2_firstWishes 23 = .ok (.aload_n 0, 1) := by decide +kernel
theorem dX2_firstWishes_24 : decode cX2_firstWishes 24 = .ok (.bipush 7, 2) := by decide +kernel
theorem dX2_firstWishes_26 : decode cX2_firstWishes 26 = .ok (.iconst (-1), 1) := by decide +kernel
theorem dX2_firstWishes_27 : decode cX2_firstWishes 27 = .ok (.iastore, 1) := by decide +kernel
theorem dX2_firstWishes_28 : decode cX2_firstWishes 28 = .ok (.return_, 1) := by decide +kernel
set_option maxRecDepth 100000 in
set_option maxHeartbeats 4000000 in
theorem c_X2_firstWishes (S : Hp) (a : Nat) (hm : a ∈ hL S) (hk : hK S a = 14) (hn : hN S a = 8) : Ct 2 yX2_firstWishes cX2_firstWishes 1 none 0 0 [.ref a] S (fun r S' => r = none ∧ Fm (fun _ _ => False) (fun _ _ => False) (fun b9 => b9 = a) S S') := by
  refine ct_of (by decide) (Nat.le_of_ble_eq_true rfl) fun x hn9 C M hm9 => ?_
  have C : CB x RX2 cX2_firstWishes := C
  refine J.eq (lv' := [(0, .ref a)]) rfl rfl rfl ?_
  refine j_aload_n C dX2_firstWishes_0 rfl 0 rfl ?_
  refine j_iconst (v := 0) C dX2_firstWishes_1 (by decide) ?_
  refine j_callS C [.ref a, .int 0] [] mlX2_52 mcJ7_fill_53178 (c_J7_fill S a 8 0 hm hk hn (by omega)) (M.rm (by decide) (by decide) (Nat.le_of_ble_eq_true rfl) (Nat.le_of_ble_eq_true rfl)) rfl rfl (Nat.le_of_ble_eq_true rfl) dX2_firstWishes_2 (fun r_2 S_3 hp_4 => ?_)
  obtain ⟨rfl, hf_5, hz_1⟩ := hp_4
  refine J.eq (st' := []) rfl rfl rfl ?_
  have hm_6 : a ∈ hL S_3 := hf_5.mem hm
  have hk_7 : Kd S_3 a 14 := hf_5.kd hm hk
  have hn_8 : Ln S_3 a 8 := hf_5.ln hm hn
  have hf_9 : Fm (fun _ _ => False) (fun _ _ => False) (fun b9 => b9 = a) S S_3 := (Fm.refl (WI := (fun _ _ => False)) (WR := (fun _ _ => False)) (WA := (fun b9 => b9 = a))).then hf_5 (fun a9 ha9 => ⟨(fun f9 h9 => h9.elim), (fun f9 h9 => h9.elim), (fun h9 => (fun h8 => h8) h9)⟩)
  refine j_aload_n C dX2_firstWishes_5 rfl 0 rfl ?_
  refine j_alen (v := 8) C dX2_firstWishes_6 hm_6 hk_7 (by decide) (by decide) (len_of (n := 8) hn_8 (by decide)) ?_
  refine j_bipush (v := 8) C dX2_firstWishes_7 (by decide) ?_
  refine j_ic_lt (tgt := 28) C dX2_firstWishes_9 (by decide) (fun c9 => absurd c9 (by decide)) (fun c9 => ?_)
  refine j_aload_n C dX2_firstWishes_12 rfl 0 rfl ?_
  show J _ _ _ _ _ 13 _
  refine j_iconst (v := 2) C dX2_firstWishes_13 (by decide) ?_
  refine j_sipush (v := 720) C dX2_firstWishes_14 (by decide) ?_
  refine j_iast (j := 2) C dX2_firstWishes_17 hm_6 hk_7 (inr_of (n := 8) hn_8 (vp_lit (by decide))) (by decide) ?_
  refine j_aload_n C dX2_firstWishes_18 rfl 0 rfl ?_
  refine j_iconst (v := 3) C dX2_firstWishes_19 (by decide) ?_
  refine j_bipush (v := 8) C dX2_firstWishes_20 (by decide) ?_
  refine j_iast (j := 3) C dX2_firstWishes_22 hm_6 hk_7 (inr_of (n := 8) hn_8 (vp_lit (by decide))) (by decide) ?_
  refine j_aload_n C dX2_firstWishes_23 rfl 0 rfl ?_
  show J _ _ _ _ _ 24 _
  refine j_bipush (v := 7) C dX2_firstWishes_24 (by decide) ?_
  refine j_iconst (v := (-1)) C dX2_firstWishes_26 (by decide) ?_
  refine j_iast (j := 7) C dX2_firstWishes_27 hm_6 hk_7 (inr_of (n := 8) hn_8 (vp_lit (by decide))) (by decide) ?_
  exact j_vret C M dX2_firstWishes_28 (Nat.le_of_ble_eq_true rfl) (Nat.le_of_ble_eq_true rfl) ⟨rfl, (((hf_9.tI _ _ (fun _ => rfl)).tI _ _ (fun _ => rfl)).tI _ _ (fun _ => rfl))⟩

theorem dX2_setHead_0 : decode cX2_setHead 0 = .ok (.iload_n 1, 1) := by decide +kernel
theorem dX2_setHead_1 : decode cX2_setHead 1 = .ok (.iconst 5, 1) := by decide +kernel
theorem dX2_setHead_2 : decode cX2_setHead 2 = .ok (.imul, 1) := by decide +kernel
theorem dX2_setHead_3 : decode cX2_setHead 3 = .ok (.istore 7, 2) := by decide +kernel
theorem dX2_setHead_5 : decode cX2_setHead 5 = .ok (.iload 7, 2) := by decide +kernel
theorem dX2_setHead_7 : decode cX2_setHead 7 = .ok (.ifCond .lt 68, 3) := by decide +kernel
theorem dX2_setHead_10 : decode cX2_setHead 10 = .ok (.iload 7, 2) := by decide +kernel
theorem dX2_setHead_12 : decode cX2_setHead 12 = .ok (.iconst 5, 1) := by decide +kernel
theorem dX2_setHead_13 : decode cX2_setHead 13 = .ok (.iadd, 1) := by decide +kernel
theorem dX2_setHead_14 : decode cX2_setHead 14 = .ok (.aload_n 0, 1) := by decide +kernel
theorem dX2_setHead_15 : decode cX2_setHead 15 = .ok (.getfield 29, 3) := by decide +kernel
theorem dX2_setHead_18 : decode cX2_setHead 18 = .ok (.arraylength, 1) := by decide +kernel
theorem dX2_setHead_19 : decode cX2_setHead 19 = .ok (.if_icmp .gt 56, 3) := by decide +kernel
theorem dX2_setHead_22 : decode cX2_setHead 22 = .ok (.aload_n 0, 1) := by decide +kernel
theorem dX2_setHead_23 : decode cX2_setHead 23 = .ok (.getfield 29, 3) := by decide +kernel
theorem dX2_setHead_26 : decode cX2_setHead 26 = .ok (.iload 7, 2) := by decide +kernel
theorem dX2_setHead_28 : decode cX2_setHead 28 = .ok (.iconst 0, 1) := by decide +kernel
theorem dX2_setHead_29 : decode cX2_setHead 29 = .ok (.iadd, 1) := by decide +kernel
theorem dX2_setHead_30 : decode cX2_setHead 30 = .ok (.iload_n 2, 1) := by decide +kernel
theorem dX2_setHead_31 : decode cX2_setHead 31 = .ok (.iastore, 1) := by decide +kernel
theorem dX2_setHead_32 : decode cX2_setHead 32 = .ok (.aload_n 0, 1) := by decide +kernel
theorem dX2_setHead_33 : decode cX2_setHead 33 = .ok (.getfield 29, 3) := by decide +kernel
theorem dX2_setHead_36 : decode cX2_setHead 36 = .ok (.iload 7, 2) := by decide +kernel
theorem dX2_setHead_38 : decode cX2_setHead 38 = .ok (.iconst 1, 1) := by decide +kernel
theorem dX2_setHead_39 : decode cX2_setHead 39 = .ok (.iadd, 1) := by decide +kernel
theorem dX2_setHead_40 : decode cX2_setHead 40 = .ok (.iload_n 3, 1) := by decide +kernel
theorem dX2_setHead_41 : decode cX2_setHead 41 = .ok (.iastore, 1) := by decide +kernel
theorem dX2_setHead_42 : decode cX2_setHead 42 = .ok (.aload_n 0, 1) := by decide +kernel
theorem dX2_setHead_43 : decode cX2_setHead 43 = .ok (.getfield 29, 3) := by decide +kernel
theorem dX2_setHead_46 : decode cX2_setHead 46 = .ok (.iload 7, 2) := by decide +kernel
theorem dX2_setHead_48 : decode cX2_setHead 48 = .ok (.iconst 2, 1) := by decide +kernel
theorem dX2_setHead_49 : decode cX2_setHead 49 = .ok (.iadd, 1) := by decide +kernel
theorem dX2_setHead_50 : decode cX2_setHead 50 = .ok (.iload 4, 2) := by decide +kernel
theorem dX2_setHead_52 : decode cX2_setHead 52 = .ok (.iastore, 1) := by decide +kernel
theorem dX2_setHead_53 : decode cX2_setHead 53 = .ok (.aload_n 0, 1) := by decide +kernel
theorem dX2_setHead_54 : decode cX2_setHead 54 = .ok (.getfield 29, 3) := by decide +kernel
theorem dX2_setHead_57 : decode cX2_setHead 57 = .ok (.iload 7, 2) := by decide +kernel
theorem dX2_setHead_59 : decode cX2_setHead 59 = .ok (.iconst 3, 1) := by decide +kernel
theorem dX2_setHead_60 : decode cX2_setHead 60 = .ok (.iadd, 1) := by decide +kernel
theorem dX2_setHead_61 : decode cX2_setHead 61 = .ok (.iload 5, 2) := by decide +kernel
theorem dX2_setHead_63 : decode cX2_setHead 63 = .ok (.iastore, 1) := by decide +kernel
theorem dX2_setHead_64 : decode cX2_setHead 64 = .ok (.aload_n 0, 1) := by decide +kernel
theorem dX2_setHead_65 : decode cX2_setHead 65 = .ok (.getfield 29, 3) := by decide +kernel
theorem dX2_setHead_68 : decode cX2_setHead 68 = .ok (.iload 7, 2) := by decide +kernel
theorem dX2_setHead_70 : decode cX2_setHead 70 = .ok (.iconst 4, 1) := by decide +kernel
theorem dX2_setHead_71 : decode cX2_setHead 71 = .ok (.iadd, 1) := by decide +kernel
theorem dX2_setHead_72 : decode cX2_setHead 72 = .ok (.iload 6, 2) := by decide +kernel
theorem dX2_setHead_74 : decode cX2_setHead 74 = .ok (.iastore, 1) := by decide +kernel
theorem dX2_setHead_75 : decode cX2_setHead 75 = .ok (.return_, 1) := by decide +kernel
set_option maxRecDepth 100000 in
set_option maxHeartbeats 4000000 in
theorem c_X2_setHead (S : Hp) (h q s : Nat) (v2 v3 v4 v5 v6 : Int32) (hm : h ∈ hL S) (hk : hK S h = 2) (hs : s < 494) (hr : hR S 204 h = some q) (hqm : q ∈ hL S) (hqk : hK S q = 14) (hqn : hN S q = 2470) : Ct 1 yX2_setHead cX2_setHead 8 none 0 0 [.ref h, .int (nI s), .int v2, .int v3, .int v4, .int v5, .int v6] S (fun r S' => r = none ∧ Fm (fun _ _ => False) (fun _ _ => False) (fun b9 => b9 = q) S S') := by
  refine ct_of (by decide) (Nat.le_of_ble_eq_true rfl) fun x hn9 C M hm9 => ?_
  have C : CB x RX2 cX2_setHead := C
  refine J.eq (lv' := [(0, .ref h), (1, .int (nI s)), (2, .int v2), (3, .int v3), (4, .int v4), (5, .int v5), (6, .int v6)]) rfl rfl rfl ?_
  refine j_iload_n C dX2_setHead_0 rfl 1 rfl ?_
  refine j_iconst (v := 5) C dX2_setHead_1 (by decide) ?_
  refine j_imul (v := nI (s * 5)) C dX2_setHead_2 (pk_mul s 5) ?_
  refine j_istore (lv' := [(7, .int (nI (s * 5))), (0, .ref h), (1, .int (nI s)), (2, .int v2), (3, .int v3), (4, .int v4), (5, .int v5), (6, .int v6)]) C dX2_setHead_3 (by rw [hn9]; decide) rfl ?_
  refine j_iload C dX2_setHead_5 0 rfl ?_
  refine j_if_lt (tgt := 75) C dX2_setHead_7 (by decide) (fun c_7 => absurd c_7 (nI_pos (by omega))) (fun c_7 => ?_)
  refine j_iload C dX2_setHead_10 0 rfl ?_
  refine j_iconst (v := 5) C dX2_setHead_12 (by decide) ?_
  show J _ _ _ _ _ 13 _
  refine j_iadd (v := nI (s * 5 + 5)) C dX2_setHead_13 (nI_add (s * 5) 5) ?_
  refine j_aload_n C dX2_setHead_14 rfl 1 rfl ?_
  refine j_getr (f := 204) (v := q) C flX2_29 dX2_setHead_15 hm hk (by decide) rfl hr ?_
  refine j_alen (v := 2470) C dX2_setHead_18 hqm hqk (by decide) (by decide) (len_of (n := 2470) hqn (by decide)) ?_
  refine j_ic_gt (tgt := 75) C dX2_setHead_19 (by decide) (fun c_19 => absurd c_19 (nI_nlt (a := 2470) (by omega) (by omega))) (fun c_19 => ?_)
  refine j_aload_n C dX2_setHead_22 rfl 1 rfl ?_
  refine j_getr (f := 204) (v := q) C flX2_29 dX2_setHead_23 hm hk (by decide) rfl hr ?_
  refine j_iload C dX2_setHead_26 0 rfl ?_
  show J _ _ _ _ _ 28 _
  refine j_iconst (v := 0) C dX2_setHead_28 (by decide) ?_
  refine j_iadd (v := nI (s * 5 + 0)) C dX2_setHead_29 (nI_add (s * 5) 0) ?_
  refine j_iload_n C dX2_setHead_30 rfl 3 rfl ?_
  refine j_iast (j := (s * 5 + 0)) C dX2_setHead_31 hqm hqk (inr_of (n := 2470) hqn (vp_in_nI (by omega) (by omega))) (nI_clamp (by omega)) ?_
  refine j_aload_n C dX2_setHead_32 rfl 1 rfl ?_
  refine j_getr (f := 204) (v := q) C flX2_29 dX2_setHead_33 hm hk (by decide) rfl hr ?_
  refine j_iload C dX2_setHead_36 0 rfl ?_
  refine j_iconst (v := 1) C dX2_setHead_38 (by decide) ?_
  show J _ _ _ _ _ 39 _
  refine j_iadd (v := nI (s * 5 + 1)) C dX2_setHead_39 (nI_add (s * 5) 1) ?_
  refine j_iload_n C dX2_setHead_40 rfl 4 rfl ?_
  refine j_iast (j := (s * 5 + 1)) C dX2_setHead_41 hqm hqk (inr_of (n := 2470) hqn (vp_in_nI (by omega) (by omega))) (nI_clamp (by omega)) ?_
  refine j_aload_n C dX2_setHead_42 rfl 1 rfl ?_
  refine j_getr (f := 204) (v := q) C flX2_29 dX2_setHead_43 hm hk (by decide) rfl hr ?_
  refine j_iload C dX2_setHead_46 0 rfl ?_
  refine j_iconst (v := 2) C dX2_setHead_48 (by decide) ?_
  refine j_iadd (v := nI (s * 5 + 2)) C dX2_setHead_49 (nI_add (s * 5) 2) ?_
  show J _ _ _ _ _ 50 _
  refine j_iload C dX2_setHead_50 5 rfl ?_
  refine j_iast (j := (s * 5 + 2)) C dX2_setHead_52 hqm hqk (inr_of (n := 2470) hqn (vp_in_nI (by omega) (by omega))) (nI_clamp (by omega)) ?_
  refine j_aload_n C dX2_setHead_53 rfl 1 rfl ?_
  refine j_getr (f := 204) (v := q) C flX2_29 dX2_setHead_54 hm hk (by decide) rfl hr ?_
  refine j_iload C dX2_setHead_57 0 rfl ?_
  refine j_iconst (v := 3) C dX2_setHead_59 (by decide) ?_
  refine j_iadd (v := nI (s * 5 + 3)) C dX2_setHead_60 (nI_add (s * 5) 3) ?_
  refine j_iload C dX2_setHead_61 6 rfl ?_
  show J _ _ _ _ _ 63 _
  refine j_iast (j := (s * 5 + 3)) C dX2_setHead_63 hqm hqk (inr_of (n := 2470) hqn (vp_in_nI (by omega) (by omega))) (nI_clamp (by omega)) ?_
  refine j_aload_n C dX2_setHead_64 rfl 1 rfl ?_
  refine j_getr (f := 204) (v := q) C flX2_29 dX2_setHead_65 hm hk (by decide) rfl hr ?_
  refine j_iload C dX2_setHead_68 0 rfl ?_
  refine j_iconst (v := 4) C dX2_setHead_70 (by decide) ?_
  refine j_iadd (v := nI (s * 5 + 4)) C dX2_setHead_71 (nI_add (s * 5) 4) ?_
  refine j_iload C dX2_setHead_72 7 rfl ?_
  refine j_iast (j := (s * 5 + 4)) C dX2_setHead_74 hqm hqk (inr_of (n := 2470) hqn (vp_in_nI (by omega) (by omega))) (nI_clamp (by omega)) ?_
  show J _ _ _ _ _ 75 _
  exact j_vret C M dX2_setHead_75 (by decide) (by decide) ⟨rfl, ((((((Fm.refl (WI := (fun _ _ => False)) (WR := (fun _ _ => False)) (WA := (fun b9 => b9 = q))).tI _ _ (fun _ => rfl)).tI _ _ (fun _ => rfl)).tI _ _ (fun _ => rfl)).tI _ _ (fun _ => rfl)).tI _ _ (fun _ => rfl))⟩
end
section
theorem dX2_init_0 : decode cX2_init 0 = .ok (.aload_n 0, 1) := by decide +kernel
theorem dX2_init_1 : decode cX2_init 1 = .ok (.invokespecial 5, 3) := by decide +kernel
theorem dX2_init_4 : decode cX2_init 4 = .ok (.aload_n 0, 1) := by decide +kernel
theorem dX2_init_5 : decode cX2_init 5 = .ok (.new 11, 3) := by decide +kernel
theorem dX2_init_8 : decode cX2_init 8 = .ok (.dup, 1) := by decide +kernel
theorem dX2_init_9 : decode cX2_init 9 = .ok (.invokespecial 13, 3) := by decide +kernel
theorem dX2_init_12 : decode cX2_init 12 = .ok (.putfield 14, 3) := by decide +kernel
theorem dX2_init_15 : decode cX2_init 15 = .ok (.aload_n 0, 1) := by decide +kernel
theorem dX2_init_16 : decode cX2_init 16 = .ok (.bipush 119, 2) := by decide +kernel
theorem dX2_init_18 : decode cX2_init 18 = .ok (.newarray .int, 2) := by decide +kernel
theorem dX2_init_20 : decode cX2_init 20 = .ok (.putfield 18, 3) := by decide +kernel
theorem dX2_init_23 : decode cX2_init 23 = .ok (.aload_n 0, 1) := by decide +kernel
theorem dX2_init_24 : decode cX2_init 24 = .ok (.sipush 4352, 3) := by decide +kernel
theorem dX2_init_27 : decode cX2_init 27 = .ok (.newarray .int, 2) := by decide +kernel
theorem dX2_init_29 : decode cX2_init 29 = .ok (.putfield 22, 3) := by decide +kernel
theorem dX2_init_32 : decode cX2_init 32 = .ok (.aload_n 0, 1) := by decide +kernel
theorem dX2_init_33 : decode cX2_init 33 = .ok (.sipush 400, 3) := by decide +kernel
theorem dX2_init_36 : decode cX2_init 36 = .ok (.newarray .boolean, 2) := by decide +kernel
theorem dX2_init_38 : decode cX2_init 38 = .ok (.putfield 25, 3) := by decide +kernel
theorem dX2_init_41 : decode cX2_init 41 = .ok (.aload_n 0, 1) := by decide +kernel
theorem dX2_init_42 : decode cX2_init 42 = .ok (.sipush 2470, 3) := by decide +kernel
theorem dX2_init_45 : decode cX2_init 45 = .ok (.newarray .int, 2) := by decide +kernel
theorem dX2_init_47 : decode cX2_init 47 = .ok (.putfield 29, 3) := by decide +kernel
theorem dX2_init_50 : decode cX2_init 50 = .ok (.aload_n 0, 1) := by decide +kernel
theorem dX2_init_51 : decode cX2_init 51 = .ok (.sipush 15808, 3) := by decide +kernel
theorem dX2_init_54 : decode cX2_init 54 = .ok (.newarray .int, 2) := by decide +kernel
theorem dX2_init_56 : decode cX2_init 56 = .ok (.putfield 32, 3) := by decide +kernel
theorem dX2_init_59 : decode cX2_init 59 = .ok (.aload_n 0, 1) := by decide +kernel
theorem dX2_init_60 : decode cX2_init 60 = .ok (.bipush 8, 2) := by decide +kernel
theorem dX2_init_62 : decode cX2_init 62 = .ok (.newarray .int, 2) := by decide +kernel
theorem dX2_init_64 : decode cX2_init 64 = .ok (.putfield 35, 3) := by decide +kernel
theorem dX2_init_67 : decode cX2_init 67 = .ok (.aload_n 0, 1) := by decide +kernel
theorem dX2_init_68 : decode cX2_init 68 = .ok (.getfield 35, 3) := by decide +kernel
theorem dX2_init_71 : decode cX2_init 71 = .ok (.invokestatic 38, 3) := by decide +kernel
theorem dX2_init_74 : decode cX2_init 74 = .ok (.aload_n 0, 1) := by decide +kernel
theorem dX2_init_75 : decode cX2_init 75 = .ok (.getfield 35, 3) := by decide +kernel
theorem dX2_init_78 : decode cX2_init 78 = .ok (.iconst 0, 1) := by decide +kernel
theorem dX2_init_79 : decode cX2_init 79 = .ok (.aload_n 0, 1) := by decide +kernel
theorem dX2_init_80 : decode cX2_init 80 = .ok (.getfield 18, 3) := by decide +kernel
theorem dX2_init_83 : decode cX2_init 83 = .ok (.bipush 112, 2) := by decide +kernel
theorem dX2_init_85 : decode cX2_init 85 = .ok (.bipush 7, 2) := by decide +kernel
theorem dX2_init_87 : decode cX2_init 87 = .ok (.invokestatic 42, 3) := by decide +kernel
theorem dX2_init_90 : decode cX2_init 90 = .ok (.bipush 33, 2) := by decide +kernel
theorem dX2_init_92 : decode cX2_init 92 = .ok (.istore_n 1, 1) := by decide +kernel
theorem dX2_init_93 : decode cX2_init 93 = .ok (.iload_n 1, 1) := by decide +kernel
theorem dX2_init_94 : decode cX2_init 94 = .ok (.bipush 126, 2) := by decide +kernel
theorem dX2_init_96 : decode cX2_init 96 = .ok (.if_icmp .gt 97, 3) := by decide +kernel
theorem dX2_init_99 : decode cX2_init 99 = .ok (.sipush 400, 3) := by decide +kernel
theorem dX2_init_102 : decode cX2_init 102 = .ok (.iload_n 1, 1) := by decide +kernel
theorem dX2_init_103 : decode cX2_init 103 = .ok (.iadd, 1) := by decide +kernel
theorem dX2_init_104 : decode cX2_init 104 = .ok (.bipush 33, 2) := by decide +kernel
theorem dX2_init_106 : decode cX2_init 106 = .ok (.isub, 1) := by decide +kernel
theorem dX2_init_107 : decode cX2_init 107 = .ok (.istore_n 2, 1) := by decide +kernel
theorem dX2_init_108 : decode cX2_init 108 = .ok (.aload_n 0, 1) := by decide +kernel
theorem dX2_init_109 : decode cX2_init 109 = .ok (.getfield 22, 3) := by decide +kernel
theorem dX2_init_112 : decode cX2_init 112 = .ok (.sipush 4096, 3) := by decide +kernel
theorem dX2_init_115 : decode cX2_init 115 = .ok (.iload_n 1, 1) := by decide +kernel
theorem dX2_init_116 : decode cX2_init 116 = .ok (.iadd, 1) := by decide +kernel
theorem dX2_init_117 : decode cX2_init 117 = .ok (.iload_n 2, 1) := by decide +kernel
theorem dX2_init_118 : decode cX2_init 118 = .ok (.iconst 1, 1) := by decide +kernel
theorem dX2_init_119 : decode cX2_init 119 = .ok (.iadd, 1) := by decide +kernel
theorem dX2_init_120 : decode cX2_init 120 = .ok (.iastore, 1) := by decide +kernel
theorem dX2_init_121 : decode cX2_init 121 = .ok (.aload_n 0, 1) := by decide +kernel
theorem dX2_init_122 : decode cX2_init 122 = .ok (.iload_n 2, 1) := by decide +kernel
theorem dX2_init_123 : decode cX2_init 123 = .ok (.iconst 0, 1) := by decide +kernel
theorem dX2_init_124 : decode cX2_init 124 = .ok (.bipush 7, 2) := by decide +kernel
theorem dX2_init_126 : decode cX2_init 126 = .ok (.bipush 6, 2) := by decide +kernel
theorem dX2_init_128 : decode cX2_init 128 = .ok (.bipush 8, 2) := by decide +kernel
theorem dX2_init_130 : decode cX2_init 130 = .ok (.sipush 720, 3) := by decide +kernel
theorem dX2_init_133 : decode cX2_init 133 = .ok (.invokevirtual 48, 3) := by decide +kernel
theorem dX2_init_136 : decode cX2_init 136 = .ok (.iconst 0, 1) := by decide +kernel
theorem dX2_init_137 : decode cX2_init 137 = .ok (.istore_n 3, 1) := by decide +kernel
theorem dX2_init_138 : decode cX2_init 138 = .ok (.iload_n 3, 1) := by decide +kernel
theorem dX2_init_139 : decode cX2_init 139 = .ok (.bipush 8, 2) := by decide +kernel
theorem dX2_init_141 : decode cX2_init 141 = .ok (.if_icmp .ge 46, 3) := by decide +kernel
theorem dX2_init_144 : decode cX2_init 144 = .ok (.iload_n 1, 1) := by decide +kernel
theorem dX2_init_145 : decode cX2_init 145 = .ok (.iload_n 1, 1) := by decide +kernel
theorem dX2_init_146 : decode cX2_init 146 = .ok (.imul, 1) := by decide +kernel
theorem dX2_init_147 : decode cX2_init 147 = .ok (.bipush 7, 2) := by decide +kernel
theorem dX2_init_149 : decode cX2_init 149 = .ok (.iload_n 1, 1) := by decide +kernel
theorem dX2_init_150 : decode cX2_init 150 = .ok (.imul, 1) := by decide +kernel
theorem dX2_init_151 : decode cX2_init 151 = .ok (.iload_n 3, 1) := by decide +kernel
theorem dX2_init_152 : decode cX2_init 152 = .ok (.imul, 1) := by decide +kernel
theorem dX2_init_153 : decode cX2_init 153 = .ok (.iadd, 1) := by decide +kernel
theorem dX2_init_154 : decode cX2_init 154 = .ok (.bipush 13, 2) := by decide +kernel
theorem dX2_init_156 : decode cX2_init 156 = .ok (.iload_n 3, 1) := by decide +kernel
theorem dX2_init_157 : decode cX2_init 157 = .ok (.imul, 1) := by decide +kernel
theorem dX2_init_158 : decode cX2_init 158 = .ok (.iload_n 3, 1) := by decide +kernel
theorem dX2_init_159 : decode cX2_init 159 = .ok (.imul, 1) := by decide +kernel
theorem dX2_init_160 : decode cX2_init 160 = .ok (.iadd, 1) := by decide +kernel
theorem dX2_init_161 : decode cX2_init 161 = .ok (.iconst 4, 1) := by decide +kernel
theorem dX2_init_162 : decode cX2_init 162 = .ok (.idiv, 1) := by decide +kernel
theorem dX2_init_163 : decode cX2_init 163 = .ok (.istore 4, 2) := by decide +kernel
theorem dX2_init_165 : decode cX2_init 165 = .ok (.aload_n 0, 1) := by decide +kernel
theorem dX2_init_166 : decode cX2_init 166 = .ok (.getfield 32, 3) := by decide +kernel
theorem dX2_init_169 : decode cX2_init 169 = .ok (.iload_n 2, 1) := by decide +kernel
theorem dX2_init_170 : decode cX2_init 170 = .ok (.bipush 32, 2) := by decide +kernel
theorem dX2_init_172 : decode cX2_init 172 = .ok (.imul, 1) := by decide +kernel
theorem dX2_init_173 : decode cX2_init 173 = .ok (.iload_n 3, 1) := by decide +kernel
theorem dX2_init_174 : decode cX2_init 174 = .ok (.iadd, 1) := by decide +kernel
theorem dX2_init_175 : decode cX2_init 175 = .ok (.iload 4, 2) := by decide +kernel
theorem dX2_init_177 : decode cX2_init 177 = .ok (.bipush 26, 2) := by decide +kernel
theorem dX2_init_179 : decode cX2_init 179 = .ok (.ishl, 1) := by decide +kernel
theorem dX2_init_180 : decode cX2_init 180 = .ok (.iastore, 1) := by decide +kernel
theorem dX2_init_181 : decode cX2_init 181 = .ok (.iinc 3 1, 3) := by decide +kernel
theorem dX2_init_184 : decode cX2_init 184 = .ok (.goto (-46), 3) := by decide +kernel
theorem dX2_init_187 : decode cX2_init 187 = .ok (.iinc 1 1, 3) := by decide +kernel
theorem dX2_init_190 : decode cX2_init 190 = .ok (.goto (-97), 3) := by decide +kernel
theorem dX2_init_193 : decode cX2_init 193 = .ok (.return_, 1) := by decide +kernel
set_option maxRecDepth 100000 in
set_option maxHeartbeats 4000000 in
theorem c_X2_init (S : Hp) (h : Nat) (hm : h ∈ hL S) (hk : hK S h = 2) : Ct 3 yX2_init cX2_init 5 none 8 23174 [.ref h] S (fun r S' => r = none ∧ Fm (fun _ _ => False) (fun f9 b9 => b9 = h) (fun _ => False) S S' ∧ ∃ q0 q1 : Nat, q0 ∉ hL S ∧ q0 ∈ hL S' ∧ Kd S' q0 8 ∧ hR S' 200 h = some q0 ∧ q1 ∉ hL S ∧ q1 ∈ hL S' ∧ Kd S' q1 14 ∧ Ln S' q1 16 ∧ hR S' 800 q0 = some q1 ∧ (∀ j, aI S' q1 j = 0)) := by
  refine ct_of (by decide) (Nat.le_of_ble_eq_true rfl) fun x hn9 C M hm9 => ?_
  have C : CB x RX2 cX2_init := C
  refine J.eq (lv' := [(0, .ref h)]) rfl rfl rfl ?_
  refine j_aload_n C dX2_init_0 rfl 0 rfl ?_
  refine j_objInit C mlX2_5 nst_oi (M.fl (by decide)) dX2_init_1 ?_
  refine j_aload_n C dX2_init_4 rfl 0 rfl ?_
  refine j_new (N := 1) C (ci := 8) rfl rfl klX2_11 knX8 kiX8 (M.cells (by decide)) (M.slots (by decide)) dX2_init_5 (fun q_1 hq_2 => ?_)
  have hz_3 : q_1 ∉ hL S := hq_2
  refine j_dup C dX2_init_8 rfl ?_
  have hf_4 : Fm (fun _ _ => False) (fun f9 b9 => b9 = h) (fun _ => False) S (nO S q_1 8) := ((Fm.refl (WI := (fun _ _ => False)) (WR := (fun f9 b9 => b9 = h)) (WA := (fun _ => False))).nO _ hq_2)
  refine j_callI C [] [.ref q_1, .ref h] mlX2_13 mcX8_init (c_X8_init (nO S q_1 8) q_1 mem_new (kd_nO' (k := 8))) (M.rm (by decide) (by decide) (Nat.le_of_ble_eq_true rfl) (Nat.le_of_ble_eq_true rfl)) rfl rfl (Nat.le_of_ble_eq_true rfl) dX2_init_9 (fun r_12 S_13 hp_14 => ?_)
  obtain ⟨rfl, hf_15, q_5, e_6, e_7, e_8, e_9, e_10, e_11⟩ := hp_14
  refine J.eq (st' := [.ref q_1, .ref h]) rfl rfl rfl ?_
  have hm_16 : h ∈ hL S_13 := hf_15.mem (mem_old hm)
  have hk_17 : Kd S_13 h 2 := hf_15.kd (mem_old hm) (kd_nO (k := 8) hq_2 hm hk)
  have hm_18 : q_1 ∈ hL S_13 := hf_15.mem mem_new
  have hk_19 : Kd S_13 q_1 8 := hf_15.kd mem_new (kd_nO' (k := 8))
  have hf_20 : Fm (fun _ _ => False) (fun f9 b9 => b9 = h) (fun _ => False) S S_13 := hf_4.then hf_15 (fun a9 ha9 => ⟨(fun f9 h9 => h9.elim), (fun f9 h9 => (fun h8 => absurd (h8 ▸ ha9) hz_3) h9), (fun h9 => h9.elim)⟩)
  have hz_21 : q_5 ∉ hL S := fun h9 => e_6 (hf_4.mem h9)
  refine j_putrF (f := 200) C hm9 flX2_14o (by decide) rfl rfl dX2_init_12 hm_16 hk_17 rfl ?_
  refine j_aload_n C dX2_init_15 rfl 0 rfl ?_
  show J _ _ _ _ _ 16 _
  refine j_bipush (v := 119) C dX2_init_16 (by decide) ?_
  have hf_24 : Fm (fun _ _ => False) (fun f9 b9 => b9 = h) (fun _ => False) S (sR S_13 200 h (some q_1)) := (hf_20.sR _ (fun _ => rfl))
  refine j_newI (N := 119) C ka_int (by decide) (by decide) (Nat.le_of_ble_eq_true rfl) (M.cells (by decide)) (M.slots (Nat.le_of_ble_eq_true rfl)) dX2_init_18 (fun q_22 hq_23 => ?_)
  have hz_25 : q_22 ∉ hL S := fun h9 => hq_23 (hf_24.mem h9)
  refine j_putrF (f := 201) C hm9 flX2_18o (by decide) rfl rfl dX2_init_20 (mem_old hm_16) (kd_nA (k := 14) (n := 119) hq_23 hm_16 hk_17) rfl ?_
  refine j_aload_n C dX2_init_23 rfl 0 rfl ?_
  refine j_sipush (v := 4352) C dX2_init_24 (by decide) ?_
  have hf_28 : Fm (fun _ _ => False) (fun f9 b9 => b9 = h) (fun _ => False) S (sR (nA (sR S_13 200 h (some q_1)) q_22 14 119) 201 h (some q_22)) := ((hf_24.nA _ _ hq_23).sR _ (fun _ => rfl))
  obtain ⟨S_26, eS_27⟩ : ∃ S9 : Hp, S9 = (sR (nA (sR S_13 200 h (some q_1)) q_22 14 119) 201 h (some q_22)) := ⟨_, rfl⟩
  refine J.eq (S' := S_26) eS_27.symm rfl rfl ?_
  have hm_29 : h ∈ hL S_26 := by rw [eS_27]; exact (mem_old hm_16)
  have hk_30 : Kd S_26 h 2 := by rw [eS_27]; exact (kd_nA (k := 14) (n := 119) hq_23 hm_16 hk_17)
  have hm_31 : q_1 ∈ hL S_26 := by rw [eS_27]; exact (mem_old hm_18)
  have hk_32 : Kd S_26 q_1 8 := by rw [eS_27]; exact (kd_nA (k := 14) (n := 119) hq_23 hm_18 hk_19)
  have hm_33 : q_22 ∈ hL S_26 := by rw [eS_27]; exact mem_new
  have hk_34 : Kd S_26 q_22 14 := by rw [eS_27]; exact (kd_nA' (k := 14) (n := 119))
  have hn_35 : Ln S_26 q_22 119 := by rw [eS_27]; exact (ln_nA' (k := 14))
  have hz_36 : ∀ j, aI S_26 q_22 j = 0 := by rw [eS_27]; exact (fun j9 => rd_nAI' (k := 14) (n := 119))
  have hm_37 : q_5 ∈ hL S_26 := by rw [eS_27]; exact (mem_old e_7)
  have hk_38 : Kd S_26 q_5 14 := by rw [eS_27]; exact (kd_nA (k := 14) (n := 119) hq_23 e_7 e_8)
  have hn_39 : Ln S_26 q_5 16 := by rw [eS_27]; exact (ln_nA (k := 14) hq_23 e_7 e_9)
  have hz_40 : ∀ j, aI S_26 q_5 j = 0 := by rw [eS_27]; exact (fun j9 => rd_nAI (k := 14) (n := 119) hq_23 e_7 (e_11 j9))
  have hv_41 : hR S_26 200 h = (some q_1) := by rw [eS_27]; exact (rd_sRf (S := (nA (sR S_13 200 h (some q_1)) q_22 14 119)) (g := 201) (a := h) (v := (some q_22)) (by decide) (rd_sR (S := S_13) (g := 200) (a := h) (v := (some q_1))))
  have hv_42 : hR S_26 201 h = (some q_22) := by rw [eS_27]; exact (rd_sR (S := (nA (sR S_13 200 h (some q_1)) q_22 14 119)) (g := 201) (a := h) (v := (some q_22)))
  have hv_43 : hR S_26 800 q_1 = (some q_5) := by rw [eS_27]; exact (rd_sRf (S := (nA (sR S_13 200 h (some q_1)) q_22 14 119)) (g := 201) (a := h) (v := (some q_22)) (by decide) (rd_sRf (S := S_13) (g := 200) (a := h) (v := (some q_1)) (by decide) e_10))
  have hf_44 : Fm (fun _ _ => False) (fun f9 b9 => b9 = h) (fun _ => False) S S_26 := by rw [eS_27]; exact hf_28
  refine j_newI (N := 4352) C ka_int (by decide) (by decide) (Nat.le_of_ble_eq_true rfl) (M.cells (by decide)) (M.slots (Nat.le_of_ble_eq_true rfl)) dX2_init_27 (fun q_45 hq_46 => ?_)
  have hz_47 : q_45 ∉ hL S := fun h9 => hq_46 (hf_44.mem h9)
  refine j_putrF (f := 202) C hm9 flX2_22o (by decide) rfl rfl dX2_init_29 (mem_old hm_29) (kd_nA (k := 14) (n := 4352) hq_46 hm_29 hk_30) rfl ?_
  refine j_aload_n C dX2_init_32 rfl 0 rfl ?_
  show J _ _ _ _ _ 33 _
  refine j_sipush (v := 400) C dX2_init_33 (by decide) ?_
  have hf_50 : Fm (fun _ _ => False) (fun f9 b9 => b9 = h) (fun _ => False) S (sR (nA S_26 q_45 14 4352) 202 h (some q_45)) := ((hf_44.nA _ _ hq_46).sR _ (fun _ => rfl))
  obtain ⟨S_48, eS_49⟩ : ∃ S9 : Hp, S9 = (sR (nA S_26 q_45 14 4352) 202 h (some q_45)) := ⟨_, rfl⟩
  refine J.eq (S' := S_48) eS_49.symm rfl rfl ?_
  have hm_51 : h ∈ hL S_48 := by rw [eS_49]; exact (mem_old hm_29)
  have hk_52 : Kd S_48 h 2 := by rw [eS_49]; exact (kd_nA (k := 14) (n := 4352) hq_46 hm_29 hk_30)
  have hm_53 : q_1 ∈ hL S_48 := by rw [eS_49]; exact (mem_old hm_31)
  have hk_54 : Kd S_48 q_1 8 := by rw [eS_49]; exact (kd_nA (k := 14) (n := 4352) hq_46 hm_31 hk_32)
  have hm_55 : q_22 ∈ hL S_48 := by rw [eS_49]; exact (mem_old hm_33)
  have hk_56 : Kd S_48 q_22 14 := by rw [eS_49]; exact (kd_nA (k := 14) (n := 4352) hq_46 hm_33 hk_34)
  have hn_57 : Ln S_48 q_22 119 := by rw [eS_49]; exact (ln_nA (k := 14) hq_46 hm_33 hn_35)
  have hz_58 : ∀ j, aI S_48 q_22 j = 0 := by rw [eS_49]; exact (fun j9 => rd_nAI (k := 14) (n := 4352) hq_46 hm_33 (hz_36 j9))
  have hm_59 : q_45 ∈ hL S_48 := by rw [eS_49]; exact mem_new
  have hk_60 : Kd S_48 q_45 14 := by rw [eS_49]; exact (kd_nA' (k := 14) (n := 4352))
  have hn_61 : Ln S_48 q_45 4352 := by rw [eS_49]; exact (ln_nA' (k := 14))
  have hz_62 : ∀ j, aI S_48 q_45 j = 0 := by rw [eS_49]; exact (fun j9 => rd_nAI' (k := 14) (n := 4352))
  have hm_63 : q_5 ∈ hL S_48 := by rw [eS_49]; exact (mem_old hm_37)
  have hk_64 : Kd S_48 q_5 14 := by rw [eS_49]; exact (kd_nA (k := 14) (n := 4352) hq_46 hm_37 hk_38)
  have hn_65 : Ln S_48 q_5 16 := by rw [eS_49]; exact (ln_nA (k := 14) hq_46 hm_37 hn_39)
  have hz_66 : ∀ j, aI S_48 q_5 j = 0 := by rw [eS_49]; exact (fun j9 => rd_nAI (k := 14) (n := 4352) hq_46 hm_37 (hz_40 j9))
  have hv_67 : hR S_48 200 h = (some q_1) := by rw [eS_49]; exact (rd_sRf (S := (nA S_26 q_45 14 4352)) (g := 202) (a := h) (v := (some q_45)) (by decide) hv_41)
  have hv_68 : hR S_48 201 h = (some q_22) := by rw [eS_49]; exact (rd_sRf (S := (nA S_26 q_45 14 4352)) (g := 202) (a := h) (v := (some q_45)) (by decide) hv_42)
  have hv_69 : hR S_48 202 h = (some q_45) := by rw [eS_49]; exact (rd_sR (S := (nA S_26 q_45 14 4352)) (g := 202) (a := h) (v := (some q_45)))
  have hv_70 : hR S_48 800 q_1 = (some q_5) := by rw [eS_49]; exact (rd_sRf (S := (nA S_26 q_45 14 4352)) (g := 202) (a := h) (v := (some q_45)) (by decide) hv_43)
  have hf_71 : Fm (fun _ _ => False) (fun f9 b9 => b9 = h) (fun _ => False) S S_48 := by rw [eS_49]; exact hf_50
  refine j_newZ (N := 400) C ka_boolean (by decide) (by decide) (Nat.le_of_ble_eq_true rfl) (M.cells (by decide)) (M.slots (Nat.le_of_ble_eq_true rfl)) dX2_init_36 (fun q_72 hq_73 => ?_)
  have hz_74 : q_72 ∉ hL S := fun h9 => hq_73 (hf_71.mem h9)
  refine j_putrF (f := 203) C hm9 flX2_25o (by decide) rfl rfl dX2_init_38 (mem_old hm_51) (kd_nA (k := 17) (n := 400) hq_73 hm_51 hk_52) rfl ?_
  refine j_aload_n C dX2_init_41 rfl 0 rfl ?_
  refine j_sipush (v := 2470) C dX2_init_42 (by decide) ?_
  have hf_77 : Fm (fun _ _ => False) (fun f9 b9 => b9 = h) (fun _ => False) S (sR (nA S_48 q_72 17 400) 203 h (some q_72)) := ((hf_71.nA _ _ hq_73).sR _ (fun _ => rfl))
  obtain ⟨S_75, eS_76⟩ : ∃ S9 : Hp, S9 = (sR (nA S_48 q_72 17 400) 203 h (some q_72)) := ⟨_, rfl⟩
  refine J.eq (S' := S_75) eS_76.symm rfl rfl ?_
  have hm_78 : h ∈ hL S_75 := by rw [eS_76]; exact (mem_old hm_51)
  have hk_79 : Kd S_75 h 2 := by rw [eS_76]; exact (kd_nA (k := 17) (n := 400) hq_73 hm_51 hk_52)
  have hm_80 : q_1 ∈ hL S_75 := by rw [eS_76]; exact (mem_old hm_53)
  have hk_81 : Kd S_75 q_1 8 := by rw [eS_76]; exact (kd_nA (k := 17) (n := 400) hq_73 hm_53 hk_54)
  have hm_82 : q_22 ∈ hL S_75 := by rw [eS_76]; exact (mem_old hm_55)
  have hk_83 : Kd S_75 q_22 14 := by rw [eS_76]; exact (kd_nA (k := 17) (n := 400) hq_73 hm_55 hk_56)
  have hn_84 : Ln S_75 q_22 119 := by rw [eS_76]; exact (ln_nA (k := 17) hq_73 hm_55 hn_57)
  have hz_85 : ∀ j, aI S_75 q_22 j = 0 := by rw [eS_76]; exact (fun j9 => rd_nAI (k := 17) (n := 400) hq_73 hm_55 (hz_58 j9))
  have hm_86 : q_45 ∈ hL S_75 := by rw [eS_76]; exact (mem_old hm_59)
  have hk_87 : Kd S_75 q_45 14 := by rw [eS_76]; exact (kd_nA (k := 17) (n := 400) hq_73 hm_59 hk_60)
  have hn_88 : Ln S_75 q_45 4352 := by rw [eS_76]; exact (ln_nA (k := 17) hq_73 hm_59 hn_61)
  have hz_89 : ∀ j, aI S_75 q_45 j = 0 := by rw [eS_76]; exact (fun j9 => rd_nAI (k := 17) (n := 400) hq_73 hm_59 (hz_62 j9))
  have hm_90 : q_5 ∈ hL S_75 := by rw [eS_76]; exact (mem_old hm_63)
  have hk_91 : Kd S_75 q_5 14 := by rw [eS_76]; exact (kd_nA (k := 17) (n := 400) hq_73 hm_63 hk_64)
  have hn_92 : Ln S_75 q_5 16 := by rw [eS_76]; exact (ln_nA (k := 17) hq_73 hm_63 hn_65)
  have hz_93 : ∀ j, aI S_75 q_5 j = 0 := by rw [eS_76]; exact (fun j9 => rd_nAI (k := 17) (n := 400) hq_73 hm_63 (hz_66 j9))
  have hm_94 : q_72 ∈ hL S_75 := by rw [eS_76]; exact mem_new
  have hk_95 : Kd S_75 q_72 17 := by rw [eS_76]; exact (kd_nA' (k := 17) (n := 400))
  have hn_96 : Ln S_75 q_72 400 := by rw [eS_76]; exact (ln_nA' (k := 17))
  have hz_97 : ∀ j, aI S_75 q_72 j = 0 := by rw [eS_76]; exact (fun j9 => rd_nAI' (k := 17) (n := 400))
  have hv_98 : hR S_75 200 h = (some q_1) := by rw [eS_76]; exact (rd_sRf (S := (nA S_48 q_72 17 400)) (g := 203) (a := h) (v := (some q_72)) (by decide) hv_67)
  have hv_99 : hR S_75 201 h = (some q_22) := by rw [eS_76]; exact (rd_sRf (S := (nA S_48 q_72 17 400)) (g := 203) (a := h) (v := (some q_72)) (by decide) hv_68)
  have hv_100 : hR S_75 202 h = (some q_45) := by rw [eS_76]; exact (rd_sRf (S := (nA S_48 q_72 17 400)) (g := 203) (a := h) (v := (some q_72)) (by decide) hv_69)
  have hv_101 : hR S_75 203 h = (some q_72) := by rw [eS_76]; exact (rd_sR (S := (nA S_48 q_72 17 400)) (g := 203) (a := h) (v := (some q_72)))
  have hv_102 : hR S_75 800 q_1 = (some q_5) := by rw [eS_76]; exact (rd_sRf (S := (nA S_48 q_72 17 400)) (g := 203) (a := h) (v := (some q_72)) (by decide) hv_70)
  have hf_103 : Fm (fun _ _ => False) (fun f9 b9 => b9 = h) (fun _ => False) S S_75 := by rw [eS_76]; exact hf_77
  refine j_newI (N := 2470) C ka_int (by decide) (by decide) (Nat.le_of_ble_eq_true rfl) (M.cells (by decide)) (M.slots (Nat.le_of_ble_eq_true rfl)) dX2_init_45 (fun q_104 hq_105 => ?_)
  have hz_106 : q_104 ∉ hL S := fun h9 => hq_105 (hf_103.mem h9)
  refine j_putrF (f := 204) C hm9 flX2_29o (by decide) rfl rfl dX2_init_47 (mem_old hm_78) (kd_nA (k := 14) (n := 2470) hq_105 hm_78 hk_79) rfl ?_
  refine j_aload_n C dX2_init_50 rfl 0 rfl ?_
  show J _ _ _ _ _ 51 _
  refine j_sipush (v := 15808) C dX2_init_51 (by decide) ?_
  have hf_109 : Fm (fun _ _ => False) (fun f9 b9 => b9 = h) (fun _ => False) S (sR (nA S_75 q_104 14 2470) 204 h (some q_104)) := ((hf_103.nA _ _ hq_105).sR _ (fun _ => rfl))
  obtain ⟨S_107, eS_108⟩ : ∃ S9 : Hp, S9 = (sR (nA S_75 q_104 14 2470) 204 h (some q_104)) := ⟨_, rfl⟩
  refine J.eq (S' := S_107) eS_108.symm rfl rfl ?_
  have hm_110 : h ∈ hL S_107 := by rw [eS_108]; exact (mem_old hm_78)
  have hk_111 : Kd S_107 h 2 := by rw [eS_108]; exact (kd_nA (k := 14) (n := 2470) hq_105 hm_78 hk_79)
  have hm_112 : q_1 ∈ hL S_107 := by rw [eS_108]; exact (mem_old hm_80)
  have hk_113 : Kd S_107 q_1 8 := by rw [eS_108]; exact (kd_nA (k := 14) (n := 2470) hq_105 hm_80 hk_81)
  have hm_114 : q_104 ∈ hL S_107 := by rw [eS_108]; exact mem_new
  have hk_115 : Kd S_107 q_104 14 := by rw [eS_108]; exact (kd_nA' (k := 14) (n := 2470))
  have hn_116 : Ln S_107 q_104 2470 := by rw [eS_108]; exact (ln_nA' (k := 14))
  have hz_117 : ∀ j, aI S_107 q_104 j = 0 := by rw [eS_108]; exact (fun j9 => rd_nAI' (k := 14) (n := 2470))
  have hm_118 : q_22 ∈ hL S_107 := by rw [eS_108]; exact (mem_old hm_82)
  have hk_119 : Kd S_107 q_22 14 := by rw [eS_108]; exact (kd_nA (k := 14) (n := 2470) hq_105 hm_82 hk_83)
  have hn_120 : Ln S_107 q_22 119 := by rw [eS_108]; exact (ln_nA (k := 14) hq_105 hm_82 hn_84)
  have hz_121 : ∀ j, aI S_107 q_22 j = 0 := by rw [eS_108]; exact (fun j9 => rd_nAI (k := 14) (n := 2470) hq_105 hm_82 (hz_85 j9))
  have hm_122 : q_45 ∈ hL S_107 := by rw [eS_108]; exact (mem_old hm_86)
  have hk_123 : Kd S_107 q_45 14 := by rw [eS_108]; exact (kd_nA (k := 14) (n := 2470) hq_105 hm_86 hk_87)
  have hn_124 : Ln S_107 q_45 4352 := by rw [eS_108]; exact (ln_nA (k := 14) hq_105 hm_86 hn_88)
  have hz_125 : ∀ j, aI S_107 q_45 j = 0 := by rw [eS_108]; exact (fun j9 => rd_nAI (k := 14) (n := 2470) hq_105 hm_86 (hz_89 j9))
  have hm_126 : q_5 ∈ hL S_107 := by rw [eS_108]; exact (mem_old hm_90)
  have hk_127 : Kd S_107 q_5 14 := by rw [eS_108]; exact (kd_nA (k := 14) (n := 2470) hq_105 hm_90 hk_91)
  have hn_128 : Ln S_107 q_5 16 := by rw [eS_108]; exact (ln_nA (k := 14) hq_105 hm_90 hn_92)
  have hz_129 : ∀ j, aI S_107 q_5 j = 0 := by rw [eS_108]; exact (fun j9 => rd_nAI (k := 14) (n := 2470) hq_105 hm_90 (hz_93 j9))
  have hm_130 : q_72 ∈ hL S_107 := by rw [eS_108]; exact (mem_old hm_94)
  have hk_131 : Kd S_107 q_72 17 := by rw [eS_108]; exact (kd_nA (k := 14) (n := 2470) hq_105 hm_94 hk_95)
  have hn_132 : Ln S_107 q_72 400 := by rw [eS_108]; exact (ln_nA (k := 14) hq_105 hm_94 hn_96)
  have hz_133 : ∀ j, aI S_107 q_72 j = 0 := by rw [eS_108]; exact (fun j9 => rd_nAI (k := 14) (n := 2470) hq_105 hm_94 (hz_97 j9))
  have hv_134 : hR S_107 200 h = (some q_1) := by rw [eS_108]; exact (rd_sRf (S := (nA S_75 q_104 14 2470)) (g := 204) (a := h) (v := (some q_104)) (by decide) hv_98)
  have hv_135 : hR S_107 201 h = (some q_22) := by rw [eS_108]; exact (rd_sRf (S := (nA S_75 q_104 14 2470)) (g := 204) (a := h) (v := (some q_104)) (by decide) hv_99)
  have hv_136 : hR S_107 202 h = (some q_45) := by rw [eS_108]; exact (rd_sRf (S := (nA S_75 q_104 14 2470)) (g := 204) (a := h) (v := (some q_104)) (by decide) hv_100)
  have hv_137 : hR S_107 203 h = (some q_72) := by rw [eS_108]; exact (rd_sRf (S := (nA S_75 q_104 14 2470)) (g := 204) (a := h) (v := (some q_104)) (by decide) hv_101)
  have hv_138 : hR S_107 204 h = (some q_104) := by rw [eS_108]; exact (rd_sR (S := (nA S_75 q_104 14 2470)) (g := 204) (a := h) (v := (some q_104)))
  have hv_139 : hR S_107 800 q_1 = (some q_5) := by rw [eS_108]; exact (rd_sRf (S := (nA S_75 q_104 14 2470)) (g := 204) (a := h) (v := (some q_104)) (by decide) hv_102)
  have hf_140 : Fm (fun _ _ => False) (fun f9 b9 => b9 = h) (fun _ => False) S S_107 := by rw [eS_108]; exact hf_109
  refine j_newI (N := 15808) C ka_int (by decide) (by decide) (Nat.le_of_ble_eq_true rfl) (M.cells (by decide)) (M.slots (Nat.le_of_ble_eq_true rfl)) dX2_init_54 (fun q_141 hq_142 => ?_)
  have hz_143 : q_141 ∉ hL S := fun h9 => hq_142 (hf_140.mem h9)
  refine j_putrF (f := 205) C hm9 flX2_32o (by decide) rfl rfl dX2_init_56 (mem_old hm_110) (kd_nA (k := 14) (n := 15808) hq_142 hm_110 hk_111) rfl ?_
  refine j_aload_n C dX2_init_59 rfl 0 rfl ?_
  refine j_bipush (v := 8) C dX2_init_60 (by decide) ?_
  have hf_146 : Fm (fun _ _ => False) (fun f9 b9 => b9 = h) (fun _ => False) S (sR (nA S_107 q_141 14 15808) 205 h (some q_141)) := ((hf_140.nA _ _ hq_142).sR _ (fun _ => rfl))
  obtain ⟨S_144, eS_145⟩ : ∃ S9 : Hp, S9 = (sR (nA S_107 q_141 14 15808) 205 h (some q_141)) := ⟨_, rfl⟩
  refine J.eq (S' := S_144) eS_145.symm rfl rfl ?_
  have hm_147 : h ∈ hL S_144 := by rw [eS_145]; exact (mem_old hm_110)
  have hk_148 : Kd S_144 h 2 := by rw [eS_145]; exact (kd_nA (k := 14) (n := 15808) hq_142 hm_110 hk_111)
  have hm_149 : q_1 ∈ hL S_144 := by rw [eS_145]; exact (mem_old hm_112)
  have hk_150 : Kd S_144 q_1 8 := by rw [eS_145]; exact (kd_nA (k := 14) (n := 15808) hq_142 hm_112 hk_113)
  have hm_151 : q_104 ∈ hL S_144 := by rw [eS_145]; exact (mem_old hm_114)
  have hk_152 : Kd S_144 q_104 14 := by rw [eS_145]; exact (kd_nA (k := 14) (n := 15808) hq_142 hm_114 hk_115)
  have hn_153 : Ln S_144 q_104 2470 := by rw [eS_145]; exact (ln_nA (k := 14) hq_142 hm_114 hn_116)
  have hz_154 : ∀ j, aI S_144 q_104 j = 0 := by rw [eS_145]; exact (fun j9 => rd_nAI (k := 14) (n := 15808) hq_142 hm_114 (hz_117 j9))
  have hm_155 : q_141 ∈ hL S_144 := by rw [eS_145]; exact mem_new
  have hk_156 : Kd S_144 q_141 14 := by rw [eS_145]; exact (kd_nA' (k := 14) (n := 15808))
  have hn_157 : Ln S_144 q_141 15808 := by rw [eS_145]; exact (ln_nA' (k := 14))
  have hz_158 : ∀ j, aI S_144 q_141 j = 0 := by rw [eS_145]; exact (fun j9 => rd_nAI' (k := 14) (n := 15808))
  have hm_159 : q_22 ∈ hL S_144 := by rw [eS_145]; exact (mem_old hm_118)
  have hk_160 : Kd S_144 q_22 14 := by rw [eS_145]; exact (kd_nA (k := 14) (n := 15808) hq_142 hm_118 hk_119)
  have hn_161 : Ln S_144 q_22 119 := by rw [eS_145]; exact (ln_nA (k := 14) hq_142 hm_118 hn_120)
  have hz_162 : ∀ j, aI S_144 q_22 j = 0 := by rw [eS_145]; exact (fun j9 => rd_nAI (k := 14) (n := 15808) hq_142 hm_118 (hz_121 j9))
  have hm_163 : q_45 ∈ hL S_144 := by rw [eS_145]; exact (mem_old hm_122)
  have hk_164 : Kd S_144 q_45 14 := by rw [eS_145]; exact (kd_nA (k := 14) (n := 15808) hq_142 hm_122 hk_123)
  have hn_165 : Ln S_144 q_45 4352 := by rw [eS_145]; exact (ln_nA (k := 14) hq_142 hm_122 hn_124)
  have hz_166 : ∀ j, aI S_144 q_45 j = 0 := by rw [eS_145]; exact (fun j9 => rd_nAI (k := 14) (n := 15808) hq_142 hm_122 (hz_125 j9))
  have hm_167 : q_5 ∈ hL S_144 := by rw [eS_145]; exact (mem_old hm_126)
  have hk_168 : Kd S_144 q_5 14 := by rw [eS_145]; exact (kd_nA (k := 14) (n := 15808) hq_142 hm_126 hk_127)
  have hn_169 : Ln S_144 q_5 16 := by rw [eS_145]; exact (ln_nA (k := 14) hq_142 hm_126 hn_128)
  have hz_170 : ∀ j, aI S_144 q_5 j = 0 := by rw [eS_145]; exact (fun j9 => rd_nAI (k := 14) (n := 15808) hq_142 hm_126 (hz_129 j9))
  have hm_171 : q_72 ∈ hL S_144 := by rw [eS_145]; exact (mem_old hm_130)
  have hk_172 : Kd S_144 q_72 17 := by rw [eS_145]; exact (kd_nA (k := 14) (n := 15808) hq_142 hm_130 hk_131)
  have hn_173 : Ln S_144 q_72 400 := by rw [eS_145]; exact (ln_nA (k := 14) hq_142 hm_130 hn_132)
  have hz_174 : ∀ j, aI S_144 q_72 j = 0 := by rw [eS_145]; exact (fun j9 => rd_nAI (k := 14) (n := 15808) hq_142 hm_130 (hz_133 j9))
  have hv_175 : hR S_144 200 h = (some q_1) := by rw [eS_145]; exact (rd_sRf (S := (nA S_107 q_141 14 15808)) (g := 205) (a := h) (v := (some q_141)) (by decide) hv_134)
  have hv_176 : hR S_144 201 h = (some q_22) := by rw [eS_145]; exact (rd_sRf (S := (nA S_107 q_141 14 15808)) (g := 205) (a := h) (v := (some q_141)) (by decide) hv_135)
  have hv_177 : hR S_144 202 h = (some q_45) := by rw [eS_145]; exact (rd_sRf (S := (nA S_107 q_141 14 15808)) (g := 205) (a := h) (v := (some q_141)) (by decide) hv_136)
  have hv_178 : hR S_144 203 h = (some q_72) := by rw [eS_145]; exact (rd_sRf (S := (nA S_107 q_141 14 15808)) (g := 205) (a := h) (v := (some q_141)) (by decide) hv_137)
  have hv_179 : hR S_144 204 h = (some q_104) := by rw [eS_145]; exact (rd_sRf (S := (nA S_107 q_141 14 15808)) (g := 205) (a := h) (v := (some q_141)) (by decide) hv_138)
  have hv_180 : hR S_144 205 h = (some q_141) := by rw [eS_145]; exact (rd_sR (S := (nA S_107 q_141 14 15808)) (g := 205) (a := h) (v := (some q_141)))
  have hv_181 : hR S_144 800 q_1 = (some q_5) := by rw [eS_145]; exact (rd_sRf (S := (nA S_107 q_141 14 15808)) (g := 205) (a := h) (v := (some q_141)) (by decide) hv_139)
  have hf_182 : Fm (fun _ _ => False) (fun f9 b9 => b9 = h) (fun _ => False) S S_144 := by rw [eS_145]; exact hf_146
  refine j_newI (N := 8) C ka_int (by decide) (by decide) (Nat.le_of_ble_eq_true rfl) (M.cells (by decide)) (M.slots (Nat.le_of_ble_eq_true rfl)) dX2_init_62 (fun q_183 hq_184 => ?_)
  have hz_185 : q_183 ∉ hL S := fun h9 => hq_184 (hf_182.mem h9)
  refine j_putrF (f := 207) C hm9 flX2_35o (by decide) rfl rfl dX2_init_64 (mem_old hm_147) (kd_nA (k := 14) (n := 8) hq_184 hm_147 hk_148) rfl ?_
  refine j_aload_n C dX2_init_67 rfl 0 rfl ?_
  show J _ _ _ _ _ 68 _
  refine j_getr (f := 207) (v := q_183) C flX2_35 dX2_init_68 (mem_old hm_147) (kd_nA (k := 14) (n := 8) hq_184 hm_147 hk_148) (by decide) rfl (rd_sR (S := (nA S_144 q_183 14 8)) (g := 207) (a := h) (v := (some q_183))) ?_
  have hf_186 : Fm (fun _ _ => False) (fun f9 b9 => b9 = h) (fun _ => False) S (sR (nA S_144 q_183 14 8) 207 h (some q_183)) := ((hf_182.nA _ _ hq_184).sR _ (fun _ => rfl))
  refine j_callS C [.ref q_183] [] mlX2_38 mcX2_firstWishes (c_X2_firstWishes (sR (nA S_144 q_183 14 8) 207 h (some q_183)) q_183 mem_new (kd_nA' (k := 14) (n := 8)) (ln_nA' (k := 14))) (M.rm (by decide) (by decide) (Nat.le_of_ble_eq_true rfl) (Nat.le_of_ble_eq_true rfl)) rfl rfl (Nat.le_of_ble_eq_true rfl) dX2_init_71 (fun r_187 S_188 hp_189 => ?_)
  obtain ⟨rfl, hf_190⟩ := hp_189
  refine J.eq (st' := []) rfl rfl rfl ?_
  have hz_191 : ∀ j, aI S_188 q_104 j = 0 := fun j9 => (hf_190.ai (mem_old hm_151) (fun q9 => (ne_of_nin hq_184 hm_151) q9) j9).trans ((fun j9 => rd_nAI (k := 14) (n := 8) hq_184 hm_151 (hz_154 j9)) j9)
  have hz_192 : ∀ j, aI S_188 q_141 j = 0 := fun j9 => (hf_190.ai (mem_old hm_155) (fun q9 => (ne_of_nin hq_184 hm_155) q9) j9).trans ((fun j9 => rd_nAI (k := 14) (n := 8) hq_184 hm_155 (hz_158 j9)) j9)
  have hz_193 : ∀ j, aI S_188 q_22 j = 0 := fun j9 => (hf_190.ai (mem_old hm_159) (fun q9 => (ne_of_nin hq_184 hm_159) q9) j9).trans ((fun j9 => rd_nAI (k := 14) (n := 8) hq_184 hm_159 (hz_162 j9)) j9)
  have hz_194 : ∀ j, aI S_188 q_45 j = 0 := fun j9 => (hf_190.ai (mem_old hm_163) (fun q9 => (ne_of_nin hq_184 hm_163) q9) j9).trans ((fun j9 => rd_nAI (k := 14) (n := 8) hq_184 hm_163 (hz_166 j9)) j9)
  have hz_195 : ∀ j, aI S_188 q_5 j = 0 := fun j9 => (hf_190.ai (mem_old hm_167) (fun q9 => (ne_of_nin hq_184 hm_167) q9) j9).trans ((fun j9 => rd_nAI (k := 14) (n := 8) hq_184 hm_167 (hz_170 j9)) j9)
  have hz_196 : ∀ j, aI S_188 q_72 j = 0 := fun j9 => (hf_190.ai (mem_old hm_171) (fun q9 => (fun e9 => absurd (((kd_nA (k := 14) (n := 8) hq_184 hm_171 hk_172)).symm.trans ((congrArg (hK _) e9).trans (kd_nA' (k := 14) (n := 8)))) (by decide)) q9) j9).trans ((fun j9 => rd_nAI (k := 14) (n := 8) hq_184 hm_171 (hz_174 j9)) j9)
  have hm_197 : h ∈ hL S_188 := hf_190.mem (mem_old hm_147)
  have hk_198 : Kd S_188 h 2 := hf_190.kd (mem_old hm_147) (kd_nA (k := 14) (n := 8) hq_184 hm_147 hk_148)
  have hm_199 : q_1 ∈ hL S_188 := hf_190.mem (mem_old hm_149)
  have hk_200 : Kd S_188 q_1 8 := hf_190.kd (mem_old hm_149) (kd_nA (k := 14) (n := 8) hq_184 hm_149 hk_150)
  have hm_201 : q_104 ∈ hL S_188 := hf_190.mem (mem_old hm_151)
  have hk_202 : Kd S_188 q_104 14 := hf_190.kd (mem_old hm_151) (kd_nA (k := 14) (n := 8) hq_184 hm_151 hk_152)
  have hn_203 : Ln S_188 q_104 2470 := hf_190.ln (mem_old hm_151) (ln_nA (k := 14) hq_184 hm_151 hn_153)
  have hm_204 : q_141 ∈ hL S_188 := hf_190.mem (mem_old hm_155)
  have hk_205 : Kd S_188 q_141 14 := hf_190.kd (mem_old hm_155) (kd_nA (k := 14) (n := 8) hq_184 hm_155 hk_156)
  have hn_206 : Ln S_188 q_141 15808 := hf_190.ln (mem_old hm_155) (ln_nA (k := 14) hq_184 hm_155 hn_157)
  have hm_207 : q_183 ∈ hL S_188 := hf_190.mem mem_new
  have hk_208 : Kd S_188 q_183 14 := hf_190.kd mem_new (kd_nA' (k := 14) (n := 8))
  have hn_209 : Ln S_188 q_183 8 := hf_190.ln mem_new (ln_nA' (k := 14))
  have hm_210 : q_22 ∈ hL S_188 := hf_190.mem (mem_old hm_159)
  have hk_211 : Kd S_188 q_22 14 := hf_190.kd (mem_old hm_159) (kd_nA (k := 14) (n := 8) hq_184 hm_159 hk_160)
  have hn_212 : Ln S_188 q_22 119 := hf_190.ln (mem_old hm_159) (ln_nA (k := 14) hq_184 hm_159 hn_161)
  have hm_213 : q_45 ∈ hL S_188 := hf_190.mem (mem_old hm_163)
  have hk_214 : Kd S_188 q_45 14 := hf_190.kd (mem_old hm_163) (kd_nA (k := 14) (n := 8) hq_184 hm_163 hk_164)
  have hn_215 : Ln S_188 q_45 4352 := hf_190.ln (mem_old hm_163) (ln_nA (k := 14) hq_184 hm_163 hn_165)
  have hm_216 : q_5 ∈ hL S_188 := hf_190.mem (mem_old hm_167)
  have hk_217 : Kd S_188 q_5 14 := hf_190.kd (mem_old hm_167) (kd_nA (k := 14) (n := 8) hq_184 hm_167 hk_168)
  have hn_218 : Ln S_188 q_5 16 := hf_190.ln (mem_old hm_167) (ln_nA (k := 14) hq_184 hm_167 hn_169)
  have hm_219 : q_72 ∈ hL S_188 := hf_190.mem (mem_old hm_171)
  have hk_220 : Kd S_188 q_72 17 := hf_190.kd (mem_old hm_171) (kd_nA (k := 14) (n := 8) hq_184 hm_171 hk_172)
  have hn_221 : Ln S_188 q_72 400 := hf_190.ln (mem_old hm_171) (ln_nA (k := 14) hq_184 hm_171 hn_173)
  have hv_222 : hR S_188 200 h = (some q_1) := hf_190.fr (mem_old hm_147) (fun h9 => h9) (rd_sRf (S := (nA S_144 q_183 14 8)) (g := 207) (a := h) (v := (some q_183)) (by decide) hv_175)
  have hv_223 : hR S_188 201 h = (some q_22) := hf_190.fr (mem_old hm_147) (fun h9 => h9) (rd_sRf (S := (nA S_144 q_183 14 8)) (g := 207) (a := h) (v := (some q_183)) (by decide) hv_176)
  have hv_224 : hR S_188 202 h = (some q_45) := hf_190.fr (mem_old hm_147) (fun h9 => h9) (rd_sRf (S := (nA S_144 q_183 14 8)) (g := 207) (a := h) (v := (some q_183)) (by decide) hv_177)
  have hv_225 : hR S_188 203 h = (some q_72) := hf_190.fr (mem_old hm_147) (fun h9 => h9) (rd_sRf (S := (nA S_144 q_183 14 8)) (g := 207) (a := h) (v := (some q_183)) (by decide) hv_178)
  have hv_226 : hR S_188 204 h = (some q_104) := hf_190.fr (mem_old hm_147) (fun h9 => h9) (rd_sRf (S := (nA S_144 q_183 14 8)) (g := 207) (a := h) (v := (some q_183)) (by decide) hv_179)
  have hv_227 : hR S_188 205 h = (some q_141) := hf_190.fr (mem_old hm_147) (fun h9 => h9) (rd_sRf (S := (nA S_144 q_183 14 8)) (g := 207) (a := h) (v := (some q_183)) (by decide) hv_180)
  have hv_228 : hR S_188 207 h = (some q_183) := hf_190.fr (mem_old hm_147) (fun h9 => h9) (rd_sR (S := (nA S_144 q_183 14 8)) (g := 207) (a := h) (v := (some q_183)))
  have hv_229 : hR S_188 800 q_1 = (some q_5) := hf_190.fr (mem_old hm_149) (fun h9 => h9) (rd_sRf (S := (nA S_144 q_183 14 8)) (g := 207) (a := h) (v := (some q_183)) (by decide) hv_181)
  have hf_230 : Fm (fun _ _ => False) (fun f9 b9 => b9 = h) (fun _ => False) S S_188 := hf_186.then hf_190 (fun a9 ha9 => ⟨(fun f9 h9 => h9.elim), (fun f9 h9 => h9.elim), (fun h9 => (fun h8 => absurd (h8 ▸ ha9) hz_185) h9)⟩)
  refine j_aload_n C dX2_init_74 rfl 0 rfl ?_
  refine j_getr (f := 207) (v := q_183) C flX2_35 dX2_init_75 hm_197 hk_198 (by decide) rfl hv_228 ?_
  refine j_iconst (v := 0) C dX2_init_78 (by decide) ?_
  refine j_aload_n C dX2_init_79 rfl 0 rfl ?_
  refine j_getr (f := 201) (v := q_22) C flX2_18 dX2_init_80 hm_197 hk_198 (by decide) rfl hv_223 ?_
  refine j_bipush (v := 112) C dX2_init_83 (by decide) ?_
  show J _ _ _ _ _ 85 _
  refine j_bipush (v := 7) C dX2_init_85 (by decide) ?_
  refine j_copy (kd := 14) (ty := .int) (p0 := 0) (p1 := 112) (m0 := 7) C mlX2_42 (by decide) hm_207 hk_208 hn_209 hm_210 hk_211 hn_212 (by decide) (by decide) (by decide) (by decide) (by decide) (by decide) (by decide) (by decide) (fun i _ => rfl) (M.fl (by decide)) dX2_init_87 ?_
  refine j_bipush (v := 33) C dX2_init_90 (by decide) ?_
  refine j_istore_n (lv' := [(1, .int 33), (0, .ref h)]) C dX2_init_92 rfl (by rw [hn9]; decide) rfl ?_
  have hf_233 : Fm (fun _ _ => False) (fun f9 b9 => b9 = h) (fun _ => False) S (rI S_188 q_22 (va_cpy (aI S_188 q_183) (aI S_188 q_22) 0 112 7)) := (hf_230.rI _ (fun h9 => absurd h9 hz_25))
  obtain ⟨S_231, eS_232⟩ : ∃ S9 : Hp, S9 = (rI S_188 q_22 (va_cpy (aI S_188 q_183) (aI S_188 q_22) 0 112 7)) := ⟨_, rfl⟩
  refine J.eq (S' := S_231) eS_232.symm rfl rfl ?_
  have hm_234 : h ∈ hL S_231 := by rw [eS_232]; exact hm_197
  have hk_235 : Kd S_231 h 2 := by rw [eS_232]; exact hk_198
  have hm_236 : q_1 ∈ hL S_231 := by rw [eS_232]; exact hm_199
  have hk_237 : Kd S_231 q_1 8 := by rw [eS_232]; exact hk_200
  have hm_238 : q_104 ∈ hL S_231 := by rw [eS_232]; exact hm_201
  have hk_239 : Kd S_231 q_104 14 := by rw [eS_232]; exact hk_202
  have hn_240 : Ln S_231 q_104 2470 := by rw [eS_232]; exact hn_203
  have hz_241 : ∀ j, aI S_231 q_104 j = 0 := by rw [eS_232]; exact (fun j9 => rd_rIa (Ne.symm (ne_of_nin hq_105 hm_82)) (hz_191 j9))
  have hm_242 : q_141 ∈ hL S_231 := by rw [eS_232]; exact hm_204
  have hk_243 : Kd S_231 q_141 14 := by rw [eS_232]; exact hk_205
  have hn_244 : Ln S_231 q_141 15808 := by rw [eS_232]; exact hn_206
  have hz_245 : ∀ j, aI S_231 q_141 j = 0 := by rw [eS_232]; exact (fun j9 => rd_rIa (Ne.symm (ne_of_nin hq_142 hm_118)) (hz_192 j9))
  have hm_246 : q_183 ∈ hL S_231 := by rw [eS_232]; exact hm_207
  have hk_247 : Kd S_231 q_183 14 := by rw [eS_232]; exact hk_208
  have hn_248 : Ln S_231 q_183 8 := by rw [eS_232]; exact hn_209
  have hm_249 : q_22 ∈ hL S_231 := by rw [eS_232]; exact hm_210
  have hk_250 : Kd S_231 q_22 14 := by rw [eS_232]; exact hk_211
  have hn_251 : Ln S_231 q_22 119 := by rw [eS_232]; exact hn_212
  have hm_252 : q_45 ∈ hL S_231 := by rw [eS_232]; exact hm_213
  have hk_253 : Kd S_231 q_45 14 := by rw [eS_232]; exact hk_214
  have hn_254 : Ln S_231 q_45 4352 := by rw [eS_232]; exact hn_215
  have hz_255 : ∀ j, aI S_231 q_45 j = 0 := by rw [eS_232]; exact (fun j9 => rd_rIa (Ne.symm (ne_of_nin hq_46 hm_33)) (hz_194 j9))
  have hm_256 : q_5 ∈ hL S_231 := by rw [eS_232]; exact hm_216
  have hk_257 : Kd S_231 q_5 14 := by rw [eS_232]; exact hk_217
  have hn_258 : Ln S_231 q_5 16 := by rw [eS_232]; exact hn_218
  have hz_259 : ∀ j, aI S_231 q_5 j = 0 := by rw [eS_232]; exact (fun j9 => rd_rIa (ne_of_nin hq_23 e_7) (hz_195 j9))
  have hm_260 : q_72 ∈ hL S_231 := by rw [eS_232]; exact hm_219
  have hk_261 : Kd S_231 q_72 17 := by rw [eS_232]; exact hk_220
  have hn_262 : Ln S_231 q_72 400 := by rw [eS_232]; exact hn_221
  have hz_263 : ∀ j, aI S_231 q_72 j = 0 := by rw [eS_232]; exact (fun j9 => rd_rIa (fun e9 => absurd ((hk_220).symm.trans ((congrArg (hK _) e9).trans hk_211)) (by decide)) (hz_196 j9))
  have hv_264 : hR S_231 200 h = (some q_1) := by rw [eS_232]; exact hv_222
  have hv_265 : hR S_231 201 h = (some q_22) := by rw [eS_232]; exact hv_223
  have hv_266 : hR S_231 202 h = (some q_45) := by rw [eS_232]; exact hv_224
  have hv_267 : hR S_231 203 h = (some q_72) := by rw [eS_232]; exact hv_225
  have hv_268 : hR S_231 204 h = (some q_104) := by rw [eS_232]; exact hv_226
  have hv_269 : hR S_231 205 h = (some q_141) := by rw [eS_232]; exact hv_227
  have hv_270 : hR S_231 207 h = (some q_183) := by rw [eS_232]; exact hv_228
  have hv_271 : hR S_231 800 q_1 = (some q_5) := by rw [eS_232]; exact hv_229
  have hf_272 : Fm (fun _ _ => False) (fun f9 b9 => b9 = h) (fun _ => False) S S_231 := by rw [eS_232]; exact hf_233
  have loop_277 : ∀ (m9 c : Nat) (S_274 : Hp), c + m9 = 94 → Fm (fun _ _ => False) (fun _ _ => False) (fun b9 => b9 = q_45 ∨ b9 = q_104 ∨ b9 = q_141) S_231 S_274 → J x (0 + 1 + 1 + 1 + 1 + 1 + 1 + 1 + 1 + 0) (0 + 1 + 16 + 119 + 4352 + 400 + 2470 + 15808 + 8 + 0) S_274 [(1, .int (nI (33 + c))), (0, .ref h)] 93 [] := by
    intro m9
    induction m9 with
    | zero =>
      intro c S_274 hi_278 hl_275 
      have hz_279 : ∀ j, aI S_274 q_5 j = 0 := fun j9 => (hl_275.ai hm_256 (fun h9 => h9.elim (fun q9 => (ne_of_nin hq_46 hm_37) q9) (fun h9 => h9.elim (fun q9 => (ne_of_nin hq_105 hm_90) q9) (fun q9 => (ne_of_nin hq_142 hm_126) q9))) j9).trans (hz_259 j9)
      have hz_280 : ∀ j, aI S_274 q_72 j = 0 := fun j9 => (hl_275.ai hm_260 (fun h9 => h9.elim (fun q9 => (fun e9 => absurd ((hk_261).symm.trans ((congrArg (hK _) e9).trans hk_253)) (by decide)) q9) (fun h9 => h9.elim (fun q9 => (fun e9 => absurd ((hk_261).symm.trans ((congrArg (hK _) e9).trans hk_239)) (by decide)) q9) (fun q9 => (fun e9 => absurd ((hk_261).symm.trans ((congrArg (hK _) e9).trans hk_243)) (by decide)) q9))) j9).trans (hz_263 j9)
      have hm_281 : h ∈ hL S_274 := hl_275.mem hm_234
      have hk_282 : Kd S_274 h 2 := hl_275.kd hm_234 hk_235
      have hm_283 : q_1 ∈ hL S_274 := hl_275.mem hm_236
      have hk_284 : Kd S_274 q_1 8 := hl_275.kd hm_236 hk_237
      have hm_285 : q_104 ∈ hL S_274 := hl_275.mem hm_238
      have hk_286 : Kd S_274 q_104 14 := hl_275.kd hm_238 hk_239
      have hn_287 : Ln S_274 q_104 2470 := hl_275.ln hm_238 hn_240
      have hm_288 : q_141 ∈ hL S_274 := hl_275.mem hm_242
      have hk_289 : Kd S_274 q_141 14 := hl_275.kd hm_242 hk_243
      have hn_290 : Ln S_274 q_141 15808 := hl_275.ln hm_242 hn_244
      have hm_291 : q_183 ∈ hL S_274 := hl_275.mem hm_246
      have hk_292 : Kd S_274 q_183 14 := hl_275.kd hm_246 hk_247
      have hn_293 : Ln S_274 q_183 8 := hl_275.ln hm_246 hn_248
      have hm_294 : q_22 ∈ hL S_274 := hl_275.mem hm_249
      have hk_295 : Kd S_274 q_22 14 := hl_275.kd hm_249 hk_250
      have hn_296 : Ln S_274 q_22 119 := hl_275.ln hm_249 hn_251
      have hm_297 : q_45 ∈ hL S_274 := hl_275.mem hm_252
      have hk_298 : Kd S_274 q_45 14 := hl_275.kd hm_252 hk_253
      have hn_299 : Ln S_274 q_45 4352 := hl_275.ln hm_252 hn_254
      have hm_300 : q_5 ∈ hL S_274 := hl_275.mem hm_256
      have hk_301 : Kd S_274 q_5 14 := hl_275.kd hm_256 hk_257
      have hn_302 : Ln S_274 q_5 16 := hl_275.ln hm_256 hn_258
      have hm_303 : q_72 ∈ hL S_274 := hl_275.mem hm_260
      have hk_304 : Kd S_274 q_72 17 := hl_275.kd hm_260 hk_261
      have hn_305 : Ln S_274 q_72 400 := hl_275.ln hm_260 hn_262
      have hv_306 : hR S_274 200 h = (some q_1) := hl_275.fr hm_234 (fun h9 => h9) hv_264
      have hv_307 : hR S_274 201 h = (some q_22) := hl_275.fr hm_234 (fun h9 => h9) hv_265
      have hv_308 : hR S_274 202 h = (some q_45) := hl_275.fr hm_234 (fun h9 => h9) hv_266
      have hv_309 : hR S_274 203 h = (some q_72) := hl_275.fr hm_234 (fun h9 => h9) hv_267
      have hv_310 : hR S_274 204 h = (some q_104) := hl_275.fr hm_234 (fun h9 => h9) hv_268
      have hv_311 : hR S_274 205 h = (some q_141) := hl_275.fr hm_234 (fun h9 => h9) hv_269
      have hv_312 : hR S_274 207 h = (some q_183) := hl_275.fr hm_234 (fun h9 => h9) hv_270
      have hv_313 : hR S_274 800 q_1 = (some q_5) := hl_275.fr hm_236 (fun h9 => h9) hv_271
      have hf_314 : Fm (fun _ _ => False) (fun f9 b9 => b9 = h) (fun _ => False) S S_274 := hf_272.then hl_275 (fun a9 ha9 => ⟨(fun f9 h9 => h9.elim), (fun f9 h9 => h9.elim), (fun h9 => (fun h9 => h9.elim (fun h8 => absurd (h8 ▸ ha9) hz_47) (fun h9 => h9.elim (fun h8 => absurd (h8 ▸ ha9) hz_106) (fun h8 => absurd (h8 ▸ ha9) hz_143))) h9)⟩)
      refine j_iload_n C dX2_init_93 rfl 0 rfl ?_
      refine j_bipush (v := 126) C dX2_init_94 (by decide) ?_
      refine j_ic_gt (tgt := 193) C dX2_init_96 (by decide) (fun c_96 => ?_) (fun c_96 => absurd (nI_lt (a := 126) (by omega) (by omega)) c_96)
      exact j_vret C M dX2_init_193 (Nat.le_of_ble_eq_true rfl) (Nat.le_of_ble_eq_true rfl) ⟨rfl, hf_314, q_1, q_5, hz_3, hm_283, hk_284, hv_306, hz_21, hm_300, hk_301, hn_302, hv_313, hz_279⟩
    | succ m9 ih_276 =>
      intro c S_274 hi_278 hl_275 
      have hz_315 : ∀ j, aI S_274 q_5 j = 0 := fun j9 => (hl_275.ai hm_256 (fun h9 => h9.elim (fun q9 => (ne_of_nin hq_46 hm_37) q9) (fun h9 => h9.elim (fun q9 => (ne_of_nin hq_105 hm_90) q9) (fun q9 => (ne_of_nin hq_142 hm_126) q9))) j9).trans (hz_259 j9)
      have hz_316 : ∀ j, aI S_274 q_72 j = 0 := fun j9 => (hl_275.ai hm_260 (fun h9 => h9.elim (fun q9 => (fun e9 => absurd ((hk_261).symm.trans ((congrArg (hK _) e9).trans hk_253)) (by decide)) q9) (fun h9 => h9.elim (fun q9 => (fun e9 => absurd ((hk_261).symm.trans ((congrArg (hK _) e9).trans hk_239)) (by decide)) q9) (fun q9 => (fun e9 => absurd ((hk_261).symm.trans ((congrArg (hK _) e9).trans hk_243)) (by decide)) q9))) j9).trans (hz_263 j9)
      have hm_317 : h ∈ hL S_274 := hl_275.mem hm_234
      have hk_318 : Kd S_274 h 2 := hl_275.kd hm_234 hk_235
      have hm_319 : q_1 ∈ hL S_274 := hl_275.mem hm_236
      have hk_320 : Kd S_274 q_1 8 := hl_275.kd hm_236 hk_237
      have hm_321 : q_104 ∈ hL S_274 := hl_275.mem hm_238
      have hk_322 : Kd S_274 q_104 14 := hl_275.kd hm_238 hk_239
      have hn_323 : Ln S_274 q_104 2470 := hl_275.ln hm_238 hn_240
      have hm_324 : q_141 ∈ hL S_274 := hl_275.mem hm_242
      have hk_325 : Kd S_274 q_141 14 := hl_275.kd hm_242 hk_243
      have hn_326 : Ln S_274 q_141 15808 := hl_275.ln hm_242 hn_244
      have hm_327 : q_183 ∈ hL S_274 := hl_275.mem hm_246
      have hk_328 : Kd S_274 q_183 14 := hl_275.kd hm_246 hk_247
      have hn_329 : Ln S_274 q_183 8 := hl_275.ln hm_246 hn_248
      have hm_330 : q_22 ∈ hL S_274 := hl_275.mem hm_249
      have hk_331 : Kd S_274 q_22 14 := hl_275.kd hm_249 hk_250
      have hn_332 : Ln S_274 q_22 119 := hl_275.ln hm_249 hn_251
      have hm_333 : q_45 ∈ hL S_274 := hl_275.mem hm_252
      have hk_334 : Kd S_274 q_45 14 := hl_275.kd hm_252 hk_253
      have hn_335 : Ln S_274 q_45 4352 := hl_275.ln hm_252 hn_254
      have hm_336 : q_5 ∈ hL S_274 := hl_275.mem hm_256
      have hk_337 : Kd S_274 q_5 14 := hl_275.kd hm_256 hk_257
      have hn_338 : Ln S_274 q_5 16 := hl_275.ln hm_256 hn_258
      have hm_339 : q_72 ∈ hL S_274 := hl_275.mem hm_260
      have hk_340 : Kd S_274 q_72 17 := hl_275.kd hm_260 hk_261
      have hn_341 : Ln S_274 q_72 400 := hl_275.ln hm_260 hn_262
      have hv_342 : hR S_274 200 h = (some q_1) := hl_275.fr hm_234 (fun h9 => h9) hv_264
      have hv_343 : hR S_274 201 h = (some q_22) := hl_275.fr hm_234 (fun h9 => h9) hv_265
      have hv_344 : hR S_274 202 h = (some q_45) := hl_275.fr hm_234 (fun h9 => h9) hv_266
      have hv_345 : hR S_274 203 h = (some q_72) := hl_275.fr hm_234 (fun h9 => h9) hv_267
      have hv_346 : hR S_274 204 h = (some q_104) := hl_275.fr hm_234 (fun h9 => h9) hv_268
      have hv_347 : hR S_274 205 h = (some q_141) := hl_275.fr hm_234 (fun h9 => h9) hv_269
      have hv_348 : hR S_274 207 h = (some q_183) := hl_275.fr hm_234 (fun h9 => h9) hv_270
      have hv_349 : hR S_274 800 q_1 = (some q_5) := hl_275.fr hm_236 (fun h9 => h9) hv_271
      have hf_350 : Fm (fun _ _ => False) (fun f9 b9 => b9 = h) (fun _ => False) S S_274 := hf_272.then hl_275 (fun a9 ha9 => ⟨(fun f9 h9 => h9.elim), (fun f9 h9 => h9.elim), (fun h9 => (fun h9 => h9.elim (fun h8 => absurd (h8 ▸ ha9) hz_47) (fun h9 => h9.elim (fun h8 => absurd (h8 ▸ ha9) hz_106) (fun h8 => absurd (h8 ▸ ha9) hz_143))) h9)⟩)
      refine j_iload_n C dX2_init_93 rfl 0 rfl ?_
      refine j_bipush (v := 126) C dX2_init_94 (by decide) ?_
      refine j_ic_gt (tgt := 193) C dX2_init_96 (by decide) (fun c_96 => absurd c_96 (nI_nlt (a := 126) (by omega) (by omega))) (fun c_96 => ?_)
      show J _ _ _ _ _ 99 _
      refine j_sipush (v := 400) C dX2_init_99 (by decide) ?_
      refine j_iload_n C dX2_init_102 rfl 0 rfl ?_
      refine j_iadd (v := nI (400 + (33 + c))) C dX2_init_103 (nI_add 400 (33 + c)) ?_
      refine j_bipush (v := 33) C dX2_init_104 (by decide) ?_
      refine j_isub (v := nI (400 + c)) C dX2_init_106 ((pk_sub (a := 400 + (33 + c)) (b := 33) (by omega)).trans (congrArg nI (by omega))) ?_
      refine j_istore_n (lv' := [(2, .int (nI (400 + c))), (1, .int (nI (33 + c))), (0, .ref h)]) C dX2_init_107 rfl (by rw [hn9]; decide) rfl ?_
      refine j_aload_n C dX2_init_108 rfl 2 rfl ?_
      refine j_getr (f := 202) (v := q_45) C flX2_22 dX2_init_109 hm_317 hk_318 (by decide) rfl hv_344 ?_
      show J _ _ _ _ _ 112 _
      refine j_sipush (v := 4096) C dX2_init_112 (by decide) ?_
      refine j_iload_n C dX2_init_115 rfl 1 rfl ?_
      refine j_iadd (v := nI (4096 + (33 + c))) C dX2_init_116 (nI_add 4096 (33 + c)) ?_
      refine j_iload_n C dX2_init_117 rfl 0 rfl ?_
      refine j_iconst (v := 1) C dX2_init_118 (by decide) ?_
      refine j_iadd (v := nI (400 + c + 1)) C dX2_init_119 (nI_add (400 + c) 1) ?_
      refine j_iast (j := (4096 + (33 + c))) C dX2_init_120 hm_333 hk_334 (inr_of (n := 4352) hn_335 (vp_in_nI (by omega) (by omega))) (nI_clamp (by omega)) ?_
      refine j_aload_n C dX2_init_121 rfl 2 rfl ?_
      show J _ _ _ _ _ 122 _
      refine j_iload_n C dX2_init_122 rfl 0 rfl ?_
      refine j_iconst (v := 0) C dX2_init_123 (by decide) ?_
      refine j_bipush (v := 7) C dX2_init_124 (by decide) ?_
      refine j_bipush (v := 6) C dX2_init_126 (by decide) ?_
      refine j_bipush (v := 8) C dX2_init_128 (by decide) ?_
      refine j_sipush (v := 720) C dX2_init_130 (by decide) ?_
      have hf_351 : Fm (fun _ _ => False) (fun f9 b9 => b9 = h) (fun _ => False) S (tI S_274 q_45 (4096 + (33 + c)) (nI (400 + c + 1))) := (hf_350.tI _ _ (fun h9 => absurd h9 hz_47))
      have hf_352 : Fm (fun _ _ => False) (fun _ _ => False) (fun b9 => b9 = q_45 ∨ b9 = q_104 ∨ b9 = q_141) S_231 (tI S_274 q_45 (4096 + (33 + c)) (nI (400 + c + 1))) := (hl_275.tI _ _ (fun _ => (Or.inl rfl)))
      refine j_callV (ci := 2) C [.int (nI (400 + c)), .int 0, .int 7, .int 6, .int 8, .int 720] [] mlX2_48 mcX2_setHead (c_X2_setHead (tI S_274 q_45 (4096 + (33 + c)) (nI (400 + c + 1))) h q_104 (400 + c) 0 7 6 8 720 hm_317 hk_318 (by omega) hv_346 hm_321 hk_322 hn_323) hm_317 hk_318 rfl (M.rm (by decide) (by decide) (Nat.le_of_ble_eq_true rfl) (Nat.le_of_ble_eq_true rfl)) rfl rfl (Nat.le_of_ble_eq_true rfl) dX2_init_133 (fun r_353 S_354 hp_355 => ?_)
      obtain ⟨rfl, hf_356⟩ := hp_355
      refine J.eq (st' := []) rfl rfl rfl ?_
      have hz_357 : ∀ j, aI S_354 q_5 j = 0 := fun j9 => (hf_356.ai hm_336 (fun q9 => (ne_of_nin hq_105 hm_90) q9) j9).trans ((fun j9 => rd_tIa (ne_of_nin hq_46 hm_37) (hz_315 j9)) j9)
      have hz_358 : ∀ j, aI S_354 q_72 j = 0 := fun j9 => (hf_356.ai hm_339 (fun q9 => (fun e9 => absurd ((hk_340).symm.trans ((congrArg (hK _) e9).trans hk_322)) (by decide)) q9) j9).trans ((fun j9 => rd_tIa (fun e9 => absurd ((hk_340).symm.trans ((congrArg (hK _) e9).trans hk_334)) (by decide)) (hz_316 j9)) j9)
      have hm_359 : h ∈ hL S_354 := hf_356.mem hm_317
      have hk_360 : Kd S_354 h 2 := hf_356.kd hm_317 hk_318
      have hm_361 : q_1 ∈ hL S_354 := hf_356.mem hm_319
      have hk_362 : Kd S_354 q_1 8 := hf_356.kd hm_319 hk_320
      have hm_363 : q_104 ∈ hL S_354 := hf_356.mem hm_321
      have hk_364 : Kd S_354 q_104 14 := hf_356.kd hm_321 hk_322
      have hn_365 : Ln S_354 q_104 2470 := hf_356.ln hm_321 hn_323
      have hm_366 : q_141 ∈ hL S_354 := hf_356.mem hm_324
      have hk_367 : Kd S_354 q_141 14 := hf_356.kd hm_324 hk_325
      have hn_368 : Ln S_354 q_141 15808 := hf_356.ln hm_324 hn_326
      have hm_369 : q_183 ∈ hL S_354 := hf_356.mem hm_327
      have hk_370 : Kd S_354 q_183 14 := hf_356.kd hm_327 hk_328
      have hn_371 : Ln S_354 q_183 8 := hf_356.ln hm_327 hn_329
      have hm_372 : q_22 ∈ hL S_354 := hf_356.mem hm_330
      have hk_373 : Kd S_354 q_22 14 := hf_356.kd hm_330 hk_331
      have hn_374 : Ln S_354 q_22 119 := hf_356.ln hm_330 hn_332
      have hm_375 : q_45 ∈ hL S_354 := hf_356.mem hm_333
      have hk_376 : Kd S_354 q_45 14 := hf_356.kd hm_333 hk_334
      have hn_377 : Ln S_354 q_45 4352 := hf_356.ln hm_333 hn_335
      have hm_378 : q_5 ∈ hL S_354 := hf_356.mem hm_336
      have hk_379 : Kd S_354 q_5 14 := hf_356.kd hm_336 hk_337
      have hn_380 : Ln S_354 q_5 16 := hf_356.ln hm_336 hn_338
      have hm_381 : q_72 ∈ hL S_354 := hf_356.mem hm_339
      have hk_382 : Kd S_354 q_72 17 := hf_356.kd hm_339 hk_340
      have hn_383 : Ln S_354 q_72 400 := hf_356.ln hm_339 hn_341
      have hv_384 : hR S_354 200 h = (some q_1) := hf_356.fr hm_317 (fun h9 => h9) hv_342
      have hv_385 : hR S_354 201 h = (some q_22) := hf_356.fr hm_317 (fun h9 => h9) hv_343
      have hv_386 : hR S_354 202 h = (some q_45) := hf_356.fr hm_317 (fun h9 => h9) hv_344
      have hv_387 : hR S_354 203 h = (some q_72) := hf_356.fr hm_317 (fun h9 => h9) hv_345
      have hv_388 : hR S_354 204 h = (some q_104) := hf_356.fr hm_317 (fun h9 => h9) hv_346
      have hv_389 : hR S_354 205 h = (some q_141) := hf_356.fr hm_317 (fun h9 => h9) hv_347
      have hv_390 : hR S_354 207 h = (some q_183) := hf_356.fr hm_317 (fun h9 => h9) hv_348
      have hv_391 : hR S_354 800 q_1 = (some q_5) := hf_356.fr hm_319 (fun h9 => h9) hv_349
      have hf_392 : Fm (fun _ _ => False) (fun f9 b9 => b9 = h) (fun _ => False) S S_354 := hf_351.then hf_356 (fun a9 ha9 => ⟨(fun f9 h9 => h9.elim), (fun f9 h9 => h9.elim), (fun h9 => (fun h8 => absurd (h8 ▸ ha9) hz_106) h9)⟩)
      have hf_393 : Fm (fun _ _ => False) (fun _ _ => False) (fun b9 => b9 = q_45 ∨ b9 = q_104 ∨ b9 = q_141) S_231 S_354 := hf_352.then hf_356 (fun a9 ha9 => ⟨(fun f9 h9 => h9.elim), (fun f9 h9 => h9.elim), (fun h9 => (fun h8 => (Or.inr (Or.inl h8))) h9)⟩)
      refine j_iconst (v := 0) C dX2_init_136 (by decide) ?_
      show J _ _ _ _ _ 137 _
      refine j_istore_n (lv' := [(3, .int 0), (2, .int (nI (400 + c))), (1, .int (nI (33 + c))), (0, .ref h)]) C dX2_init_137 rfl (by rw [hn9]; decide) rfl ?_
      have loop_398 : ∀ (m9 r1 : Nat) (S_395 : Hp), r1 + m9 = 8 → Fm (fun _ _ => False) (fun _ _ => False) (fun b9 => b9 = q_141) S_354 S_395 → J x (0 + 1 + 1 + 1 + 1 + 1 + 1 + 1 + 1 + 0 + 0) (0 + 1 + 16 + 119 + 4352 + 400 + 2470 + 15808 + 8 + 0 + 0) S_395 [(3, .int (nI r1)), (2, .int (nI (400 + c))), (1, .int (nI (33 + c))), (0, .ref h)] 138 [] := by
        intro m9
        induction m9 with
        | zero =>
          intro r1 S_395 hi_399 hl_396 
          have hz_400 : ∀ j, aI S_395 q_5 j = 0 := fun j9 => (hl_396.ai hm_378 (fun q9 => (ne_of_nin hq_142 hm_126) q9) j9).trans (hz_357 j9)
          have hz_401 : ∀ j, aI S_395 q_72 j = 0 := fun j9 => (hl_396.ai hm_381 (fun q9 => (fun e9 => absurd ((hk_382).symm.trans ((congrArg (hK _) e9).trans hk_367)) (by decide)) q9) j9).trans (hz_358 j9)
          have hm_402 : h ∈ hL S_395 := hl_396.mem hm_359
          have hk_403 : Kd S_395 h 2 := hl_396.kd hm_359 hk_360
          have hm_404 : q_1 ∈ hL S_395 := hl_396.mem hm_361
          have hk_405 : Kd S_395 q_1 8 := hl_396.kd hm_361 hk_362
          have hm_406 : q_104 ∈ hL S_395 := hl_396.mem hm_363
          have hk_407 : Kd S_395 q_104 14 := hl_396.kd hm_363 hk_364
          have hn_408 : Ln S_395 q_104 2470 := hl_396.ln hm_363 hn_365
          have hm_409 : q_141 ∈ hL S_395 := hl_396.mem hm_366
          have hk_410 : Kd S_395 q_141 14 := hl_396.kd hm_366 hk_367
          have hn_411 : Ln S_395 q_141 15808 := hl_396.ln hm_366 hn_368
          have hm_412 : q_183 ∈ hL S_395 := hl_396.mem hm_369
          have hk_413 : Kd S_395 q_183 14 := hl_396.kd hm_369 hk_370
          have hn_414 : Ln S_395 q_183 8 := hl_396.ln hm_369 hn_371
          have hm_415 : q_22 ∈ hL S_395 := hl_396.mem hm_372
          have hk_416 : Kd S_395 q_22 14 := hl_396.kd hm_372 hk_373
          have hn_417 : Ln S_395 q_22 119 := hl_396.ln hm_372 hn_374
          have hm_418 : q_45 ∈ hL S_395 := hl_396.mem hm_375
          have hk_419 : Kd S_395 q_45 14 := hl_396.kd hm_375 hk_376
          have hn_420 : Ln S_395 q_45 4352 := hl_396.ln hm_375 hn_377
          have hm_421 : q_5 ∈ hL S_395 := hl_396.mem hm_378
          have hk_422 : Kd S_395 q_5 14 := hl_396.kd hm_378 hk_379
          have hn_423 : Ln S_395 q_5 16 := hl_396.ln hm_378 hn_380
          have hm_424 : q_72 ∈ hL S_395 := hl_396.mem hm_381
          have hk_425 : Kd S_395 q_72 17 := hl_396.kd hm_381 hk_382
          have hn_426 : Ln S_395 q_72 400 := hl_396.ln hm_381 hn_383
          have hv_427 : hR S_395 200 h = (some q_1) := hl_396.fr hm_359 (fun h9 => h9) hv_384
          have hv_428 : hR S_395 201 h = (some q_22) := hl_396.fr hm_359 (fun h9 => h9) hv_385
          have hv_429 : hR S_395 202 h = (some q_45) := hl_396.fr hm_359 (fun h9 => h9) hv_386
          have hv_430 : hR S_395 203 h = (some q_72) := hl_396.fr hm_359 (fun h9 => h9) hv_387
          have hv_431 : hR S_395 204 h = (some q_104) := hl_396.fr hm_359 (fun h9 => h9) hv_388
          have hv_432 : hR S_395 205 h = (some q_141) := hl_396.fr hm_359 (fun h9 => h9) hv_389
          have hv_433 : hR S_395 207 h = (some q_183) := hl_396.fr hm_359 (fun h9 => h9) hv_390
          have hv_434 : hR S_395 800 q_1 = (some q_5) := hl_396.fr hm_361 (fun h9 => h9) hv_391
          have hf_435 : Fm (fun _ _ => False) (fun f9 b9 => b9 = h) (fun _ => False) S S_395 := hf_392.then hl_396 (fun a9 ha9 => ⟨(fun f9 h9 => h9.elim), (fun f9 h9 => h9.elim), (fun h9 => (fun h8 => absurd (h8 ▸ ha9) hz_143) h9)⟩)
          have hf_436 : Fm (fun _ _ => False) (fun _ _ => False) (fun b9 => b9 = q_45 ∨ b9 = q_104 ∨ b9 = q_141) S_231 S_395 := hf_393.then hl_396 (fun a9 ha9 => ⟨(fun f9 h9 => h9.elim), (fun f9 h9 => h9.elim), (fun h9 => (fun h8 => (Or.inr (Or.inr h8))) h9)⟩)
          refine j_iload_n C dX2_init_138 rfl 0 rfl ?_
          refine j_bipush (v := 8) C dX2_init_139 (by decide) ?_
          refine j_ic_ge (tgt := 187) C dX2_init_141 (by decide) (fun c_141 => ?_) (fun c_141 => absurd (nI_le (a := 8) (by omega) (by omega)) c_141)
          refine j_iinc (q := 2) (v := nI (33 + (c + 1))) (lv' := [(1, .int (nI (33 + (c + 1)))), (3, .int (nI r1)), (2, .int (nI (400 + c))), (0, .ref h)]) C dX2_init_187 rfl (by rw [show Int32.ofInt 1 = 1 by decide]; exact nI_add (33 + c) 1) (by rw [hn9]; decide) rfl ?_
          refine j_goto (tgt := 93) C dX2_init_190 (by decide) ?_
          refine J.sub [0, 3] (lv' := [(1, .int (nI (33 + (c + 1)))), (0, .ref h)]) (by rfl) ?_
          exact ih_276 (c + 1) _ (by omega) hf_436 
        | succ m9 ih_397 =>
          intro r1 S_395 hi_399 hl_396 
          have hz_437 : ∀ j, aI S_395 q_5 j = 0 := fun j9 => (hl_396.ai hm_378 (fun q9 => (ne_of_nin hq_142 hm_126) q9) j9).trans (hz_357 j9)
          have hz_438 : ∀ j, aI S_395 q_72 j = 0 := fun j9 => (hl_396.ai hm_381 (fun q9 => (fun e9 => absurd ((hk_382).symm.trans ((congrArg (hK _) e9).trans hk_367)) (by decide)) q9) j9).trans (hz_358 j9)
          have hm_439 : h ∈ hL S_395 := hl_396.mem hm_359
          have hk_440 : Kd S_395 h 2 := hl_396.kd hm_359 hk_360
          have hm_441 : q_1 ∈ hL S_395 := hl_396.mem hm_361
          have hk_442 : Kd S_395 q_1 8 := hl_396.kd hm_361 hk_362
          have hm_443 : q_104 ∈ hL S_395 := hl_396.mem hm_363
          have hk_444 : Kd S_395 q_104 14 := hl_396.kd hm_363 hk_364
          have hn_445 : Ln S_395 q_104 2470 := hl_396.ln hm_363 hn_365
          have hm_446 : q_141 ∈ hL S_395 := hl_396.mem hm_366
          have hk_447 : Kd S_395 q_141 14 := hl_396.kd hm_366 hk_367
          have hn_448 : Ln S_395 q_141 15808 := hl_396.ln hm_366 hn_368
          have hm_449 : q_183 ∈ hL S_395 := hl_396.mem hm_369
          have hk_450 : Kd S_395 q_183 14 := hl_396.kd hm_369 hk_370
          have hn_451 : Ln S_395 q_183 8 := hl_396.ln hm_369 hn_371
          have hm_452 : q_22 ∈ hL S_395 := hl_396.mem hm_372
          have hk_453 : Kd S_395 q_22 14 := hl_396.kd hm_372 hk_373
          have hn_454 : Ln S_395 q_22 119 := hl_396.ln hm_372 hn_374
          have hm_455 : q_45 ∈ hL S_395 := hl_396.mem hm_375
          have hk_456 : Kd S_395 q_45 14 := hl_396.kd hm_375 hk_376
          have hn_457 : Ln S_395 q_45 4352 := hl_396.ln hm_375 hn_377
          have hm_458 : q_5 ∈ hL S_395 := hl_396.mem hm_378
          have hk_459 : Kd S_395 q_5 14 := hl_396.kd hm_378 hk_379
          have hn_460 : Ln S_395 q_5 16 := hl_396.ln hm_378 hn_380
          have hm_461 : q_72 ∈ hL S_395 := hl_396.mem hm_381
          have hk_462 : Kd S_395 q_72 17 := hl_396.kd hm_381 hk_382
          have hn_463 : Ln S_395 q_72 400 := hl_396.ln hm_381 hn_383
          have hv_464 : hR S_395 200 h = (some q_1) := hl_396.fr hm_359 (fun h9 => h9) hv_384
          have hv_465 : hR S_395 201 h = (some q_22) := hl_396.fr hm_359 (fun h9 => h9) hv_385
          have hv_466 : hR S_395 202 h = (some q_45) := hl_396.fr hm_359 (fun h9 => h9) hv_386
          have hv_467 : hR S_395 203 h = (some q_72) := hl_396.fr hm_359 (fun h9 => h9) hv_387
          have hv_468 : hR S_395 204 h = (some q_104) := hl_396.fr hm_359 (fun h9 => h9) hv_388
          have hv_469 : hR S_395 205 h = (some q_141) := hl_396.fr hm_359 (fun h9 => h9) hv_389
          have hv_470 : hR S_395 207 h = (some q_183) := hl_396.fr hm_359 (fun h9 => h9) hv_390
          have hv_471 : hR S_395 800 q_1 = (some q_5) := hl_396.fr hm_361 (fun h9 => h9) hv_391
          have hf_472 : Fm (fun _ _ => False) (fun f9 b9 => b9 = h) (fun _ => False) S S_395 := hf_392.then hl_396 (fun a9 ha9 => ⟨(fun f9 h9 => h9.elim), (fun f9 h9 => h9.elim), (fun h9 => (fun h8 => absurd (h8 ▸ ha9) hz_143) h9)⟩)
          have hf_473 : Fm (fun _ _ => False) (fun _ _ => False) (fun b9 => b9 = q_45 ∨ b9 = q_104 ∨ b9 = q_141) S_231 S_395 := hf_393.then hl_396 (fun a9 ha9 => ⟨(fun f9 h9 => h9.elim), (fun f9 h9 => h9.elim), (fun h9 => (fun h8 => (Or.inr (Or.inr h8))) h9)⟩)
          refine j_iload_n C dX2_init_138 rfl 0 rfl ?_
          refine j_bipush (v := 8) C dX2_init_139 (by decide) ?_
          refine j_ic_ge (tgt := 187) C dX2_init_141 (by decide) (fun c_141 => absurd c_141 (nI_ge (b := 8) (by omega) (by omega))) (fun c_141 => ?_)
          refine j_iload_n C dX2_init_144 rfl 2 rfl ?_
          show J _ _ _ _ _ 145 _
          refine j_iload_n C dX2_init_145 rfl 2 rfl ?_
          refine j_imul C dX2_init_146 rfl ?_
          refine j_bipush (v := 7) C dX2_init_147 (by decide) ?_
          refine j_iload_n C dX2_init_149 rfl 2 rfl ?_
          refine j_imul C dX2_init_150 rfl ?_
          refine j_iload_n C dX2_init_151 rfl 0 rfl ?_
          refine j_imul C dX2_init_152 rfl ?_
          refine j_iadd C dX2_init_153 rfl ?_
          show J _ _ _ _ _ 154 _
          refine j_bipush (v := 13) C dX2_init_154 (by decide) ?_
          refine j_iload_n C dX2_init_156 rfl 0 rfl ?_
          refine j_imul C dX2_init_157 rfl ?_
          refine j_iload_n C dX2_init_158 rfl 0 rfl ?_
          refine j_imul C dX2_init_159 rfl ?_
          refine j_iadd C dX2_init_160 rfl ?_
          refine j_iconst (v := 4) C dX2_init_161 (by decide) ?_
          refine j_idiv C dX2_init_162 (by decide) rfl ?_
          show J _ _ _ _ _ 163 _
          refine j_istore (lv' := [(4, .int (((((nI (33 + c)) * (nI (33 + c))) + (((7 : Int32) * (nI (33 + c))) * (nI r1))) + (((13 : Int32) * (nI r1)) * (nI r1))) / 4)), (3, .int (nI r1)), (2, .int (nI (400 + c))), (1, .int (nI (33 + c))), (0, .ref h)]) C dX2_init_163 (by rw [hn9]; decide) rfl ?_
          refine j_aload_n C dX2_init_165 rfl 4 rfl ?_
          refine j_getr (f := 205) (v := q_141) C flX2_32 dX2_init_166 hm_439 hk_440 (by decide) rfl hv_469 ?_
          refine j_iload_n C dX2_init_169 rfl 2 rfl ?_
          refine j_bipush (v := 32) C dX2_init_170 (by decide) ?_
          refine j_imul (v := nI ((400 + c) * 32)) C dX2_init_172 (pk_mul (400 + c) 32) ?_
          refine j_iload_n C dX2_init_173 rfl 1 rfl ?_
          refine j_iadd (v := nI ((400 + c) * 32 + r1)) C dX2_init_174 (nI_add ((400 + c) * 32) r1) ?_
          show J _ _ _ _ _ 175 _
          refine j_iload C dX2_init_175 0 rfl ?_
          refine j_bipush (v := 26) C dX2_init_177 (by decide) ?_
          refine j_ishl C dX2_init_179 rfl ?_
          refine j_iast (j := ((400 + c) * 32 + r1)) C dX2_init_180 hm_446 hk_447 (inr_of (n := 15808) hn_448 (vp_in_nI (by omega) (by omega))) (nI_clamp (by omega)) ?_
          refine j_iinc (q := 1) (v := nI (r1 + 1)) (lv' := [(3, .int (nI (r1 + 1))), (4, .int (((((nI (33 + c)) * (nI (33 + c))) + (((7 : Int32) * (nI (33 + c))) * (nI r1))) + (((13 : Int32) * (nI r1)) * (nI r1))) / 4)), (2, .int (nI (400 + c))), (1, .int (nI (33 + c))), (0, .ref h)]) C dX2_init_181 rfl (by rw [show Int32.ofInt 1 = 1 by decide]; exact nI_add r1 1) (by rw [hn9]; decide) rfl ?_
          refine j_goto (tgt := 138) C dX2_init_184 (by decide) ?_
          refine J.sub [0, 2, 3, 4] (lv' := [(3, .int (nI (r1 + 1))), (2, .int (nI (400 + c))), (1, .int (nI (33 + c))), (0, .ref h)]) (by rfl) ?_
          exact ih_397 (r1 + 1) _ (by omega) (hl_396.tI _ _ (fun _ => rfl)) 
      refine J.sub [0, 1, 2, 3] (lv' := [(3, .int (nI 0)), (2, .int (nI (400 + c))), (1, .int (nI (33 + c))), (0, .ref h)]) (by rw [nI_0]; rfl) ?_
      exact loop_398 8 0 _ (by omega) Fm.refl 
  refine J.sub [0, 1] (lv' := [(1, .int (nI (33 + 0))), (0, .ref h)]) (by rfl) ?_
  exact loop_277 94 0 _ (by omega) Fm.refl 
end
section
theorem dX6_init_0 : decode cX6_init 0 = .ok (.aload_n 0, 1) := by decide +kernel
theorem dX6_init_1 : decode cX6_init 1 = .ok (.invokespecial 3, 3) := by decide +kernel
theorem dX6_init_4 : decode cX6_init 4 = .ok (.aload_n 0, 1) := by decide +kernel
theorem dX6_init_5 : decode cX6_init 5 = .ok (.ldc 11, 2) := by decide +kernel
theorem dX6_init_7 : decode cX6_init 7 = .ok (.newarray .byte, 2) := by decide +kernel
theorem dX6_init_9 : decode cX6_init 9 = .ok (.putfield 12, 3) := by decide +kernel
theorem dX6_init_12 : decode cX6_init 12 = .ok (.aload_n 0, 1) := by decide +kernel
theorem dX6_init_13 : decode cX6_init 13 = .ok (.bipush 12, 2) := by decide +kernel
theorem dX6_init_15 : decode cX6_init 15 = .ok (.newarray .int, 2) := by decide +kernel
theorem dX6_init_17 : decode cX6_init 17 = .ok (.putfield 16, 3) := by decide +kernel
theorem dX6_init_20 : decode cX6_init 20 = .ok (.aload_n 0, 1) := by decide +kernel
theorem dX6_init_21 : decode cX6_init 21 = .ok (.bipush 12, 2) := by decide +kernel
theorem dX6_init_23 : decode cX6_init 23 = .ok (.newarray .int, 2) := by decide +kernel
theorem dX6_init_25 : decode cX6_init 25 = .ok (.putfield 20, 3) := by decide +kernel
theorem dX6_init_28 : decode cX6_init 28 = .ok (.aload_n 0, 1) := by decide +kernel
theorem dX6_init_29 : decode cX6_init 29 = .ok (.bipush 13, 2) := by decide +kernel
theorem dX6_init_31 : decode cX6_init 31 = .ok (.sipush 16000, 3) := by decide +kernel
theorem dX6_init_34 : decode cX6_init 34 = .ok (.multianewarray 23 2, 4) := by decide +kernel
theorem dX6_init_38 : decode cX6_init 38 = .ok (.putfield 25, 3) := by decide +kernel
theorem dX6_init_41 : decode cX6_init 41 = .ok (.return_, 1) := by decide +kernel
set_option maxRecDepth 100000 in
set_option maxHeartbeats 4000000 in
theorem c_X6_init (S : Hp) (h : Nat) (hm : h ∈ hL S) (hk : hK S h = 6) : Ct 1 yX6_init cX6_init 1 none 17 268037 [.ref h] S (fun r S' => r = none ∧ Fm (fun _ _ => False) (fun f9 b9 => b9 = h) (fun _ => False) S S' ∧ ∃ q0 : Nat, q0 ∉ hL S ∧ q0 ∈ hL S' ∧ Kd S' q0 13 ∧ Ln S' q0 60000 ∧ hR S' 600 h = some q0 ∧ (∀ j, aI S' q0 j = 0)) := by
  refine ct_of (by decide) (Nat.le_of_ble_eq_true rfl) fun x hn9 C M hm9 => ?_
  have C : CB x RX6 cX6_init := C
  refine J.eq (lv' := [(0, .ref h)]) rfl rfl rfl ?_
  refine j_aload_n C dX6_init_0 rfl 0 rfl ?_
  refine j_objInit C mlX6_3 nst_oi (M.fl (by decide)) dX6_init_1 ?_
  refine j_aload_n C dX6_init_4 rfl 0 rfl ?_
  refine j_ldc (v := 60000) C dX6_init_5 kcX6_11 ?_
  refine j_newB (N := 60000) C ka_byte (by decide) (by decide) (Nat.le_of_ble_eq_true rfl) (M.cells (by decide)) (M.slots (Nat.le_of_ble_eq_true rfl)) dX6_init_7 (fun q_1 hq_2 => ?_)
  have hz_3 : q_1 ∉ hL S := hq_2
  refine j_putrF (f := 600) C hm9 flX6_12o (by decide) rfl rfl dX6_init_9 (mem_old hm) (kd_nA (k := 13) (n := 60000) hq_2 hm hk) rfl ?_
  refine j_aload_n C dX6_init_12 rfl 0 rfl ?_
  refine j_bipush (v := 12) C dX6_init_13 (by decide) ?_
  show J _ _ _ _ _ 15 _
  have hf_6 : Fm (fun _ _ => False) (fun f9 b9 => b9 = h) (fun _ => False) S (sR (nA S q_1 13 60000) 600 h (some q_1)) := (((Fm.refl (WI := (fun _ _ => False)) (WR := (fun f9 b9 => b9 = h)) (WA := (fun _ => False))).nA _ _ hq_2).sR _ (fun _ => rfl))
  obtain ⟨S_4, eS_5⟩ : ∃ S9 : Hp, S9 = (sR (nA S q_1 13 60000) 600 h (some q_1)) := ⟨_, rfl⟩
  refine J.eq (S' := S_4) eS_5.symm rfl rfl ?_
  have hm_7 : h ∈ hL S_4 := by rw [eS_5]; exact (mem_old hm)
  have hk_8 : Kd S_4 h 6 := by rw [eS_5]; exact (kd_nA (k := 13) (n := 60000) hq_2 hm hk)
  have hm_9 : q_1 ∈ hL S_4 := by rw [eS_5]; exact mem_new
  have hk_10 : Kd S_4 q_1 13 := by rw [eS_5]; exact (kd_nA' (k := 13) (n := 60000))
  have hn_11 : Ln S_4 q_1 60000 := by rw [eS_5]; exact (ln_nA' (k := 13))
  have hz_12 : ∀ j, aI S_4 q_1 j = 0 := by rw [eS_5]; exact (fun j9 => rd_nAI' (k := 13) (n := 60000))
  have hv_13 : hR S_4 600 h = (some q_1) := by rw [eS_5]; exact (rd_sR (S := (nA S q_1 13 60000)) (g := 600) (a := h) (v := (some q_1)))
  have hf_14 : Fm (fun _ _ => False) (fun f9 b9 => b9 = h) (fun _ => False) S S_4 := by rw [eS_5]; exact hf_6
  refine j_newI (N := 12) C ka_int (by decide) (by decide) (Nat.le_of_ble_eq_true rfl) (M.cells (by decide)) (M.slots (Nat.le_of_ble_eq_true rfl)) dX6_init_15 (fun q_15 hq_16 => ?_)
  have hz_17 : q_15 ∉ hL S := fun h9 => hq_16 (hf_14.mem h9)
  refine j_putrF (f := 604) C hm9 flX6_16o (by decide) rfl rfl dX6_init_17 (mem_old hm_7) (kd_nA (k := 14) (n := 12) hq_16 hm_7 hk_8) rfl ?_
  refine j_aload_n C dX6_init_20 rfl 0 rfl ?_
  refine j_bipush (v := 12) C dX6_init_21 (by decide) ?_
  have hf_20 : Fm (fun _ _ => False) (fun f9 b9 => b9 = h) (fun _ => False) S (sR (nA S_4 q_15 14 12) 604 h (some q_15)) := ((hf_14.nA _ _ hq_16).sR _ (fun _ => rfl))
  obtain ⟨S_18, eS_19⟩ : ∃ S9 : Hp, S9 = (sR (nA S_4 q_15 14 12) 604 h (some q_15)) := ⟨_, rfl⟩
  refine J.eq (S' := S_18) eS_19.symm rfl rfl ?_
  have hm_21 : h ∈ hL S_18 := by rw [eS_19]; exact (mem_old hm_7)
  have hk_22 : Kd S_18 h 6 := by rw [eS_19]; exact (kd_nA (k := 14) (n := 12) hq_16 hm_7 hk_8)
  have hm_23 : q_1 ∈ hL S_18 := by rw [eS_19]; exact (mem_old hm_9)
  have hk_24 : Kd S_18 q_1 13 := by rw [eS_19]; exact (kd_nA (k := 14) (n := 12) hq_16 hm_9 hk_10)
  have hn_25 : Ln S_18 q_1 60000 := by rw [eS_19]; exact (ln_nA (k := 14) hq_16 hm_9 hn_11)
  have hz_26 : ∀ j, aI S_18 q_1 j = 0 := by rw [eS_19]; exact (fun j9 => rd_nAI (k := 14) (n := 12) hq_16 hm_9 (hz_12 j9))
  have hm_27 : q_15 ∈ hL S_18 := by rw [eS_19]; exact mem_new
  have hk_28 : Kd S_18 q_15 14 := by rw [eS_19]; exact (kd_nA' (k := 14) (n := 12))
  have hn_29 : Ln S_18 q_15 12 := by rw [eS_19]; exact (ln_nA' (k := 14))
  have hz_30 : ∀ j, aI S_18 q_15 j = 0 := by rw [eS_19]; exact (fun j9 => rd_nAI' (k := 14) (n := 12))
  have hv_31 : hR S_18 600 h = (some q_1) := by rw [eS_19]; exact (rd_sRf (S := (nA S_4 q_15 14 12)) (g := 604) (a := h) (v := (some q_15)) (by decide) hv_13)
  have hv_32 : hR S_18 604 h = (some q_15) := by rw [eS_19]; exact (rd_sR (S := (nA S_4 q_15 14 12)) (g := 604) (a := h) (v := (some q_15)))
  have hf_33 : Fm (fun _ _ => False) (fun f9 b9 => b9 = h) (fun _ => False) S S_18 := by rw [eS_19]; exact hf_20
  refine j_newI (N := 12) C ka_int (by decide) (by decide) (Nat.le_of_ble_eq_true rfl) (M.cells (by decide)) (M.slots (Nat.le_of_ble_eq_true rfl)) dX6_init_23 (fun q_34 hq_35 => ?_)
  have hz_36 : q_34 ∉ hL S := fun h9 => hq_35 (hf_33.mem h9)
  refine j_putrF (f := 605) C hm9 flX6_20o (by decide) rfl rfl dX6_init_25 (mem_old hm_21) (kd_nA (k := 14) (n := 12) hq_35 hm_21 hk_22) rfl ?_
  refine j_aload_n C dX6_init_28 rfl 0 rfl ?_
  refine j_bipush (v := 13) C dX6_init_29 (by decide) ?_
  show J _ _ _ _ _ 31 _
  refine j_sipush (v := 16000) C dX6_init_31 (by decide) ?_
  have hf_39 : Fm (fun _ _ => False) (fun f9 b9 => b9 = h) (fun _ => False) S (sR (nA S_18 q_34 14 12) 605 h (some q_34)) := ((hf_33.nA _ _ hq_35).sR _ (fun _ => rfl))
  obtain ⟨S_37, eS_38⟩ : ∃ S9 : Hp, S9 = (sR (nA S_18 q_34 14 12) 605 h (some q_34)) := ⟨_, rfl⟩
  refine J.eq (S' := S_37) eS_38.symm rfl rfl ?_
  have hm_40 : h ∈ hL S_37 := by rw [eS_38]; exact (mem_old hm_21)
  have hk_41 : Kd S_37 h 6 := by rw [eS_38]; exact (kd_nA (k := 14) (n := 12) hq_35 hm_21 hk_22)
  have hm_42 : q_1 ∈ hL S_37 := by rw [eS_38]; exact (mem_old hm_23)
  have hk_43 : Kd S_37 q_1 13 := by rw [eS_38]; exact (kd_nA (k := 14) (n := 12) hq_35 hm_23 hk_24)
  have hn_44 : Ln S_37 q_1 60000 := by rw [eS_38]; exact (ln_nA (k := 14) hq_35 hm_23 hn_25)
  have hz_45 : ∀ j, aI S_37 q_1 j = 0 := by rw [eS_38]; exact (fun j9 => rd_nAI (k := 14) (n := 12) hq_35 hm_23 (hz_26 j9))
  have hm_46 : q_15 ∈ hL S_37 := by rw [eS_38]; exact (mem_old hm_27)
  have hk_47 : Kd S_37 q_15 14 := by rw [eS_38]; exact (kd_nA (k := 14) (n := 12) hq_35 hm_27 hk_28)
  have hn_48 : Ln S_37 q_15 12 := by rw [eS_38]; exact (ln_nA (k := 14) hq_35 hm_27 hn_29)
  have hz_49 : ∀ j, aI S_37 q_15 j = 0 := by rw [eS_38]; exact (fun j9 => rd_nAI (k := 14) (n := 12) hq_35 hm_27 (hz_30 j9))
  have hm_50 : q_34 ∈ hL S_37 := by rw [eS_38]; exact mem_new
  have hk_51 : Kd S_37 q_34 14 := by rw [eS_38]; exact (kd_nA' (k := 14) (n := 12))
  have hn_52 : Ln S_37 q_34 12 := by rw [eS_38]; exact (ln_nA' (k := 14))
  have hz_53 : ∀ j, aI S_37 q_34 j = 0 := by rw [eS_38]; exact (fun j9 => rd_nAI' (k := 14) (n := 12))
  have hv_54 : hR S_37 600 h = (some q_1) := by rw [eS_38]; exact (rd_sRf (S := (nA S_18 q_34 14 12)) (g := 605) (a := h) (v := (some q_34)) (by decide) hv_31)
  have hv_55 : hR S_37 604 h = (some q_15) := by rw [eS_38]; exact (rd_sRf (S := (nA S_18 q_34 14 12)) (g := 605) (a := h) (v := (some q_34)) (by decide) hv_32)
  have hv_56 : hR S_37 605 h = (some q_34) := by rw [eS_38]; exact (rd_sR (S := (nA S_18 q_34 14 12)) (g := 605) (a := h) (v := (some q_34)))
  have hf_57 : Fm (fun _ _ => False) (fun f9 b9 => b9 = h) (fun _ => False) S S_37 := by rw [eS_38]; exact hf_39
  refine j_mna (N := 13) (K := 16000) C klX6_23 (by decide) (by decide) (by decide) (by decide) (by decide) (by decide) (M.cells (by decide)) (M.slots (Nat.le_of_ble_eq_true rfl)) dX6_init_34 ka_int (fun q_58 S_59 e_60 hf_61 e_62 e_63 e_64 e_65 => ?_)
  have hz_66 : ∀ j, aI S_59 q_1 j = 0 := fun j9 => (hf_61.ai hm_42 (fun h9 => h9) j9).trans (hz_45 j9)
  have hz_67 : ∀ j, aI S_59 q_15 j = 0 := fun j9 => (hf_61.ai hm_46 (fun h9 => h9) j9).trans (hz_49 j9)
  have hz_68 : ∀ j, aI S_59 q_34 j = 0 := fun j9 => (hf_61.ai hm_50 (fun h9 => h9) j9).trans (hz_53 j9)
  have hm_69 : h ∈ hL S_59 := hf_61.mem hm_40
  have hk_70 : Kd S_59 h 6 := hf_61.kd hm_40 hk_41
  have hm_71 : q_1 ∈ hL S_59 := hf_61.mem hm_42
  have hk_72 : Kd S_59 q_1 13 := hf_61.kd hm_42 hk_43
  have hn_73 : Ln S_59 q_1 60000 := hf_61.ln hm_42 hn_44
  have hm_74 : q_15 ∈ hL S_59 := hf_61.mem hm_46
  have hk_75 : Kd S_59 q_15 14 := hf_61.kd hm_46 hk_47
  have hn_76 : Ln S_59 q_15 12 := hf_61.ln hm_46 hn_48
  have hm_77 : q_34 ∈ hL S_59 := hf_61.mem hm_50
  have hk_78 : Kd S_59 q_34 14 := hf_61.kd hm_50 hk_51
  have hn_79 : Ln S_59 q_34 12 := hf_61.ln hm_50 hn_52
  have hv_80 : hR S_59 600 h = (some q_1) := hf_61.fr hm_40 (fun h9 => h9) hv_54
  have hv_81 : hR S_59 604 h = (some q_15) := hf_61.fr hm_40 (fun h9 => h9) hv_55
  have hv_82 : hR S_59 605 h = (some q_34) := hf_61.fr hm_40 (fun h9 => h9) hv_56
  have hf_83 : Fm (fun _ _ => False) (fun f9 b9 => b9 = h) (fun _ => False) S S_59 := hf_57.then hf_61 (fun a9 ha9 => ⟨(fun f9 h9 => h9.elim), (fun f9 h9 => h9.elim), (fun h9 => h9.elim)⟩)
  have hz_84 : q_58 ∉ hL S := fun h9 => e_60 (hf_57.mem h9)
  refine j_putrF (f := 606) C hm9 flX6_25o (by decide) rfl rfl dX6_init_38 hm_69 hk_70 rfl ?_
  exact j_vret C M dX6_init_41 (Nat.le_of_ble_eq_true rfl) (Nat.le_of_ble_eq_true rfl) ⟨rfl, (hf_83.sR _ (fun _ => rfl)), q_1, hz_3, hm_71, hk_72, hn_73, (rd_sRf (S := S_59) (g := 606) (a := h) (v := (some q_58)) (by decide) hv_80), hz_66⟩
end
section
def rt_o (i : Nat) : Nat := 13 - (st_RUN_BITS.getD i 0).toNatClampNeg
def rt_s (i : Nat) : Nat := 2 ^ rt_o i
def rt_f (i : Nat) : Nat := i / 74 * 8192 + (st_RUN_CODES.getD i 0).toNatClampNeg * rt_s i
set_option maxRecDepth 100000 in
theorem rt_all : ∀ i, i < 148 → ((13 : Int32) - st_RUN_BITS.getD i 0 = nI (rt_o i) ∧ (1 : Int32) <<< (nI (rt_o i) &&& 31) = nI (rt_s i) ∧ (nI (i / 74) <<< ((13 : Int32) &&& 31)) + (st_RUN_CODES.getD i 0 <<< (nI (rt_o i) &&& 31)) = nI (rt_f i) ∧ rt_f i + rt_s i ≤ 16384) := by decide +kernel

theorem dX3_init_0 : decode cX3_init 0 = .ok (.aload_n 0, 1) := by decide +kernel
theorem dX3_init_1 : decode cX3_init 1 = .ok (.invokespecial 3, 3) := by decide +kernel
theorem dX3_init_4 : decode cX3_init 4 = .ok (.aload_n 0, 1) := by decide +kernel
theorem dX3_init_5 : decode cX3_init 5 = .ok (.iconst 0, 1) := by decide +kernel
theorem dX3_init_6 : decode cX3_init 6 = .ok (.newarray .byte, 2) := by decide +kernel
theorem dX3_init_8 : decode cX3_init 8 = .ok (.putfield 9, 3) := by decide +kernel
theorem dX3_init_11 : decode cX3_init 11 = .ok (.aload_n 0, 1) := by decide +kernel
theorem dX3_init_12 : decode cX3_init 12 = .ok (.bipush 12, 2) := by decide +kernel
theorem dX3_init_14 : decode cX3_init 14 = .ok (.newarray .long, 2) := by decide +kernel
theorem dX3_init_16 : decode cX3_init 16 = .ok (.putfield 15, 3) := by decide +kernel
theorem dX3_init_19 : decode cX3_init 19 = .ok (.aload_n 0, 1) := by decide +kernel
theorem dX3_init_20 : decode cX3_init 20 = .ok (.sipush 12000, 3) := by decide +kernel
theorem dX3_init_23 : decode cX3_init 23 = .ok (.newarray .byte, 2) := by decide +kernel
theorem dX3_init_25 : decode cX3_init 25 = .ok (.putfield 19, 3) := by decide +kernel
theorem dX3_init_28 : decode cX3_init 28 = .ok (.aload_n 0, 1) := by decide +kernel
theorem dX3_init_29 : decode cX3_init 29 = .ok (.sipush 16384, 3) := by decide +kernel
theorem dX3_init_32 : decode cX3_init 32 = .ok (.newarray .short, 2) := by decide +kernel
theorem dX3_init_34 : decode cX3_init 34 = .ok (.putfield 22, 3) := by decide +kernel
theorem dX3_init_37 : decode cX3_init 37 = .ok (.aload_n 0, 1) := by decide +kernel
theorem dX3_init_38 : decode cX3_init 38 = .ok (.aload_n 1, 1) := by decide +kernel
theorem dX3_init_39 : decode cX3_init 39 = .ok (.putfield 26, 3) := by decide +kernel
theorem dX3_init_42 : decode cX3_init 42 = .ok (.iconst 0, 1) := by decide +kernel
theorem dX3_init_43 : decode cX3_init 43 = .ok (.istore_n 2, 1) := by decide +kernel
theorem dX3_init_44 : decode cX3_init 44 = .ok (.iload_n 2, 1) := by decide +kernel
theorem dX3_init_45 : decode cX3_init 45 = .ok (.getstatic 30, 3) := by decide +kernel
theorem dX3_init_48 : decode cX3_init 48 = .ok (.arraylength, 1) := by decide +kernel
theorem dX3_init_49 : decode cX3_init 49 = .ok (.if_icmp .ge 90, 3) := by decide +kernel
theorem dX3_init_52 : decode cX3_init 52 = .ok (.iload_n 2, 1) := by decide +kernel
theorem dX3_init_53 : decode cX3_init 53 = .ok (.getstatic 34, 3) := by decide +kernel
theorem dX3_init_56 : decode cX3_init 56 = .ok (.arraylength, 1) := by decide +kernel
theorem dX3_init_57 : decode cX3_init 57 = .ok (.if_icmp .ge 82, 3) := by decide +kernel
theorem dX3_init_60 : decode cX3_init 60 = .ok (.iload_n 2, 1) := by decide +kernel
theorem dX3_init_61 : decode cX3_init 61 = .ok (.bipush 74, 2) := by decide +kernel
theorem dX3_init_63 : decode cX3_init 63 = .ok (.idiv, 1) := by decide +kernel
theorem dX3_init_64 : decode cX3_init 64 = .ok (.istore_n 3, 1) := by decide +kernel
theorem dX3_init_65 : decode cX3_init 65 = .ok (.bipush 13, 2) := by decide +kernel
theorem dX3_init_67 : decode cX3_init 67 = .ok (.getstatic 34, 3) := by decide +kernel
theorem dX3_init_70 : decode cX3_init 70 = .ok (.iload_n 2, 1) := by decide +kernel
theorem dX3_init_71 : decode cX3_init 71 = .ok (.iaload, 1) := by decide +kernel
theorem dX3_init_72 : decode cX3_init 72 = .ok (.isub, 1) := by decide +kernel
theorem dX3_init_73 : decode cX3_init 73 = .ok (.istore 4, 2) := by decide +kernel
theorem dX3_init_75 : decode cX3_init 75 = .ok (.iload_n 3, 1) := by decide +kernel
theorem dX3_init_76 : decode cX3_init 76 = .ok (.bipush 13, 2) := by decide +kernel
theorem dX3_init_78 : decode cX3_init 78 = .ok (.ishl, 1) := by decide +kernel
theorem dX3_init_79 : decode cX3_init 79 = .ok (.getstatic 30, 3) := by decide +kernel
theorem dX3_init_82 : decode cX3_init 82 = .ok (.iload_n 2, 1) := by decide +kernel
theorem dX3_init_83 : decode cX3_init 83 = .ok (.iaload, 1) := by decide +kernel
theorem dX3_init_84 : decode cX3_init 84 = .ok (.iload 4, 2) := by decide +kernel
theorem dX3_init_86 : decode cX3_init 86 = .ok (.ishl, 1) := by decide +kernel
theorem dX3_init_87 : decode cX3_init 87 = .ok (.iadd, 1) := by decide +kernel
theorem dX3_init_88 : decode cX3_init 88 = .ok (.istore 5, 2) := by decide +kernel
theorem dX3_init_90 : decode cX3_init 90 = .ok (.iload 5, 2) := by decide +kernel
theorem dX3_init_92 : decode cX3_init 92 = .ok (.istore 6, 2) := by decide +kernel
theorem dX3_init_94 : decode cX3_init 94 = .ok (.iload 6, 2) := by decide +kernel
theorem dX3_init_96 : decode cX3_init 96 = .ok (.iload 5, 2) := by decide +kernel
theorem dX3_init_98 : decode cX3_init 98 = .ok (.iconst 1, 1) := by decide +kernel
theorem dX3_init_99 : decode cX3_init 99 = .ok (.iload 4, 2) := by decide +kernel
theorem dX3_init_101 : decode cX3_init 101 = .ok (.ishl, 1) := by decide +kernel
theorem dX3_init_102 : decode cX3_init 102 = .ok (.iadd, 1) := by decide +kernel
theorem dX3_init_103 : decode cX3_init 103 = .ok (.if_icmp .ge 30, 3) := by decide +kernel
theorem dX3_init_106 : decode cX3_init 106 = .ok (.iload 6, 2) := by decide +kernel
theorem dX3_init_108 : decode cX3_init 108 = .ok (.aload_n 0, 1) := by decide +kernel
theorem dX3_init_109 : decode cX3_init 109 = .ok (.getfield 22, 3) := by decide +kernel
theorem dX3_init_112 : decode cX3_init 112 = .ok (.arraylength, 1) := by decide +kernel
theorem dX3_init_113 : decode cX3_init 113 = .ok (.if_icmp .ge 20, 3) := by decide +kernel
theorem dX3_init_116 : decode cX3_init 116 = .ok (.aload_n 0, 1) := by decide +kernel
theorem dX3_init_117 : decode cX3_init 117 = .ok (.getfield 22, 3) := by decide +kernel
theorem dX3_init_120 : decode cX3_init 120 = .ok (.iload 6, 2) := by decide +kernel
theorem dX3_init_122 : decode cX3_init 122 = .ok (.iload_n 2, 1) := by decide +kernel
theorem dX3_init_123 : decode cX3_init 123 = .ok (.iconst 1, 1) := by decide +kernel
theorem dX3_init_124 : decode cX3_init 124 = .ok (.iadd, 1) := by decide +kernel
theorem dX3_init_125 : decode cX3_init 125 = .ok (.i2s, 1) := by decide +kernel
theorem dX3_init_126 : decode cX3_init 126 = .ok (.sastore, 1) := by decide +kernel
theorem dX3_init_127 : decode cX3_init 127 = .ok (.iinc 6 1, 3) := by decide +kernel
theorem dX3_init_130 : decode cX3_init 130 = .ok (.goto (-36), 3) := by decide +kernel
theorem dX3_init_133 : decode cX3_init 133 = .ok (.iinc 2 1, 3) := by decide +kernel
theorem dX3_init_136 : decode cX3_init 136 = .ok (.goto (-92), 3) := by decide +kernel
theorem dX3_init_139 : decode cX3_init 139 = .ok (.return_, 1) := by decide +kernel
set_option maxRecDepth 100000 in
set_option maxHeartbeats 4000000 in
theorem c_X3_init (S : Hp) (h : Nat) (hm : h ∈ hL S) (hk : hK S h = 3) (s0 : Nat) : Ct 1 yX3_init cX3_init 7 none 4 28396 [.ref h, .ref s0] S (fun r S' => r = none ∧ Fm (fun _ _ => False) (fun f9 b9 => b9 = h) (fun _ => False) S S') := by
  refine ct_of (by decide) (Nat.le_of_ble_eq_true rfl) fun x hn9 C M hm9 => ?_
  have C : CB x RX3 cX3_init := C
  refine J.eq (lv' := [(0, .ref h), (1, .ref s0)]) rfl rfl rfl ?_
  refine j_aload_n C dX3_init_0 rfl 0 rfl ?_
  refine j_objInit C mlX3_3 nst_oi (M.fl (by decide)) dX3_init_1 ?_
  refine j_aload_n C dX3_init_4 rfl 0 rfl ?_
  refine j_iconst (v := 0) C dX3_init_5 (by decide) ?_
  refine j_newB (N := 0) C ka_byte (by decide) (by decide) (Nat.le_of_ble_eq_true rfl) (M.cells (by decide)) (M.slots (Nat.le_of_ble_eq_true rfl)) dX3_init_6 (fun q_1 hq_2 => ?_)
  have hz_3 : q_1 ∉ hL S := hq_2
  refine j_putr (f := 301) C flX3_9 (by decide) rfl rfl dX3_init_8 (mem_old hm) (kd_nA (k := 13) (n := 0) hq_2 hm hk) rfl ?_
  refine j_aload_n C dX3_init_11 rfl 0 rfl ?_
  refine j_bipush (v := 12) C dX3_init_12 (by decide) ?_
  show J _ _ _ _ _ 14 _
  have hf_6 : Fm (fun _ _ => False) (fun f9 b9 => b9 = h) (fun _ => False) S (sR (nA S q_1 13 0) 301 h (some q_1)) := (((Fm.refl (WI := (fun _ _ => False)) (WR := (fun f9 b9 => b9 = h)) (WA := (fun _ => False))).nA _ _ hq_2).sR _ (fun _ => rfl))
  obtain ⟨S_4, eS_5⟩ : ∃ S9 : Hp, S9 = (sR (nA S q_1 13 0) 301 h (some q_1)) := ⟨_, rfl⟩
  refine J.eq (S' := S_4) eS_5.symm rfl rfl ?_
  have hm_7 : h ∈ hL S_4 := by rw [eS_5]; exact (mem_old hm)
  have hk_8 : Kd S_4 h 3 := by rw [eS_5]; exact (kd_nA (k := 13) (n := 0) hq_2 hm hk)
  have hm_9 : q_1 ∈ hL S_4 := by rw [eS_5]; exact mem_new
  have hk_10 : Kd S_4 q_1 13 := by rw [eS_5]; exact (kd_nA' (k := 13) (n := 0))
  have hn_11 : Ln S_4 q_1 0 := by rw [eS_5]; exact (ln_nA' (k := 13))
  have hz_12 : ∀ j, aI S_4 q_1 j = 0 := by rw [eS_5]; exact (fun j9 => rd_nAI' (k := 13) (n := 0))
  have hv_13 : hR S_4 301 h = (some q_1) := by rw [eS_5]; exact (rd_sR (S := (nA S q_1 13 0)) (g := 301) (a := h) (v := (some q_1)))
  have hf_14 : Fm (fun _ _ => False) (fun f9 b9 => b9 = h) (fun _ => False) S S_4 := by rw [eS_5]; exact hf_6
  refine j_newJ (N := 12) C ka_long (by decide) (by decide) (Nat.le_of_ble_eq_true rfl) (M.cells (by decide)) (M.slots (Nat.le_of_ble_eq_true rfl)) dX3_init_14 (fun q_15 hq_16 => ?_)
  have hz_17 : q_15 ∉ hL S := fun h9 => hq_16 (hf_14.mem h9)
  refine j_putrF (f := 307) C hm9 flX3_15o (by decide) rfl rfl dX3_init_16 (mem_old hm_7) (kd_nA (k := 15) (n := 12) hq_16 hm_7 hk_8) rfl ?_
  refine j_aload_n C dX3_init_19 rfl 0 rfl ?_
  refine j_sipush (v := 12000) C dX3_init_20 (by decide) ?_
  have hf_20 : Fm (fun _ _ => False) (fun f9 b9 => b9 = h) (fun _ => False) S (sR (nA S_4 q_15 15 12) 307 h (some q_15)) := ((hf_14.nA _ _ hq_16).sR _ (fun _ => rfl))
  obtain ⟨S_18, eS_19⟩ : ∃ S9 : Hp, S9 = (sR (nA S_4 q_15 15 12) 307 h (some q_15)) := ⟨_, rfl⟩
  refine J.eq (S' := S_18) eS_19.symm rfl rfl ?_
  have hm_21 : h ∈ hL S_18 := by rw [eS_19]; exact (mem_old hm_7)
  have hk_22 : Kd S_18 h 3 := by rw [eS_19]; exact (kd_nA (k := 15) (n := 12) hq_16 hm_7 hk_8)
  have hm_23 : q_1 ∈ hL S_18 := by rw [eS_19]; exact (mem_old hm_9)
  have hk_24 : Kd S_18 q_1 13 := by rw [eS_19]; exact (kd_nA (k := 15) (n := 12) hq_16 hm_9 hk_10)
  have hn_25 : Ln S_18 q_1 0 := by rw [eS_19]; exact (ln_nA (k := 15) hq_16 hm_9 hn_11)
  have hz_26 : ∀ j, aI S_18 q_1 j = 0 := by rw [eS_19]; exact (fun j9 => rd_nAI (k := 15) (n := 12) hq_16 hm_9 (hz_12 j9))
  have hm_27 : q_15 ∈ hL S_18 := by rw [eS_19]; exact mem_new
  have hk_28 : Kd S_18 q_15 15 := by rw [eS_19]; exact (kd_nA' (k := 15) (n := 12))
  have hn_29 : Ln S_18 q_15 12 := by rw [eS_19]; exact (ln_nA' (k := 15))
  have hz_30 : ∀ j, aI S_18 q_15 j = 0 := by rw [eS_19]; exact (fun j9 => rd_nAI' (k := 15) (n := 12))
  have hv_31 : hR S_18 301 h = (some q_1) := by rw [eS_19]; exact (rd_sRf (S := (nA S_4 q_15 15 12)) (g := 307) (a := h) (v := (some q_15)) (by decide) hv_13)
  have hv_32 : hR S_18 307 h = (some q_15) := by rw [eS_19]; exact (rd_sR (S := (nA S_4 q_15 15 12)) (g := 307) (a := h) (v := (some q_15)))
  have hf_33 : Fm (fun _ _ => False) (fun f9 b9 => b9 = h) (fun _ => False) S S_18 := by rw [eS_19]; exact hf_20
  refine j_newB (N := 12000) C ka_byte (by decide) (by decide) (Nat.le_of_ble_eq_true rfl) (M.cells (by decide)) (M.slots (Nat.le_of_ble_eq_true rfl)) dX3_init_23 (fun q_34 hq_35 => ?_)
  have hz_36 : q_34 ∉ hL S := fun h9 => hq_35 (hf_33.mem h9)
  refine j_putrF (f := 317) C hm9 flX3_19o (by decide) rfl rfl dX3_init_25 (mem_old hm_21) (kd_nA (k := 13) (n := 12000) hq_35 hm_21 hk_22) rfl ?_
  refine j_aload_n C dX3_init_28 rfl 0 rfl ?_
  refine j_sipush (v := 16384) C dX3_init_29 (by decide) ?_
  show J _ _ _ _ _ 32 _
  have hf_39 : Fm (fun _ _ => False) (fun f9 b9 => b9 = h) (fun _ => False) S (sR (nA S_18 q_34 13 12000) 317 h (some q_34)) := ((hf_33.nA _ _ hq_35).sR _ (fun _ => rfl))
  obtain ⟨S_37, eS_38⟩ : ∃ S9 : Hp, S9 = (sR (nA S_18 q_34 13 12000) 317 h (some q_34)) := ⟨_, rfl⟩
  refine J.eq (S' := S_37) eS_38.symm rfl rfl ?_
  have hm_40 : h ∈ hL S_37 := by rw [eS_38]; exact (mem_old hm_21)
  have hk_41 : Kd S_37 h 3 := by rw [eS_38]; exact (kd_nA (k := 13) (n := 12000) hq_35 hm_21 hk_22)
  have hm_42 : q_1 ∈ hL S_37 := by rw [eS_38]; exact (mem_old hm_23)
  have hk_43 : Kd S_37 q_1 13 := by rw [eS_38]; exact (kd_nA (k := 13) (n := 12000) hq_35 hm_23 hk_24)
  have hn_44 : Ln S_37 q_1 0 := by rw [eS_38]; exact (ln_nA (k := 13) hq_35 hm_23 hn_25)
  have hz_45 : ∀ j, aI S_37 q_1 j = 0 := by rw [eS_38]; exact (fun j9 => rd_nAI (k := 13) (n := 12000) hq_35 hm_23 (hz_26 j9))
  have hm_46 : q_15 ∈ hL S_37 := by rw [eS_38]; exact (mem_old hm_27)
  have hk_47 : Kd S_37 q_15 15 := by rw [eS_38]; exact (kd_nA (k := 13) (n := 12000) hq_35 hm_27 hk_28)
  have hn_48 : Ln S_37 q_15 12 := by rw [eS_38]; exact (ln_nA (k := 13) hq_35 hm_27 hn_29)
  have hz_49 : ∀ j, aI S_37 q_15 j = 0 := by rw [eS_38]; exact (fun j9 => rd_nAI (k := 13) (n := 12000) hq_35 hm_27 (hz_30 j9))
  have hm_50 : q_34 ∈ hL S_37 := by rw [eS_38]; exact mem_new
  have hk_51 : Kd S_37 q_34 13 := by rw [eS_38]; exact (kd_nA' (k := 13) (n := 12000))
  have hn_52 : Ln S_37 q_34 12000 := by rw [eS_38]; exact (ln_nA' (k := 13))
  have hz_53 : ∀ j, aI S_37 q_34 j = 0 := by rw [eS_38]; exact (fun j9 => rd_nAI' (k := 13) (n := 12000))
  have hv_54 : hR S_37 301 h = (some q_1) := by rw [eS_38]; exact (rd_sRf (S := (nA S_18 q_34 13 12000)) (g := 317) (a := h) (v := (some q_34)) (by decide) hv_31)
  have hv_55 : hR S_37 307 h = (some q_15) := by rw [eS_38]; exact (rd_sRf (S := (nA S_18 q_34 13 12000)) (g := 317) (a := h) (v := (some q_34)) (by decide) hv_32)
  have hv_56 : hR S_37 317 h = (some q_34) := by rw [eS_38]; exact (rd_sR (S := (nA S_18 q_34 13 12000)) (g := 317) (a := h) (v := (some q_34)))
  have hf_57 : Fm (fun _ _ => False) (fun f9 b9 => b9 = h) (fun _ => False) S S_37 := by rw [eS_38]; exact hf_39
  refine j_newS (N := 16384) C ka_short (by decide) (by decide) (Nat.le_of_ble_eq_true rfl) (M.cells (by decide)) (M.slots (Nat.le_of_ble_eq_true rfl)) dX3_init_32 (fun q_58 hq_59 => ?_)
  have hz_60 : q_58 ∉ hL S := fun h9 => hq_59 (hf_57.mem h9)
  refine j_putrF (f := 320) C hm9 flX3_22o (by decide) rfl rfl dX3_init_34 (mem_old hm_40) (kd_nA (k := 16) (n := 16384) hq_59 hm_40 hk_41) rfl ?_
  refine j_aload_n C dX3_init_37 rfl 0 rfl ?_
  refine j_aload_n C dX3_init_38 rfl 1 rfl ?_
  refine j_putrF (f := 300) C hm9 flX3_26o (by decide) rfl rfl dX3_init_39 (mem_old hm_40) (kd_nA (k := 16) (n := 16384) hq_59 hm_40 hk_41) rfl ?_
  refine j_iconst (v := 0) C dX3_init_42 (by decide) ?_
  refine j_istore_n (lv' := [(2, .int 0), (0, .ref h), (1, .ref s0)]) C dX3_init_43 rfl (by rw [hn9]; decide) rfl ?_
  have hf_63 : Fm (fun _ _ => False) (fun f9 b9 => b9 = h) (fun _ => False) S (sR (sR (nA S_37 q_58 16 16384) 320 h (some q_58)) 300 h (some s0)) := (((hf_57.nA _ _ hq_59).sR _ (fun _ => rfl)).sR _ (fun _ => rfl))
  obtain ⟨S_61, eS_62⟩ : ∃ S9 : Hp, S9 = (sR (sR (nA S_37 q_58 16 16384) 320 h (some q_58)) 300 h (some s0)) := ⟨_, rfl⟩
  refine J.eq (S' := S_61) eS_62.symm rfl rfl ?_
  have hm_64 : h ∈ hL S_61 := by rw [eS_62]; exact (mem_old hm_40)
  have hk_65 : Kd S_61 h 3 := by rw [eS_62]; exact (kd_nA (k := 16) (n := 16384) hq_59 hm_40 hk_41)
  have hm_66 : q_1 ∈ hL S_61 := by rw [eS_62]; exact (mem_old hm_42)
  have hk_67 : Kd S_61 q_1 13 := by rw [eS_62]; exact (kd_nA (k := 16) (n := 16384) hq_59 hm_42 hk_43)
  have hn_68 : Ln S_61 q_1 0 := by rw [eS_62]; exact (ln_nA (k := 16) hq_59 hm_42 hn_44)
  have hz_69 : ∀ j, aI S_61 q_1 j = 0 := by rw [eS_62]; exact (fun j9 => rd_nAI (k := 16) (n := 16384) hq_59 hm_42 (hz_45 j9))
  have hm_70 : q_15 ∈ hL S_61 := by rw [eS_62]; exact (mem_old hm_46)
  have hk_71 : Kd S_61 q_15 15 := by rw [eS_62]; exact (kd_nA (k := 16) (n := 16384) hq_59 hm_46 hk_47)
  have hn_72 : Ln S_61 q_15 12 := by rw [eS_62]; exact (ln_nA (k := 16) hq_59 hm_46 hn_48)
  have hz_73 : ∀ j, aI S_61 q_15 j = 0 := by rw [eS_62]; exact (fun j9 => rd_nAI (k := 16) (n := 16384) hq_59 hm_46 (hz_49 j9))
  have hm_74 : q_34 ∈ hL S_61 := by rw [eS_62]; exact (mem_old hm_50)
  have hk_75 : Kd S_61 q_34 13 := by rw [eS_62]; exact (kd_nA (k := 16) (n := 16384) hq_59 hm_50 hk_51)
  have hn_76 : Ln S_61 q_34 12000 := by rw [eS_62]; exact (ln_nA (k := 16) hq_59 hm_50 hn_52)
  have hz_77 : ∀ j, aI S_61 q_34 j = 0 := by rw [eS_62]; exact (fun j9 => rd_nAI (k := 16) (n := 16384) hq_59 hm_50 (hz_53 j9))
  have hm_78 : q_58 ∈ hL S_61 := by rw [eS_62]; exact mem_new
  have hk_79 : Kd S_61 q_58 16 := by rw [eS_62]; exact (kd_nA' (k := 16) (n := 16384))
  have hn_80 : Ln S_61 q_58 16384 := by rw [eS_62]; exact (ln_nA' (k := 16))
  have hz_81 : ∀ j, aI S_61 q_58 j = 0 := by rw [eS_62]; exact (fun j9 => rd_nAI' (k := 16) (n := 16384))
  have hv_82 : hR S_61 300 h = (some s0) := by rw [eS_62]; exact (rd_sR (S := (sR (nA S_37 q_58 16 16384) 320 h (some q_58))) (g := 300) (a := h) (v := (some s0)))
  have hv_83 : hR S_61 301 h = (some q_1) := by rw [eS_62]; exact (rd_sRf (S := (sR (nA S_37 q_58 16 16384) 320 h (some q_58))) (g := 300) (a := h) (v := (some s0)) (by decide) (rd_sRf (S := (nA S_37 q_58 16 16384)) (g := 320) (a := h) (v := (some q_58)) (by decide) hv_54))
  have hv_84 : hR S_61 307 h = (some q_15) := by rw [eS_62]; exact (rd_sRf (S := (sR (nA S_37 q_58 16 16384) 320 h (some q_58))) (g := 300) (a := h) (v := (some s0)) (by decide) (rd_sRf (S := (nA S_37 q_58 16 16384)) (g := 320) (a := h) (v := (some q_58)) (by decide) hv_55))
  have hv_85 : hR S_61 317 h = (some q_34) := by rw [eS_62]; exact (rd_sRf (S := (sR (nA S_37 q_58 16 16384) 320 h (some q_58))) (g := 300) (a := h) (v := (some s0)) (by decide) (rd_sRf (S := (nA S_37 q_58 16 16384)) (g := 320) (a := h) (v := (some q_58)) (by decide) hv_56))
  have hv_86 : hR S_61 320 h = (some q_58) := by rw [eS_62]; exact (rd_sRf (S := (sR (nA S_37 q_58 16 16384) 320 h (some q_58))) (g := 300) (a := h) (v := (some s0)) (by decide) (rd_sR (S := (nA S_37 q_58 16 16384)) (g := 320) (a := h) (v := (some q_58))))
  have hf_87 : Fm (fun _ _ => False) (fun f9 b9 => b9 = h) (fun _ => False) S S_61 := by rw [eS_62]; exact hf_63
  have loop_92 : ∀ (m9 i : Nat) (S_89 : Hp), i + m9 = 148 → Fm (fun _ _ => False) (fun _ _ => False) (fun b9 => b9 = q_58) S_61 S_89 → J x (0 + 1 + 1 + 1 + 1) (0 + 0 + 12 + 12000 + 16384) S_89 [(2, .int (nI i)), (0, .ref h), (1, .ref s0)] 44 [] := by
    intro m9
    induction m9 with
    | zero =>
      intro i S_89 hi_93 hl_90 
      have hz_94 : ∀ j, aI S_89 q_1 j = 0 := fun j9 => (hl_90.ai hm_66 (fun q9 => (fun e9 => absurd ((hk_67).symm.trans ((congrArg (hK _) e9).trans hk_79)) (by decide)) q9) j9).trans (hz_69 j9)
      have hz_95 : ∀ j, aI S_89 q_15 j = 0 := fun j9 => (hl_90.ai hm_70 (fun q9 => (fun e9 => absurd ((hk_71).symm.trans ((congrArg (hK _) e9).trans hk_79)) (by decide)) q9) j9).trans (hz_73 j9)
      have hz_96 : ∀ j, aI S_89 q_34 j = 0 := fun j9 => (hl_90.ai hm_74 (fun q9 => (fun e9 => absurd ((hk_75).symm.trans ((congrArg (hK _) e9).trans hk_79)) (by decide)) q9) j9).trans (hz_77 j9)
      have hm_97 : h ∈ hL S_89 := hl_90.mem hm_64
      have hk_98 : Kd S_89 h 3 := hl_90.kd hm_64 hk_65
      have hm_99 : q_1 ∈ hL S_89 := hl_90.mem hm_66
      have hk_100 : Kd S_89 q_1 13 := hl_90.kd hm_66 hk_67
      have hn_101 : Ln S_89 q_1 0 := hl_90.ln hm_66 hn_68
      have hm_102 : q_15 ∈ hL S_89 := hl_90.mem hm_70
      have hk_103 : Kd S_89 q_15 15 := hl_90.kd hm_70 hk_71
      have hn_104 : Ln S_89 q_15 12 := hl_90.ln hm_70 hn_72
      have hm_105 : q_34 ∈ hL S_89 := hl_90.mem hm_74
      have hk_106 : Kd S_89 q_34 13 := hl_90.kd hm_74 hk_75
      have hn_107 : Ln S_89 q_34 12000 := hl_90.ln hm_74 hn_76
      have hm_108 : q_58 ∈ hL S_89 := hl_90.mem hm_78
      have hk_109 : Kd S_89 q_58 16 := hl_90.kd hm_78 hk_79
      have hn_110 : Ln S_89 q_58 16384 := hl_90.ln hm_78 hn_80
      have hv_111 : hR S_89 300 h = (some s0) := hl_90.fr hm_64 (fun h9 => h9) hv_82
      have hv_112 : hR S_89 301 h = (some q_1) := hl_90.fr hm_64 (fun h9 => h9) hv_83
      have hv_113 : hR S_89 307 h = (some q_15) := hl_90.fr hm_64 (fun h9 => h9) hv_84
      have hv_114 : hR S_89 317 h = (some q_34) := hl_90.fr hm_64 (fun h9 => h9) hv_85
      have hv_115 : hR S_89 320 h = (some q_58) := hl_90.fr hm_64 (fun h9 => h9) hv_86
      have hf_116 : Fm (fun _ _ => False) (fun f9 b9 => b9 = h) (fun _ => False) S S_89 := hf_87.then hl_90 (fun a9 ha9 => ⟨(fun f9 h9 => h9.elim), (fun f9 h9 => h9.elim), (fun h9 => (fun h8 => absurd (h8 ▸ ha9) hz_60) h9)⟩)
      refine j_iload_n C dX3_init_44 rfl 0 rfl ?_
      refine j_gets C 3 rfl (Or.inr ⟨_, gsX3_30⟩) dX3_init_45 ?_
      show J _ _ _ _ _ 48 _
      refine j_stlen (v := 148) C 3 rfl dX3_init_48 (by decide) ?_
      refine j_ic_ge (tgt := 139) C dX3_init_49 (by decide) (fun c_49 => ?_) (fun c_49 => absurd (nI_le (a := 148) (by omega) (by omega)) c_49)
      exact j_vret C M dX3_init_139 (Nat.le_of_ble_eq_true rfl) (Nat.le_of_ble_eq_true rfl) ⟨rfl, hf_116⟩
    | succ m9 ih_91 =>
      intro i S_89 hi_93 hl_90 
      have hz_117 : ∀ j, aI S_89 q_1 j = 0 := fun j9 => (hl_90.ai hm_66 (fun q9 => (fun e9 => absurd ((hk_67).symm.trans ((congrArg (hK _) e9).trans hk_79)) (by decide)) q9) j9).trans (hz_69 j9)
      have hz_118 : ∀ j, aI S_89 q_15 j = 0 := fun j9 => (hl_90.ai hm_70 (fun q9 => (fun e9 => absurd ((hk_71).symm.trans ((congrArg (hK _) e9).trans hk_79)) (by decide)) q9) j9).trans (hz_73 j9)
      have hz_119 : ∀ j, aI S_89 q_34 j = 0 := fun j9 => (hl_90.ai hm_74 (fun q9 => (fun e9 => absurd ((hk_75).symm.trans ((congrArg (hK _) e9).trans hk_79)) (by decide)) q9) j9).trans (hz_77 j9)
      have hm_120 : h ∈ hL S_89 := hl_90.mem hm_64
      have hk_121 : Kd S_89 h 3 := hl_90.kd hm_64 hk_65
      have hm_122 : q_1 ∈ hL S_89 := hl_90.mem hm_66
      have hk_123 : Kd S_89 q_1 13 := hl_90.kd hm_66 hk_67
      have hn_124 : Ln S_89 q_1 0 := hl_90.ln hm_66 hn_68
      have hm_125 : q_15 ∈ hL S_89 := hl_90.mem hm_70
      have hk_126 : Kd S_89 q_15 15 := hl_90.kd hm_70 hk_71
      have hn_127 : Ln S_89 q_15 12 := hl_90.ln hm_70 hn_72
      have hm_128 : q_34 ∈ hL S_89 := hl_90.mem hm_74
      have hk_129 : Kd S_89 q_34 13 := hl_90.kd hm_74 hk_75
      have hn_130 : Ln S_89 q_34 12000 := hl_90.ln hm_74 hn_76
      have hm_131 : q_58 ∈ hL S_89 := hl_90.mem hm_78
      have hk_132 : Kd S_89 q_58 16 := hl_90.kd hm_78 hk_79
      have hn_133 : Ln S_89 q_58 16384 := hl_90.ln hm_78 hn_80
      have hv_134 : hR S_89 300 h = (some s0) := hl_90.fr hm_64 (fun h9 => h9) hv_82
      have hv_135 : hR S_89 301 h = (some q_1) := hl_90.fr hm_64 (fun h9 => h9) hv_83
      have hv_136 : hR S_89 307 h = (some q_15) := hl_90.fr hm_64 (fun h9 => h9) hv_84
      have hv_137 : hR S_89 317 h = (some q_34) := hl_90.fr hm_64 (fun h9 => h9) hv_85
      have hv_138 : hR S_89 320 h = (some q_58) := hl_90.fr hm_64 (fun h9 => h9) hv_86
      have hf_139 : Fm (fun _ _ => False) (fun f9 b9 => b9 = h) (fun _ => False) S S_89 := hf_87.then hl_90 (fun a9 ha9 => ⟨(fun f9 h9 => h9.elim), (fun f9 h9 => h9.elim), (fun h9 => (fun h8 => absurd (h8 ▸ ha9) hz_60) h9)⟩)
      have hrt := rt_all i (by omega)
      have hle9 := hrt.2.2.2
      refine j_iload_n C dX3_init_44 rfl 0 rfl ?_
      refine j_gets C 3 rfl (Or.inr ⟨_, gsX3_30⟩) dX3_init_45 ?_
      refine j_stlen (v := 148) C 3 rfl dX3_init_48 (by decide) ?_
      refine j_ic_ge (tgt := 139) C dX3_init_49 (by decide) (fun c_49 => absurd c_49 (nI_ge (b := 148) (by omega) (by omega))) (fun c_49 => ?_)
      refine j_iload_n C dX3_init_52 rfl 0 rfl ?_
      refine j_gets C 2 rfl (Or.inr ⟨_, gsX3_34⟩) dX3_init_53 ?_
      refine j_stlen (v := 148) C 2 rfl dX3_init_56 (by decide) ?_
      show J _ _ _ _ _ 57 _
      refine j_ic_ge (tgt := 139) C dX3_init_57 (by decide) (fun c_57 => absurd c_57 (nI_ge (b := 148) (by omega) (by omega))) (fun c_57 => ?_)
      refine j_iload_n C dX3_init_60 rfl 0 rfl ?_
      refine j_bipush (v := 74) C dX3_init_61 (by decide) ?_
      refine j_idiv (v := nI (i / 74)) C dX3_init_63 (by decide) (pk_div (d := 74) (by omega) (by omega) (by omega)) ?_
      refine j_istore_n (lv' := [(3, .int (nI (i / 74))), (2, .int (nI i)), (0, .ref h), (1, .ref s0)]) C dX3_init_64 rfl (by rw [hn9]; decide) rfl ?_
      refine j_bipush (v := 13) C dX3_init_65 (by decide) ?_
      refine j_gets C 2 rfl (Or.inr ⟨_, gsX3_34⟩) dX3_init_67 ?_
      refine j_iload_n C dX3_init_70 rfl 1 rfl ?_
      show J _ _ _ _ _ 71 _
      refine j_stld (v := st_RUN_BITS.getD i 0) C 2 rfl dX3_init_71 (show vp_in (nI i) 148 from vp_in_nI (by omega) (by omega)) (congrArg (fun z9 => st_RUN_BITS.getD z9 0) (nI_clamp (by omega))) ?_
      refine j_isub (v := nI (rt_o i)) C dX3_init_72 hrt.1 ?_
      refine j_istore (lv' := [(4, .int (nI (rt_o i))), (3, .int (nI (i / 74))), (2, .int (nI i)), (0, .ref h), (1, .ref s0)]) C dX3_init_73 (by rw [hn9]; decide) rfl ?_
      refine j_iload_n C dX3_init_75 rfl 1 rfl ?_
      refine j_bipush (v := 13) C dX3_init_76 (by decide) ?_
      refine j_ishl C dX3_init_78 rfl ?_
      refine j_gets C 3 rfl (Or.inr ⟨_, gsX3_30⟩) dX3_init_79 ?_
      refine j_iload_n C dX3_init_82 rfl 2 rfl ?_
      show J _ _ _ _ _ 83 _
      refine j_stld (v := st_RUN_CODES.getD i 0) C 3 rfl dX3_init_83 (show vp_in (nI i) 148 from vp_in_nI (by omega) (by omega)) (congrArg (fun z9 => st_RUN_CODES.getD z9 0) (nI_clamp (by omega))) ?_
      refine j_iload C dX3_init_84 0 rfl ?_
      refine j_ishl C dX3_init_86 rfl ?_
      refine j_iadd (v := nI (rt_f i)) C dX3_init_87 hrt.2.2.1 ?_
      refine j_istore (lv' := [(5, .int (nI (rt_f i))), (4, .int (nI (rt_o i))), (3, .int (nI (i / 74))), (2, .int (nI i)), (0, .ref h), (1, .ref s0)]) C dX3_init_88 (by rw [hn9]; decide) rfl ?_
      refine j_iload C dX3_init_90 0 rfl ?_
      refine j_istore (lv' := [(6, .int (nI (rt_f i))), (5, .int (nI (rt_f i))), (4, .int (nI (rt_o i))), (3, .int (nI (i / 74))), (2, .int (nI i)), (0, .ref h), (1, .ref s0)]) C dX3_init_92 (by rw [hn9]; decide) rfl ?_
      have loop_144 : ∀ (m9 j : Nat) (S_141 : Hp), j + m9 = (rt_s i) → Fm (fun _ _ => False) (fun _ _ => False) (fun b9 => b9 = q_58) S_89 S_141 → J x (0 + 1 + 1 + 1 + 1) (0 + 0 + 12 + 12000 + 16384) S_141 [(6, .int (nI (rt_f i + j))), (5, .int (nI (rt_f i))), (4, .int (nI (rt_o i))), (3, .int (nI (i / 74))), (2, .int (nI i)), (0, .ref h), (1, .ref s0)] 94 [] := by
        intro m9
        induction m9 with
        | zero =>
          intro j S_141 hi_145 hl_142 
          have hz_146 : ∀ j, aI S_141 q_1 j = 0 := fun j9 => (hl_142.ai hm_122 (fun q9 => (fun e9 => absurd ((hk_123).symm.trans ((congrArg (hK _) e9).trans hk_132)) (by decide)) q9) j9).trans (hz_117 j9)
          have hz_147 : ∀ j, aI S_141 q_15 j = 0 := fun j9 => (hl_142.ai hm_125 (fun q9 => (fun e9 => absurd ((hk_126).symm.trans ((congrArg (hK _) e9).trans hk_132)) (by decide)) q9) j9).trans (hz_118 j9)
          have hz_148 : ∀ j, aI S_141 q_34 j = 0 := fun j9 => (hl_142.ai hm_128 (fun q9 => (fun e9 => absurd ((hk_129).symm.trans ((congrArg (hK _) e9).trans hk_132)) (by decide)) q9) j9).trans (hz_119 j9)
          have hm_149 : h ∈ hL S_141 := hl_142.mem hm_120
          have hk_150 : Kd S_141 h 3 := hl_142.kd hm_120 hk_121
          have hm_151 : q_1 ∈ hL S_141 := hl_142.mem hm_122
          have hk_152 : Kd S_141 q_1 13 := hl_142.kd hm_122 hk_123
          have hn_153 : Ln S_141 q_1 0 := hl_142.ln hm_122 hn_124
          have hm_154 : q_15 ∈ hL S_141 := hl_142.mem hm_125
          have hk_155 : Kd S_141 q_15 15 := hl_142.kd hm_125 hk_126
          have hn_156 : Ln S_141 q_15 12 := hl_142.ln hm_125 hn_127
          have hm_157 : q_34 ∈ hL S_141 := hl_142.mem hm_128
          have hk_158 : Kd S_141 q_34 13 := hl_142.kd hm_128 hk_129
          have hn_159 : Ln S_141 q_34 12000 := hl_142.ln hm_128 hn_130
          have hm_160 : q_58 ∈ hL S_141 := hl_142.mem hm_131
          have hk_161 : Kd S_141 q_58 16 := hl_142.kd hm_131 hk_132
          have hn_162 : Ln S_141 q_58 16384 := hl_142.ln hm_131 hn_133
          have hv_163 : hR S_141 300 h = (some s0) := hl_142.fr hm_120 (fun h9 => h9) hv_134
          have hv_164 : hR S_141 301 h = (some q_1) := hl_142.fr hm_120 (fun h9 => h9) hv_135
          have hv_165 : hR S_141 307 h = (some q_15) := hl_142.fr hm_120 (fun h9 => h9) hv_136
          have hv_166 : hR S_141 317 h = (some q_34) := hl_142.fr hm_120 (fun h9 => h9) hv_137
          have hv_167 : hR S_141 320 h = (some q_58) := hl_142.fr hm_120 (fun h9 => h9) hv_138
          have hf_168 : Fm (fun _ _ => False) (fun f9 b9 => b9 = h) (fun _ => False) S S_141 := hf_139.then hl_142 (fun a9 ha9 => ⟨(fun f9 h9 => h9.elim), (fun f9 h9 => h9.elim), (fun h9 => (fun h8 => absurd (h8 ▸ ha9) hz_60) h9)⟩)
          have hf_169 : Fm (fun _ _ => False) (fun _ _ => False) (fun b9 => b9 = q_58) S_61 S_141 := hl_90.then hl_142 (fun a9 ha9 => ⟨(fun f9 h9 => h9.elim), (fun f9 h9 => h9.elim), (fun h9 => (fun h8 => h8) h9)⟩)
          refine j_iload C dX3_init_94 0 rfl ?_
          refine j_iload C dX3_init_96 1 rfl ?_
          show J _ _ _ _ _ 98 _
          refine j_iconst (v := 1) C dX3_init_98 (by decide) ?_
          refine j_iload C dX3_init_99 2 rfl ?_
          refine j_ishl (v := nI (rt_s i)) C dX3_init_101 hrt.2.1 ?_
          refine j_iadd (v := nI (rt_f i + rt_s i)) C dX3_init_102 (nI_add _ _) ?_
          refine j_ic_ge (tgt := 133) C dX3_init_103 (by decide) (fun c_103 => ?_) (fun c_103 => absurd (nI_le (by omega) (by omega)) c_103)
          refine j_iinc (q := 4) (v := nI (i + 1)) (lv' := [(2, .int (nI (i + 1))), (6, .int (nI (rt_f i + j))), (5, .int (nI (rt_f i))), (4, .int (nI (rt_o i))), (3, .int (nI (i / 74))), (0, .ref h), (1, .ref s0)]) C dX3_init_133 rfl (by rw [show Int32.ofInt 1 = 1 by decide]; exact nI_add i 1) (by rw [hn9]; decide) rfl ?_
          refine j_goto (tgt := 44) C dX3_init_136 (by decide) ?_
          refine J.sub [0, 5, 6] (lv' := [(2, .int (nI (i + 1))), (0, .ref h), (1, .ref s0)]) (by rfl) ?_
          exact ih_91 (i + 1) _ (by omega) hf_169 
        | succ m9 ih_143 =>
          intro j S_141 hi_145 hl_142 
          have hz_170 : ∀ j, aI S_141 q_1 j = 0 := fun j9 => (hl_142.ai hm_122 (fun q9 => (fun e9 => absurd ((hk_123).symm.trans ((congrArg (hK _) e9).trans hk_132)) (by decide)) q9) j9).trans (hz_117 j9)
          have hz_171 : ∀ j, aI S_141 q_15 j = 0 := fun j9 => (hl_142.ai hm_125 (fun q9 => (fun e9 => absurd ((hk_126).symm.trans ((congrArg (hK _) e9).trans hk_132)) (by decide)) q9) j9).trans (hz_118 j9)
          have hz_172 : ∀ j, aI S_141 q_34 j = 0 := fun j9 => (hl_142.ai hm_128 (fun q9 => (fun e9 => absurd ((hk_129).symm.trans ((congrArg (hK _) e9).trans hk_132)) (by decide)) q9) j9).trans (hz_119 j9)
          have hm_173 : h ∈ hL S_141 := hl_142.mem hm_120
          have hk_174 : Kd S_141 h 3 := hl_142.kd hm_120 hk_121
          have hm_175 : q_1 ∈ hL S_141 := hl_142.mem hm_122
          have hk_176 : Kd S_141 q_1 13 := hl_142.kd hm_122 hk_123
          have hn_177 : Ln S_141 q_1 0 := hl_142.ln hm_122 hn_124
          have hm_178 : q_15 ∈ hL S_141 := hl_142.mem hm_125
          have hk_179 : Kd S_141 q_15 15 := hl_142.kd hm_125 hk_126
          have hn_180 : Ln S_141 q_15 12 := hl_142.ln hm_125 hn_127
          have hm_181 : q_34 ∈ hL S_141 := hl_142.mem hm_128
          have hk_182 : Kd S_141 q_34 13 := hl_142.kd hm_128 hk_129
          have hn_183 : Ln S_141 q_34 12000 := hl_142.ln hm_128 hn_130
          have hm_184 : q_58 ∈ hL S_141 := hl_142.mem hm_131
          have hk_185 : Kd S_141 q_58 16 := hl_142.kd hm_131 hk_132
          have hn_186 : Ln S_141 q_58 16384 := hl_142.ln hm_131 hn_133
          have hv_187 : hR S_141 300 h = (some s0) := hl_142.fr hm_120 (fun h9 => h9) hv_134
          have hv_188 : hR S_141 301 h = (some q_1) := hl_142.fr hm_120 (fun h9 => h9) hv_135
          have hv_189 : hR S_141 307 h = (some q_15) := hl_142.fr hm_120 (fun h9 => h9) hv_136
          have hv_190 : hR S_141 317 h = (some q_34) := hl_142.fr hm_120 (fun h9 => h9) hv_137
          have hv_191 : hR S_141 320 h = (some q_58) := hl_142.fr hm_120 (fun h9 => h9) hv_138
          have hf_192 : Fm (fun _ _ => False) (fun f9 b9 => b9 = h) (fun _ => False) S S_141 := hf_139.then hl_142 (fun a9 ha9 => ⟨(fun f9 h9 => h9.elim), (fun f9 h9 => h9.elim), (fun h9 => (fun h8 => absurd (h8 ▸ ha9) hz_60) h9)⟩)
          have hf_193 : Fm (fun _ _ => False) (fun _ _ => False) (fun b9 => b9 = q_58) S_61 S_141 := hl_90.then hl_142 (fun a9 ha9 => ⟨(fun f9 h9 => h9.elim), (fun f9 h9 => h9.elim), (fun h9 => (fun h8 => h8) h9)⟩)
          refine j_iload C dX3_init_94 0 rfl ?_
          refine j_iload C dX3_init_96 1 rfl ?_
          show J _ _ _ _ _ 98 _
          refine j_iconst (v := 1) C dX3_init_98 (by decide) ?_
          refine j_iload C dX3_init_99 2 rfl ?_
          refine j_ishl (v := nI (rt_s i)) C dX3_init_101 hrt.2.1 ?_
          refine j_iadd (v := nI (rt_f i + rt_s i)) C dX3_init_102 (nI_add _ _) ?_
          refine j_ic_ge (tgt := 133) C dX3_init_103 (by decide) (fun c_103 => absurd c_103 (nI_ge (by omega) (by omega))) (fun c_103 => ?_)
          refine j_iload C dX3_init_106 0 rfl ?_
          refine j_aload_n C dX3_init_108 rfl 5 rfl ?_
          refine j_getr (f := 320) (v := q_58) C flX3_22 dX3_init_109 hm_173 hk_174 (by decide) rfl hv_191 ?_
          show J _ _ _ _ _ 112 _
          refine j_alen (v := 16384) C dX3_init_112 hm_184 hk_185 (by decide) (by decide) (len_of (n := 16384) hn_186 (by decide)) ?_
          refine j_ic_ge (tgt := 133) C dX3_init_113 (by decide) (fun c_113 => absurd c_113 (nI_ge (b := 16384) (by omega) (by omega))) (fun c_113 => ?_)
          refine j_aload_n C dX3_init_116 rfl 5 rfl ?_
          refine j_getr (f := 320) (v := q_58) C flX3_22 dX3_init_117 hm_173 hk_174 (by decide) rfl hv_191 ?_
          refine j_iload C dX3_init_120 0 rfl ?_
          refine j_iload_n C dX3_init_122 rfl 4 rfl ?_
          refine j_iconst (v := 1) C dX3_init_123 (by decide) ?_
          refine j_iadd C dX3_init_124 rfl ?_
          show J _ _ _ _ _ 125 _
          refine j_i2s C dX3_init_125 rfl ?_
          refine j_sast (j := (rt_f i + j)) C dX3_init_126 hm_184 hk_185 (inr_of (n := 16384) hn_186 (vp_in_nI (by omega) (by omega))) (nI_clamp (by omega)) ?_
          refine j_iinc (q := 0) (v := nI (rt_f i + (j + 1))) (lv' := [(6, .int (nI (rt_f i + (j + 1)))), (5, .int (nI (rt_f i))), (4, .int (nI (rt_o i))), (3, .int (nI (i / 74))), (2, .int (nI i)), (0, .ref h), (1, .ref s0)]) C dX3_init_127 rfl (by rw [show Int32.ofInt 1 = 1 by decide]; exact nI_add (rt_f i + j) 1) (by rw [hn9]; decide) rfl ?_
          refine j_goto (tgt := 94) C dX3_init_130 (by decide) ?_
          refine J.sub [0, 1, 2, 3, 4, 5, 6] (lv' := [(6, .int (nI (rt_f i + (j + 1)))), (5, .int (nI (rt_f i))), (4, .int (nI (rt_o i))), (3, .int (nI (i / 74))), (2, .int (nI i)), (0, .ref h), (1, .ref s0)]) (by rfl) ?_
          exact ih_143 (j + 1) _ (by omega) (hl_142.tI _ _ (fun _ => rfl)) 
      refine J.sub [0, 1, 2, 3, 4, 5, 6] (lv' := [(6, .int (nI (rt_f i + 0))), (5, .int (nI (rt_f i))), (4, .int (nI (rt_o i))), (3, .int (nI (i / 74))), (2, .int (nI i)), (0, .ref h), (1, .ref s0)]) (by rfl) ?_
      exact loop_144 (rt_s i) 0 _ (by omega) Fm.refl 
  refine J.sub [0, 1, 2] (lv' := [(2, .int (nI 0)), (0, .ref h), (1, .ref s0)]) (by rw [nI_0]; rfl) ?_
  exact loop_92 148 0 _ (by omega) Fm.refl 
end
section
theorem dX9_init_0 : decode cX9_init 0 = .ok (.aload_n 0, 1) := by decide +kernel
theorem dX9_init_1 : decode cX9_init 1 = .ok (.invokespecial 3, 3) := by decide +kernel
theorem dX9_init_4 : decode cX9_init 4 = .ok (.aload_n 0, 1) := by decide +kernel
theorem dX9_init_5 : decode cX9_init 5 = .ok (.new 9, 3) := by decide +kernel
theorem dX9_init_8 : decode cX9_init 8 = .ok (.dup, 1) := by decide +kernel
theorem dX9_init_9 : decode cX9_init 9 = .ok (.invokespecial 11, 3) := by decide +kernel
theorem dX9_init_12 : decode cX9_init 12 = .ok (.putfield 12, 3) := by decide +kernel
theorem dX9_init_15 : decode cX9_init 15 = .ok (.aload_n 0, 1) := by decide +kernel
theorem dX9_init_16 : decode cX9_init 16 = .ok (.new 18, 3) := by decide +kernel
theorem dX9_init_19 : decode cX9_init 19 = .ok (.dup, 1) := by decide +kernel
theorem dX9_init_20 : decode cX9_init 20 = .ok (.invokespecial 20, 3) := by decide +kernel
theorem dX9_init_23 : decode cX9_init 23 = .ok (.putfield 21, 3) := by decide +kernel
theorem dX9_init_26 : decode cX9_init 26 = .ok (.aload_n 0, 1) := by decide +kernel
theorem dX9_init_27 : decode cX9_init 27 = .ok (.new 25, 3) := by decide +kernel
theorem dX9_init_30 : decode cX9_init 30 = .ok (.dup, 1) := by decide +kernel
theorem dX9_init_31 : decode cX9_init 31 = .ok (.invokespecial 27, 3) := by decide +kernel
theorem dX9_init_34 : decode cX9_init 34 = .ok (.putfield 28, 3) := by decide +kernel
theorem dX9_init_37 : decode cX9_init 37 = .ok (.aload_n 0, 1) := by decide +kernel
theorem dX9_init_38 : decode cX9_init 38 = .ok (.bipush 16, 2) := by decide +kernel
theorem dX9_init_40 : decode cX9_init 40 = .ok (.anewarray 32, 3) := by decide +kernel
theorem dX9_init_43 : decode cX9_init 43 = .ok (.putfield 34, 3) := by decide +kernel
theorem dX9_init_46 : decode cX9_init 46 = .ok (.aload_n 0, 1) := by decide +kernel
theorem dX9_init_47 : decode cX9_init 47 = .ok (.new 32, 3) := by decide +kernel
theorem dX9_init_50 : decode cX9_init 50 = .ok (.dup, 1) := by decide +kernel
theorem dX9_init_51 : decode cX9_init 51 = .ok (.invokespecial 38, 3) := by decide +kernel
theorem dX9_init_54 : decode cX9_init 54 = .ok (.putfield 39, 3) := by decide +kernel
theorem dX9_init_57 : decode cX9_init 57 = .ok (.aload_n 0, 1) := by decide +kernel
theorem dX9_init_58 : decode cX9_init 58 = .ok (.new 25, 3) := by decide +kernel
theorem dX9_init_61 : decode cX9_init 61 = .ok (.dup, 1) := by decide +kernel
theorem dX9_init_62 : decode cX9_init 62 = .ok (.invokespecial 27, 3) := by decide +kernel
theorem dX9_init_65 : decode cX9_init 65 = .ok (.putfield 43, 3) := by decide +kernel
theorem dX9_init_68 : decode cX9_init 68 = .ok (.aload_n 0, 1) := by decide +kernel
theorem dX9_init_69 : decode cX9_init 69 = .ok (.sipush 24000, 3) := by decide +kernel
theorem dX9_init_72 : decode cX9_init 72 = .ok (.newarray .byte, 2) := by decide +kernel
theorem dX9_init_74 : decode cX9_init 74 = .ok (.putfield 46, 3) := by decide +kernel
theorem dX9_init_77 : decode cX9_init 77 = .ok (.aload_n 0, 1) := by decide +kernel
theorem dX9_init_78 : decode cX9_init 78 = .ok (.bipush 16, 2) := by decide +kernel
theorem dX9_init_80 : decode cX9_init 80 = .ok (.newarray .int, 2) := by decide +kernel
theorem dX9_init_82 : decode cX9_init 82 = .ok (.putfield 50, 3) := by decide +kernel
theorem dX9_init_85 : decode cX9_init 85 = .ok (.aload_n 0, 1) := by decide +kernel
theorem dX9_init_86 : decode cX9_init 86 = .ok (.new 54, 3) := by decide +kernel
theorem dX9_init_89 : decode cX9_init 89 = .ok (.dup, 1) := by decide +kernel
theorem dX9_init_90 : decode cX9_init 90 = .ok (.invokespecial 56, 3) := by decide +kernel
theorem dX9_init_93 : decode cX9_init 93 = .ok (.putfield 57, 3) := by decide +kernel
theorem dX9_init_96 : decode cX9_init 96 = .ok (.aload_n 0, 1) := by decide +kernel
theorem dX9_init_97 : decode cX9_init 97 = .ok (.new 54, 3) := by decide +kernel
theorem dX9_init_100 : decode cX9_init 100 = .ok (.dup, 1) := by decide +kernel
theorem dX9_init_101 : decode cX9_init 101 = .ok (.invokespecial 56, 3) := by decide +kernel
theorem dX9_init_104 : decode cX9_init 104 = .ok (.putfield 61, 3) := by decide +kernel
theorem dX9_init_107 : decode cX9_init 107 = .ok (.aload_n 0, 1) := by decide +kernel
theorem dX9_init_108 : decode cX9_init 108 = .ok (.iconst 3, 1) := by decide +kernel
theorem dX9_init_109 : decode cX9_init 109 = .ok (.anewarray 54, 3) := by decide +kernel
theorem dX9_init_112 : decode cX9_init 112 = .ok (.putfield 64, 3) := by decide +kernel
theorem dX9_init_115 : decode cX9_init 115 = .ok (.aload_n 0, 1) := by decide +kernel
theorem dX9_init_116 : decode cX9_init 116 = .ok (.iconst 4, 1) := by decide +kernel
theorem dX9_init_117 : decode cX9_init 117 = .ok (.anewarray 68, 3) := by decide +kernel
theorem dX9_init_120 : decode cX9_init 120 = .ok (.putfield 70, 3) := by decide +kernel
theorem dX9_init_123 : decode cX9_init 123 = .ok (.aload_n 0, 1) := by decide +kernel
theorem dX9_init_124 : decode cX9_init 124 = .ok (.bipush 12, 2) := by decide +kernel
theorem dX9_init_126 : decode cX9_init 126 = .ok (.newarray .int, 2) := by decide +kernel
theorem dX9_init_128 : decode cX9_init 128 = .ok (.putfield 74, 3) := by decide +kernel
theorem dX9_init_131 : decode cX9_init 131 = .ok (.aload_n 0, 1) := by decide +kernel
theorem dX9_init_132 : decode cX9_init 132 = .ok (.aload_n 1, 1) := by decide +kernel
theorem dX9_init_133 : decode cX9_init 133 = .ok (.putfield 77, 3) := by decide +kernel
theorem dX9_init_136 : decode cX9_init 136 = .ok (.iconst 0, 1) := by decide +kernel
theorem dX9_init_137 : decode cX9_init 137 = .ok (.istore_n 2, 1) := by decide +kernel
theorem dX9_init_138 : decode cX9_init 138 = .ok (.iload_n 2, 1) := by decide +kernel
theorem dX9_init_139 : decode cX9_init 139 = .ok (.aload_n 0, 1) := by decide +kernel
theorem dX9_init_140 : decode cX9_init 140 = .ok (.getfield 34, 3) := by decide +kernel
theorem dX9_init_143 : decode cX9_init 143 = .ok (.arraylength, 1) := by decide +kernel
theorem dX9_init_144 : decode cX9_init 144 = .ok (.if_icmp .ge 22, 3) := by decide +kernel
theorem dX9_init_147 : decode cX9_init 147 = .ok (.aload_n 0, 1) := by decide +kernel
theorem dX9_init_148 : decode cX9_init 148 = .ok (.getfield 34, 3) := by decide +kernel
theorem dX9_init_151 : decode cX9_init 151 = .ok (.iload_n 2, 1) := by decide +kernel
theorem dX9_init_152 : decode cX9_init 152 = .ok (.new 32, 3) := by decide +kernel
theorem dX9_init_155 : decode cX9_init 155 = .ok (.dup, 1) := by decide +kernel
theorem dX9_init_156 : decode cX9_init 156 = .ok (.invokespecial 38, 3) := by decide +kernel
theorem dX9_init_159 : decode cX9_init 159 = .ok (.aastore, 1) := by decide +kernel
theorem dX9_init_160 : decode cX9_init 160 = .ok (.iinc 2 1, 3) := by decide +kernel
theorem dX9_init_163 : decode cX9_init 163 = .ok (.goto (-25), 3) := by decide +kernel
theorem dX9_init_166 : decode cX9_init 166 = .ok (.iconst 0, 1) := by decide +kernel
theorem dX9_init_167 : decode cX9_init 167 = .ok (.istore_n 2, 1) := by decide +kernel
theorem dX9_init_168 : decode cX9_init 168 = .ok (.iload_n 2, 1) := by decide +kernel
theorem dX9_init_169 : decode cX9_init 169 = .ok (.aload_n 0, 1) := by decide +kernel
theorem dX9_init_170 : decode cX9_init 170 = .ok (.getfield 64, 3) := by decide +kernel
theorem dX9_init_173 : decode cX9_init 173 = .ok (.arraylength, 1) := by decide +kernel
theorem dX9_init_174 : decode cX9_init 174 = .ok (.if_icmp .ge 22, 3) := by decide +kernel
theorem dX9_init_177 : decode cX9_init 177 = .ok (.aload_n 0, 1) := by decide +kernel
theorem dX9_init_178 : decode cX9_init 178 = .ok (.getfield 64, 3) := by decide +kernel
theorem dX9_init_181 : decode cX9_init 181 = .ok (.iload_n 2, 1) := by decide +kernel
theorem dX9_init_182 : decode cX9_init 182 = .ok (.new 54, 3) := by decide +kernel
theorem dX9_init_185 : decode cX9_init 185 = .ok (.dup, 1) := by decide +kernel
theorem dX9_init_186 : decode cX9_init 186 = .ok (.invokespecial 56, 3) := by decide +kernel
theorem dX9_init_189 : decode cX9_init 189 = .ok (.aastore, 1) := by decide +kernel
theorem dX9_init_190 : decode cX9_init 190 = .ok (.iinc 2 1, 3) := by decide +kernel
theorem dX9_init_193 : decode cX9_init 193 = .ok (.goto (-25), 3) := by decide +kernel
theorem dX9_init_196 : decode cX9_init 196 = .ok (.iconst 0, 1) := by decide +kernel
theorem dX9_init_197 : decode cX9_init 197 = .ok (.istore_n 2, 1) := by decide +kernel
theorem dX9_init_198 : decode cX9_init 198 = .ok (.iload_n 2, 1) := by decide +kernel
theorem dX9_init_199 : decode cX9_init 199 = .ok (.aload_n 0, 1) := by decide +kernel
theorem dX9_init_200 : decode cX9_init 200 = .ok (.getfield 70, 3) := by decide +kernel
theorem dX9_init_203 : decode cX9_init 203 = .ok (.arraylength, 1) := by decide +kernel
theorem dX9_init_204 : decode cX9_init 204 = .ok (.if_icmp .ge 22, 3) := by decide +kernel
theorem dX9_init_207 : decode cX9_init 207 = .ok (.aload_n 0, 1) := by decide +kernel
theorem dX9_init_208 : decode cX9_init 208 = .ok (.getfield 70, 3) := by decide +kernel
theorem dX9_init_211 : decode cX9_init 211 = .ok (.iload_n 2, 1) := by decide +kernel
theorem dX9_init_212 : decode cX9_init 212 = .ok (.new 68, 3) := by decide +kernel
theorem dX9_init_215 : decode cX9_init 215 = .ok (.dup, 1) := by decide +kernel
theorem dX9_init_216 : decode cX9_init 216 = .ok (.invokespecial 81, 3) := by decide +kernel
theorem dX9_init_219 : decode cX9_init 219 = .ok (.aastore, 1) := by decide +kernel
theorem dX9_init_220 : decode cX9_init 220 = .ok (.iinc 2 1, 3) := by decide +kernel
theorem dX9_init_223 : decode cX9_init 223 = .ok (.goto (-25), 3) := by decide +kernel
theorem dX9_init_226 : decode cX9_init 226 = .ok (.aload_n 0, 1) := by decide +kernel
theorem dX9_init_227 : decode cX9_init 227 = .ok (.new 68, 3) := by decide +kernel
theorem dX9_init_230 : decode cX9_init 230 = .ok (.dup, 1) := by decide +kernel
theorem dX9_init_231 : decode cX9_init 231 = .ok (.invokespecial 81, 3) := by decide +kernel
theorem dX9_init_234 : decode cX9_init 234 = .ok (.putfield 82, 3) := by decide +kernel
theorem dX9_init_237 : decode cX9_init 237 = .ok (.return_, 1) := by decide +kernel
set_option maxRecDepth 100000 in
set_option maxHeartbeats 4000000 in
theorem c_X9_init (S : Hp) (h : Nat) (hm : h ∈ hL S) (hk : hK S h = 9) (s0 : Nat) : Ct 4 yX9_init cX9_init 3 none 113 68424 [.ref h, .ref s0] S (fun r S' => r = none ∧ Fm (fun _ _ => False) (fun f9 b9 => b9 = h) (fun _ => False) S S' ∧ ∃ q0 q1 q2 q3 q4 q5 q6 q7 q8 q9 q10 : Nat, q0 ∉ hL S ∧ q0 ∈ hL S' ∧ Kd S' q0 0 ∧ hR S' 901 h = some q0 ∧ q1 ∉ hL S ∧ q1 ∈ hL S' ∧ Kd S' q1 14 ∧ Ln S' q1 20000 ∧ hR S' 0 q0 = some q1 ∧ (∀ j, aI S' q1 j = 0) ∧ q2 ∉ hL S ∧ q2 ∈ hL S' ∧ Kd S' q2 2 ∧ hR S' 902 h = some q2 ∧ q3 ∉ hL S ∧ q3 ∈ hL S' ∧ Kd S' q3 8 ∧ hR S' 200 q2 = some q3 ∧ q4 ∉ hL S ∧ q4 ∈ hL S' ∧ Kd S' q4 14 ∧ Ln S' q4 16 ∧ hR S' 800 q3 = some q4 ∧ (∀ j, aI S' q4 j = 0) ∧ q5 ∉ hL S ∧ q5 ∈ hL S' ∧ Kd S' q5 8 ∧ hR S' 903 h = some q5 ∧ q6 ∉ hL S ∧ q6 ∈ hL S' ∧ Kd S' q6 14 ∧ Ln S' q6 16 ∧ hR S' 800 q5 = some q6 ∧ (∀ j, aI S' q6 j = 0) ∧ q7 ∉ hL S ∧ q7 ∈ hL S' ∧ Kd S' q7 8 ∧ hR S' 906 h = some q7 ∧ q8 ∉ hL S ∧ q8 ∈ hL S' ∧ Kd S' q8 14 ∧ Ln S' q8 16 ∧ hR S' 800 q7 = some q8 ∧ (∀ j, aI S' q8 j = 0) ∧ q9 ∉ hL S ∧ q9 ∈ hL S' ∧ Kd S' q9 14 ∧ Ln S' q9 16 ∧ hR S' 908 h = some q9 ∧ (∀ j, aI S' q9 j = 0) ∧ q10 ∉ hL S ∧ q10 ∈ hL S' ∧ Kd S' q10 14 ∧ Ln S' q10 12 ∧ hR S' 917 h = some q10 ∧ (∀ j, aI S' q10 j = 0) ∧ hI S' 3 q0 = 0 ∧ hI S' 206 q2 = 0) := by
  refine ct_of (by decide) (Nat.le_of_ble_eq_true rfl) fun x hn9 C M hm9 => ?_
  have C : CB x RX9 cX9_init := C
  refine J.eq (lv' := [(0, .ref h), (1, .ref s0)]) rfl rfl rfl ?_
  refine j_aload_n C dX9_init_0 rfl 0 rfl ?_
  refine j_objInit C mlX9_3 nst_oi (M.fl (by decide)) dX9_init_1 ?_
  refine j_aload_n C dX9_init_4 rfl 0 rfl ?_
  refine j_new (N := 15) C (ci := 0) rfl rfl klX9_9 knX0 kiX0 (M.cells (by decide)) (M.slots (by decide)) dX9_init_5 (fun q_1 hq_2 => ?_)
  have hz_3 : q_1 ∉ hL S := hq_2
  refine j_dup C dX9_init_8 rfl ?_
  have hf_4 : Fm (fun _ _ => False) (fun f9 b9 => b9 = h) (fun _ => False) S (nO S q_1 0) := ((Fm.refl (WI := (fun _ _ => False)) (WR := (fun f9 b9 => b9 = h)) (WA := (fun _ => False))).nO _ hq_2)
  refine j_callI C [] [.ref q_1, .ref h] mlX9_11 mcX0_init (c_X0_init (nO S q_1 0) q_1 mem_new (kd_nO' (k := 0))) (M.rm (by decide) (by decide) (Nat.le_of_ble_eq_true rfl) (Nat.le_of_ble_eq_true rfl)) rfl rfl (Nat.le_of_ble_eq_true rfl) dX9_init_9 (fun r_12 S_13 hp_14 => ?_)
  obtain ⟨rfl, hf_15, q_5, e_6, e_7, e_8, e_9, e_10, e_11⟩ := hp_14
  refine J.eq (st' := [.ref q_1, .ref h]) rfl rfl rfl ?_
  have hm_16 : h ∈ hL S_13 := hf_15.mem (mem_old hm)
  have hk_17 : Kd S_13 h 9 := hf_15.kd (mem_old hm) (kd_nO (k := 0) hq_2 hm hk)
  have hm_18 : q_1 ∈ hL S_13 := hf_15.mem mem_new
  have hk_19 : Kd S_13 q_1 0 := hf_15.kd mem_new (kd_nO' (k := 0))
  have hv_20 : hI S_13 2 q_1 = 0 := hf_15.fi mem_new (fun h9 => h9) (rd_nOI' (k := 0))
  have hv_21 : hI S_13 3 q_1 = 0 := hf_15.fi mem_new (fun h9 => h9) (rd_nOI' (k := 0))
  have hv_22 : hI S_13 4 q_1 = 0 := hf_15.fi mem_new (fun h9 => h9) (rd_nOI' (k := 0))
  have hv_23 : hI S_13 5 q_1 = 0 := hf_15.fi mem_new (fun h9 => h9) (rd_nOI' (k := 0))
  have hf_24 : Fm (fun _ _ => False) (fun f9 b9 => b9 = h) (fun _ => False) S S_13 := hf_4.then hf_15 (fun a9 ha9 => ⟨(fun f9 h9 => h9.elim), (fun f9 h9 => (fun h8 => absurd (h8 ▸ ha9) hz_3) h9), (fun h9 => h9.elim)⟩)
  have hz_25 : q_5 ∉ hL S := fun h9 => e_6 (hf_4.mem h9)
  refine j_putrF (f := 901) C hm9 flX9_12o (by decide) rfl rfl dX9_init_12 hm_16 hk_17 rfl ?_
  refine j_aload_n C dX9_init_15 rfl 0 rfl ?_
  show J _ _ _ _ _ 16 _
  have hf_28 : Fm (fun _ _ => False) (fun f9 b9 => b9 = h) (fun _ => False) S (sR S_13 901 h (some q_1)) := (hf_24.sR _ (fun _ => rfl))
  refine j_new (N := 10) C (ci := 2) rfl rfl klX9_18 knX2 kiX2 (M.cells (by decide)) (M.slots (by decide)) dX9_init_16 (fun q_26 hq_27 => ?_)
  have hz_29 : q_26 ∉ hL S := fun h9 => hq_27 (hf_28.mem h9)
  refine j_dup C dX9_init_19 rfl ?_
  have hf_30 : Fm (fun _ _ => False) (fun f9 b9 => b9 = h) (fun _ => False) S (nO (sR S_13 901 h (some q_1)) q_26 2) := (hf_28.nO _ hq_27)
  refine j_callI C [] [.ref q_26, .ref h] mlX9_20 mcX2_init (c_X2_init (nO (sR S_13 901 h (some q_1)) q_26 2) q_26 mem_new (kd_nO' (k := 2))) (M.rm (by decide) (by decide) (Nat.le_of_ble_eq_true rfl) (Nat.le_of_ble_eq_true rfl)) rfl rfl (Nat.le_of_ble_eq_true rfl) dX9_init_20 (fun r_43 S_44 hp_45 => ?_)
  obtain ⟨rfl, hf_46, q_31, q_32, e_33, e_34, e_35, e_36, e_37, e_38, e_39, e_40, e_41, e_42⟩ := hp_45
  refine J.eq (st' := [.ref q_26, .ref h]) rfl rfl rfl ?_
  have hz_47 : ∀ j, aI S_44 q_5 j = 0 := fun j9 => (hf_46.ai (mem_old e_7) (fun h9 => h9) j9).trans (e_11 j9)
  have hm_48 : h ∈ hL S_44 := hf_46.mem (mem_old hm_16)
  have hk_49 : Kd S_44 h 9 := hf_46.kd (mem_old hm_16) (kd_nO (k := 2) hq_27 hm_16 hk_17)
  have hm_50 : q_1 ∈ hL S_44 := hf_46.mem (mem_old hm_18)
  have hk_51 : Kd S_44 q_1 0 := hf_46.kd (mem_old hm_18) (kd_nO (k := 2) hq_27 hm_18 hk_19)
  have hm_52 : q_26 ∈ hL S_44 := hf_46.mem mem_new
  have hk_53 : Kd S_44 q_26 2 := hf_46.kd mem_new (kd_nO' (k := 2))
  have hm_54 : q_5 ∈ hL S_44 := hf_46.mem (mem_old e_7)
  have hk_55 : Kd S_44 q_5 14 := hf_46.kd (mem_old e_7) (kd_nO (k := 2) hq_27 e_7 e_8)
  have hn_56 : Ln S_44 q_5 20000 := hf_46.ln (mem_old e_7) e_9
  have hv_57 : hI S_44 2 q_1 = 0 := hf_46.fi (mem_old hm_18) (fun h9 => h9) (rd_nOI (k := 2) hq_27 hm_18 hv_20)
  have hv_58 : hI S_44 206 q_26 = 0 := hf_46.fi mem_new (fun h9 => h9) (rd_nOI' (k := 2))
  have hv_59 : hI S_44 209 q_26 = 0 := hf_46.fi mem_new (fun h9 => h9) (rd_nOI' (k := 2))
  have hv_60 : hI S_44 3 q_1 = 0 := hf_46.fi (mem_old hm_18) (fun h9 => h9) (rd_nOI (k := 2) hq_27 hm_18 hv_21)
  have hv_61 : hI S_44 4 q_1 = 0 := hf_46.fi (mem_old hm_18) (fun h9 => h9) (rd_nOI (k := 2) hq_27 hm_18 hv_22)
  have hv_62 : hI S_44 5 q_1 = 0 := hf_46.fi (mem_old hm_18) (fun h9 => h9) (rd_nOI (k := 2) hq_27 hm_18 hv_23)
  have hv_63 : hR S_44 0 q_1 = (some q_5) := hf_46.fr (mem_old hm_18) (fun q9 => (fun e9 => absurd (((kd_nO (k := 2) hq_27 hm_18 hk_19)).symm.trans ((congrArg (hK _) e9).trans (kd_nO' (k := 2)))) (by decide)) q9) (rd_nOR (k := 2) hq_27 hm_18 (rd_sRf (S := S_13) (g := 901) (a := h) (v := (some q_1)) (by decide) e_10))
  have hv_64 : hR S_44 901 h = (some q_1) := hf_46.fr (mem_old hm_16) (fun q9 => (fun e9 => absurd (((kd_nO (k := 2) hq_27 hm_16 hk_17)).symm.trans ((congrArg (hK _) e9).trans (kd_nO' (k := 2)))) (by decide)) q9) (rd_nOR (k := 2) hq_27 hm_16 (rd_sR (S := S_13) (g := 901) (a := h) (v := (some q_1))))
  have hf_65 : Fm (fun _ _ => False) (fun f9 b9 => b9 = h) (fun _ => False) S S_44 := hf_30.then hf_46 (fun a9 ha9 => ⟨(fun f9 h9 => h9.elim), (fun f9 h9 => (fun h8 => absurd (h8 ▸ ha9) hz_29) h9), (fun h9 => h9.elim)⟩)
  have hz_66 : q_31 ∉ hL S := fun h9 => e_33 (hf_30.mem h9)
  have hz_67 : q_32 ∉ hL S := fun h9 => e_37 (hf_30.mem h9)
  refine j_putrF (f := 902) C hm9 flX9_21o (by decide) rfl rfl dX9_init_23 hm_48 hk_49 rfl ?_
  refine j_aload_n C dX9_init_26 rfl 0 rfl ?_
  have hf_70 : Fm (fun _ _ => False) (fun f9 b9 => b9 = h) (fun _ => False) S (sR S_44 902 h (some q_26)) := (hf_65.sR _ (fun _ => rfl))
  refine j_new (N := 1) C (ci := 8) rfl rfl klX9_25 knX8 kiX8 (M.cells (by decide)) (M.slots (by decide)) dX9_init_27 (fun q_68 hq_69 => ?_)
  have hz_71 : q_68 ∉ hL S := fun h9 => hq_69 (hf_70.mem h9)
  refine j_dup C dX9_init_30 rfl ?_
  have hf_72 : Fm (fun _ _ => False) (fun f9 b9 => b9 = h) (fun _ => False) S (nO (sR S_44 902 h (some q_26)) q_68 8) := (hf_70.nO _ hq_69)
  refine j_callI C [] [.ref q_68, .ref h] mlX9_27 mcX8_init (c_X8_init (nO (sR S_44 902 h (some q_26)) q_68 8) q_68 mem_new (kd_nO' (k := 8))) (M.rm (by decide) (by decide) (Nat.le_of_ble_eq_true rfl) (Nat.le_of_ble_eq_true rfl)) rfl rfl (Nat.le_of_ble_eq_true rfl) dX9_init_31 (fun r_80 S_81 hp_82 => ?_)
  obtain ⟨rfl, hf_83, q_73, e_74, e_75, e_76, e_77, e_78, e_79⟩ := hp_82
  refine J.eq (st' := [.ref q_68, .ref h]) rfl rfl rfl ?_
  have hz_84 : ∀ j, aI S_81 q_32 j = 0 := fun j9 => (hf_83.ai (mem_old e_38) (fun h9 => h9) j9).trans (e_42 j9)
  have hz_85 : ∀ j, aI S_81 q_5 j = 0 := fun j9 => (hf_83.ai (mem_old hm_54) (fun h9 => h9) j9).trans (hz_47 j9)
  have hm_86 : h ∈ hL S_81 := hf_83.mem (mem_old hm_48)
  have hk_87 : Kd S_81 h 9 := hf_83.kd (mem_old hm_48) (kd_nO (k := 8) hq_69 hm_48 hk_49)
  have hm_88 : q_1 ∈ hL S_81 := hf_83.mem (mem_old hm_50)
  have hk_89 : Kd S_81 q_1 0 := hf_83.kd (mem_old hm_50) (kd_nO (k := 8) hq_69 hm_50 hk_51)
  have hm_90 : q_26 ∈ hL S_81 := hf_83.mem (mem_old hm_52)
  have hk_91 : Kd S_81 q_26 2 := hf_83.kd (mem_old hm_52) (kd_nO (k := 8) hq_69 hm_52 hk_53)
  have hm_92 : q_31 ∈ hL S_81 := hf_83.mem (mem_old e_34)
  have hk_93 : Kd S_81 q_31 8 := hf_83.kd (mem_old e_34) (kd_nO (k := 8) hq_69 e_34 e_35)
  have hm_94 : q_32 ∈ hL S_81 := hf_83.mem (mem_old e_38)
  have hk_95 : Kd S_81 q_32 14 := hf_83.kd (mem_old e_38) (kd_nO (k := 8) hq_69 e_38 e_39)
  have hn_96 : Ln S_81 q_32 16 := hf_83.ln (mem_old e_38) e_40
  have hm_97 : q_5 ∈ hL S_81 := hf_83.mem (mem_old hm_54)
  have hk_98 : Kd S_81 q_5 14 := hf_83.kd (mem_old hm_54) (kd_nO (k := 8) hq_69 hm_54 hk_55)
  have hn_99 : Ln S_81 q_5 20000 := hf_83.ln (mem_old hm_54) hn_56
  have hm_100 : q_68 ∈ hL S_81 := hf_83.mem mem_new
  have hk_101 : Kd S_81 q_68 8 := hf_83.kd mem_new (kd_nO' (k := 8))
  have hv_102 : hI S_81 2 q_1 = 0 := hf_83.fi (mem_old hm_50) (fun h9 => h9) (rd_nOI (k := 8) hq_69 hm_50 hv_57)
  have hv_103 : hI S_81 206 q_26 = 0 := hf_83.fi (mem_old hm_52) (fun h9 => h9) (rd_nOI (k := 8) hq_69 hm_52 hv_58)
  have hv_104 : hI S_81 209 q_26 = 0 := hf_83.fi (mem_old hm_52) (fun h9 => h9) (rd_nOI (k := 8) hq_69 hm_52 hv_59)
  have hv_105 : hI S_81 3 q_1 = 0 := hf_83.fi (mem_old hm_50) (fun h9 => h9) (rd_nOI (k := 8) hq_69 hm_50 hv_60)
  have hv_106 : hI S_81 4 q_1 = 0 := hf_83.fi (mem_old hm_50) (fun h9 => h9) (rd_nOI (k := 8) hq_69 hm_50 hv_61)
  have hv_107 : hI S_81 5 q_1 = 0 := hf_83.fi (mem_old hm_50) (fun h9 => h9) (rd_nOI (k := 8) hq_69 hm_50 hv_62)
  have hv_108 : hR S_81 0 q_1 = (some q_5) := hf_83.fr (mem_old hm_50) (fun q9 => (fun e9 => absurd (((kd_nO (k := 8) hq_69 hm_50 hk_51)).symm.trans ((congrArg (hK _) e9).trans (kd_nO' (k := 8)))) (by decide)) q9) (rd_nOR (k := 8) hq_69 hm_50 (rd_sRf (S := S_44) (g := 902) (a := h) (v := (some q_26)) (by decide) hv_63))
  have hv_109 : hR S_81 200 q_26 = (some q_31) := hf_83.fr (mem_old hm_52) (fun q9 => (fun e9 => absurd (((kd_nO (k := 8) hq_69 hm_52 hk_53)).symm.trans ((congrArg (hK _) e9).trans (kd_nO' (k := 8)))) (by decide)) q9) (rd_nOR (k := 8) hq_69 hm_52 (rd_sRf (S := S_44) (g := 902) (a := h) (v := (some q_26)) (by decide) e_36))
  have hv_110 : hR S_81 800 q_31 = (some q_32) := hf_83.fr (mem_old e_34) (fun q9 => (ne_of_nin hq_69 e_34) q9) (rd_nOR (k := 8) hq_69 e_34 (rd_sRf (S := S_44) (g := 902) (a := h) (v := (some q_26)) (by decide) e_41))
  have hv_111 : hR S_81 901 h = (some q_1) := hf_83.fr (mem_old hm_48) (fun q9 => (fun e9 => absurd (((kd_nO (k := 8) hq_69 hm_48 hk_49)).symm.trans ((congrArg (hK _) e9).trans (kd_nO' (k := 8)))) (by decide)) q9) (rd_nOR (k := 8) hq_69 hm_48 (rd_sRf (S := S_44) (g := 902) (a := h) (v := (some q_26)) (by decide) hv_64))
  have hv_112 : hR S_81 902 h = (some q_26) := hf_83.fr (mem_old hm_48) (fun q9 => (fun e9 => absurd (((kd_nO (k := 8) hq_69 hm_48 hk_49)).symm.trans ((congrArg (hK _) e9).trans (kd_nO' (k := 8)))) (by decide)) q9) (rd_nOR (k := 8) hq_69 hm_48 (rd_sR (S := S_44) (g := 902) (a := h) (v := (some q_26))))
  have hf_113 : Fm (fun _ _ => False) (fun f9 b9 => b9 = h) (fun _ => False) S S_81 := hf_72.then hf_83 (fun a9 ha9 => ⟨(fun f9 h9 => h9.elim), (fun f9 h9 => (fun h8 => absurd (h8 ▸ ha9) hz_71) h9), (fun h9 => h9.elim)⟩)
  have hz_114 : q_73 ∉ hL S := fun h9 => e_74 (hf_72.mem h9)
  show J _ _ _ _ _ 34 _
  refine j_putrF (f := 903) C hm9 flX9_28o (by decide) rfl rfl dX9_init_34 hm_86 hk_87 rfl ?_
  refine j_aload_n C dX9_init_37 rfl 0 rfl ?_
  refine j_bipush (v := 16) C dX9_init_38 (by decide) ?_
  have hf_117 : Fm (fun _ _ => False) (fun f9 b9 => b9 = h) (fun _ => False) S (sR S_81 903 h (some q_68)) := (hf_113.sR _ (fun _ => rfl))
  refine j_newQ (N := 16) C 20 (by decide) rfl klX9_32 (gx_Tile C) (by decide) (by decide) (by decide) (M.cells (by decide)) (M.slots (by decide)) dX9_init_40 (fun q_115 hq_116 => ?_)
  have hz_118 : q_115 ∉ hL S := fun h9 => hq_116 (hf_117.mem h9)
  refine j_putrF (f := 904) C hm9 flX9_34o (by decide) rfl rfl dX9_init_43 (mem_old hm_86) (kd_nA (k := 20) (n := 16) hq_116 hm_86 hk_87) rfl ?_
  refine j_aload_n C dX9_init_46 rfl 0 rfl ?_
  have hf_121 : Fm (fun _ _ => False) (fun f9 b9 => b9 = h) (fun _ => False) S (sR (nA (sR S_81 903 h (some q_68)) q_115 20 16) 904 h (some q_115)) := ((hf_117.nA _ _ hq_116).sR _ (fun _ => rfl))
  obtain ⟨S_119, eS_120⟩ : ∃ S9 : Hp, S9 = (sR (nA (sR S_81 903 h (some q_68)) q_115 20 16) 904 h (some q_115)) := ⟨_, rfl⟩
  refine J.eq (S' := S_119) eS_120.symm rfl rfl ?_
  have hm_122 : h ∈ hL S_119 := by rw [eS_120]; exact (mem_old hm_86)
  have hk_123 : Kd S_119 h 9 := by rw [eS_120]; exact (kd_nA (k := 20) (n := 16) hq_116 hm_86 hk_87)
  have hm_124 : q_1 ∈ hL S_119 := by rw [eS_120]; exact (mem_old hm_88)
  have hk_125 : Kd S_119 q_1 0 := by rw [eS_120]; exact (kd_nA (k := 20) (n := 16) hq_116 hm_88 hk_89)
  have hm_126 : q_115 ∈ hL S_119 := by rw [eS_120]; exact mem_new
  have hk_127 : Kd S_119 q_115 20 := by rw [eS_120]; exact (kd_nA' (k := 20) (n := 16))
  have hn_128 : Ln S_119 q_115 16 := by rw [eS_120]; exact (ln_nA' (k := 20))
  have hz_129 : ∀ j, aI S_119 q_115 j = 0 := by rw [eS_120]; exact (fun j9 => rd_nAI' (k := 20) (n := 16))
  have hm_130 : q_26 ∈ hL S_119 := by rw [eS_120]; exact (mem_old hm_90)
  have hk_131 : Kd S_119 q_26 2 := by rw [eS_120]; exact (kd_nA (k := 20) (n := 16) hq_116 hm_90 hk_91)
  have hm_132 : q_31 ∈ hL S_119 := by rw [eS_120]; exact (mem_old hm_92)
  have hk_133 : Kd S_119 q_31 8 := by rw [eS_120]; exact (kd_nA (k := 20) (n := 16) hq_116 hm_92 hk_93)
  have hm_134 : q_32 ∈ hL S_119 := by rw [eS_120]; exact (mem_old hm_94)
  have hk_135 : Kd S_119 q_32 14 := by rw [eS_120]; exact (kd_nA (k := 20) (n := 16) hq_116 hm_94 hk_95)
  have hn_136 : Ln S_119 q_32 16 := by rw [eS_120]; exact (ln_nA (k := 20) hq_116 hm_94 hn_96)
  have hz_137 : ∀ j, aI S_119 q_32 j = 0 := by rw [eS_120]; exact (fun j9 => rd_nAI (k := 20) (n := 16) hq_116 hm_94 (hz_84 j9))
  have hm_138 : q_5 ∈ hL S_119 := by rw [eS_120]; exact (mem_old hm_97)
  have hk_139 : Kd S_119 q_5 14 := by rw [eS_120]; exact (kd_nA (k := 20) (n := 16) hq_116 hm_97 hk_98)
  have hn_140 : Ln S_119 q_5 20000 := by rw [eS_120]; exact (ln_nA (k := 20) hq_116 hm_97 hn_99)
  have hz_141 : ∀ j, aI S_119 q_5 j = 0 := by rw [eS_120]; exact (fun j9 => rd_nAI (k := 20) (n := 16) hq_116 hm_97 (hz_85 j9))
  have hm_142 : q_68 ∈ hL S_119 := by rw [eS_120]; exact (mem_old hm_100)
  have hk_143 : Kd S_119 q_68 8 := by rw [eS_120]; exact (kd_nA (k := 20) (n := 16) hq_116 hm_100 hk_101)
  have hm_144 : q_73 ∈ hL S_119 := by rw [eS_120]; exact (mem_old e_75)
  have hk_145 : Kd S_119 q_73 14 := by rw [eS_120]; exact (kd_nA (k := 20) (n := 16) hq_116 e_75 e_76)
  have hn_146 : Ln S_119 q_73 16 := by rw [eS_120]; exact (ln_nA (k := 20) hq_116 e_75 e_77)
  have hz_147 : ∀ j, aI S_119 q_73 j = 0 := by rw [eS_120]; exact (fun j9 => rd_nAI (k := 20) (n := 16) hq_116 e_75 (e_79 j9))
  have hv_148 : hI S_119 2 q_1 = 0 := by rw [eS_120]; exact hv_102
  have hv_149 : hI S_119 206 q_26 = 0 := by rw [eS_120]; exact hv_103
  have hv_150 : hI S_119 209 q_26 = 0 := by rw [eS_120]; exact hv_104
  have hv_151 : hI S_119 3 q_1 = 0 := by rw [eS_120]; exact hv_105
  have hv_152 : hI S_119 4 q_1 = 0 := by rw [eS_120]; exact hv_106
  have hv_153 : hI S_119 5 q_1 = 0 := by rw [eS_120]; exact hv_107
  have hv_154 : hR S_119 0 q_1 = (some q_5) := by rw [eS_120]; exact (rd_sRf (S := (nA (sR S_81 903 h (some q_68)) q_115 20 16)) (g := 904) (a := h) (v := (some q_115)) (by decide) (rd_sRf (S := S_81) (g := 903) (a := h) (v := (some q_68)) (by decide) hv_108))
  have hv_155 : hR S_119 200 q_26 = (some q_31) := by rw [eS_120]; exact (rd_sRf (S := (nA (sR S_81 903 h (some q_68)) q_115 20 16)) (g := 904) (a := h) (v := (some q_115)) (by decide) (rd_sRf (S := S_81) (g := 903) (a := h) (v := (some q_68)) (by decide) hv_109))
  have hv_156 : hR S_119 800 q_31 = (some q_32) := by rw [eS_120]; exact (rd_sRf (S := (nA (sR S_81 903 h (some q_68)) q_115 20 16)) (g := 904) (a := h) (v := (some q_115)) (by decide) (rd_sRf (S := S_81) (g := 903) (a := h) (v := (some q_68)) (by decide) hv_110))
  have hv_157 : hR S_119 800 q_68 = (some q_73) := by rw [eS_120]; exact (rd_sRf (S := (nA (sR S_81 903 h (some q_68)) q_115 20 16)) (g := 904) (a := h) (v := (some q_115)) (by decide) (rd_sRf (S := S_81) (g := 903) (a := h) (v := (some q_68)) (by decide) e_78))
  have hv_158 : hR S_119 901 h = (some q_1) := by rw [eS_120]; exact (rd_sRf (S := (nA (sR S_81 903 h (some q_68)) q_115 20 16)) (g := 904) (a := h) (v := (some q_115)) (by decide) (rd_sRf (S := S_81) (g := 903) (a := h) (v := (some q_68)) (by decide) hv_111))
  have hv_159 : hR S_119 902 h = (some q_26) := by rw [eS_120]; exact (rd_sRf (S := (nA (sR S_81 903 h (some q_68)) q_115 20 16)) (g := 904) (a := h) (v := (some q_115)) (by decide) (rd_sRf (S := S_81) (g := 903) (a := h) (v := (some q_68)) (by decide) hv_112))
  have hv_160 : hR S_119 903 h = (some q_68) := by rw [eS_120]; exact (rd_sRf (S := (nA (sR S_81 903 h (some q_68)) q_115 20 16)) (g := 904) (a := h) (v := (some q_115)) (by decide) (rd_sR (S := S_81) (g := 903) (a := h) (v := (some q_68))))
  have hv_161 : hR S_119 904 h = (some q_115) := by rw [eS_120]; exact (rd_sR (S := (nA (sR S_81 903 h (some q_68)) q_115 20 16)) (g := 904) (a := h) (v := (some q_115)))
  have hf_162 : Fm (fun _ _ => False) (fun f9 b9 => b9 = h) (fun _ => False) S S_119 := by rw [eS_120]; exact hf_121
  refine j_new (N := 4) C (ci := 10) rfl rfl klX9_32 knX10 kiX10 (M.cells (by decide)) (M.slots (by decide)) dX9_init_47 (fun q_163 hq_164 => ?_)
  have hz_165 : q_163 ∉ hL S := fun h9 => hq_164 (hf_162.mem h9)
  refine j_dup C dX9_init_50 rfl ?_
  show J _ _ _ _ _ 51 _
  have hf_166 : Fm (fun _ _ => False) (fun f9 b9 => b9 = h) (fun _ => False) S (nO S_119 q_163 10) := (hf_162.nO _ hq_164)
  refine j_callI C [] [.ref q_163, .ref h] mlX9_38 mcX10_init (c_X10_init (nO S_119 q_163 10) q_163 mem_new (kd_nO' (k := 10))) (M.rm (by decide) (by decide) (Nat.le_of_ble_eq_true rfl) (Nat.le_of_ble_eq_true rfl)) rfl rfl (Nat.le_of_ble_eq_true rfl) dX9_init_51 (fun r_175 S_176 hp_177 => ?_)
  obtain ⟨rfl, hf_178, e_168, e_169, q_167, e_170, e_171, e_172, e_173, e_174⟩ := hp_177
  refine J.eq (st' := [.ref q_163, .ref h]) rfl rfl rfl ?_
  have hz_179 : ∀ j, aI S_176 q_115 j = 0 := fun j9 => (hf_178.ai (mem_old hm_126) (fun h9 => h9) j9).trans (hz_129 j9)
  have hz_180 : ∀ j, aI S_176 q_32 j = 0 := fun j9 => (hf_178.ai (mem_old hm_134) (fun h9 => h9) j9).trans (hz_137 j9)
  have hz_181 : ∀ j, aI S_176 q_5 j = 0 := fun j9 => (hf_178.ai (mem_old hm_138) (fun h9 => h9) j9).trans (hz_141 j9)
  have hz_182 : ∀ j, aI S_176 q_73 j = 0 := fun j9 => (hf_178.ai (mem_old hm_144) (fun h9 => h9) j9).trans (hz_147 j9)
  have hm_183 : h ∈ hL S_176 := hf_178.mem (mem_old hm_122)
  have hk_184 : Kd S_176 h 9 := hf_178.kd (mem_old hm_122) (kd_nO (k := 10) hq_164 hm_122 hk_123)
  have hm_185 : q_1 ∈ hL S_176 := hf_178.mem (mem_old hm_124)
  have hk_186 : Kd S_176 q_1 0 := hf_178.kd (mem_old hm_124) (kd_nO (k := 10) hq_164 hm_124 hk_125)
  have hm_187 : q_115 ∈ hL S_176 := hf_178.mem (mem_old hm_126)
  have hk_188 : Kd S_176 q_115 20 := hf_178.kd (mem_old hm_126) (kd_nO (k := 10) hq_164 hm_126 hk_127)
  have hn_189 : Ln S_176 q_115 16 := hf_178.ln (mem_old hm_126) hn_128
  have hm_190 : q_163 ∈ hL S_176 := hf_178.mem mem_new
  have hk_191 : Kd S_176 q_163 10 := hf_178.kd mem_new (kd_nO' (k := 10))
  have hm_192 : q_26 ∈ hL S_176 := hf_178.mem (mem_old hm_130)
  have hk_193 : Kd S_176 q_26 2 := hf_178.kd (mem_old hm_130) (kd_nO (k := 10) hq_164 hm_130 hk_131)
  have hm_194 : q_31 ∈ hL S_176 := hf_178.mem (mem_old hm_132)
  have hk_195 : Kd S_176 q_31 8 := hf_178.kd (mem_old hm_132) (kd_nO (k := 10) hq_164 hm_132 hk_133)
  have hm_196 : q_32 ∈ hL S_176 := hf_178.mem (mem_old hm_134)
  have hk_197 : Kd S_176 q_32 14 := hf_178.kd (mem_old hm_134) (kd_nO (k := 10) hq_164 hm_134 hk_135)
  have hn_198 : Ln S_176 q_32 16 := hf_178.ln (mem_old hm_134) hn_136
  have hm_199 : q_5 ∈ hL S_176 := hf_178.mem (mem_old hm_138)
  have hk_200 : Kd S_176 q_5 14 := hf_178.kd (mem_old hm_138) (kd_nO (k := 10) hq_164 hm_138 hk_139)
  have hn_201 : Ln S_176 q_5 20000 := hf_178.ln (mem_old hm_138) hn_140
  have hm_202 : q_68 ∈ hL S_176 := hf_178.mem (mem_old hm_142)
  have hk_203 : Kd S_176 q_68 8 := hf_178.kd (mem_old hm_142) (kd_nO (k := 10) hq_164 hm_142 hk_143)
  have hm_204 : q_73 ∈ hL S_176 := hf_178.mem (mem_old hm_144)
  have hk_205 : Kd S_176 q_73 14 := hf_178.kd (mem_old hm_144) (kd_nO (k := 10) hq_164 hm_144 hk_145)
  have hn_206 : Ln S_176 q_73 16 := hf_178.ln (mem_old hm_144) hn_146
  have hv_207 : hI S_176 2 q_1 = 0 := hf_178.fi (mem_old hm_124) (fun h9 => h9.elim (fun q9 => absurd q9.1 (by decide)) (fun q9 => absurd q9.1 (by decide))) (rd_nOI (k := 10) hq_164 hm_124 hv_148)
  have hv_208 : hI S_176 206 q_26 = 0 := hf_178.fi (mem_old hm_130) (fun h9 => h9.elim (fun q9 => absurd q9.1 (by decide)) (fun q9 => absurd q9.1 (by decide))) (rd_nOI (k := 10) hq_164 hm_130 hv_149)
  have hv_209 : hI S_176 209 q_26 = 0 := hf_178.fi (mem_old hm_130) (fun h9 => h9.elim (fun q9 => absurd q9.1 (by decide)) (fun q9 => absurd q9.1 (by decide))) (rd_nOI (k := 10) hq_164 hm_130 hv_150)
  have hv_210 : hI S_176 3 q_1 = 0 := hf_178.fi (mem_old hm_124) (fun h9 => h9.elim (fun q9 => absurd q9.1 (by decide)) (fun q9 => absurd q9.1 (by decide))) (rd_nOI (k := 10) hq_164 hm_124 hv_151)
  have hv_211 : hI S_176 4 q_1 = 0 := hf_178.fi (mem_old hm_124) (fun h9 => h9.elim (fun q9 => absurd q9.1 (by decide)) (fun q9 => absurd q9.1 (by decide))) (rd_nOI (k := 10) hq_164 hm_124 hv_152)
  have hv_212 : hI S_176 5 q_1 = 0 := hf_178.fi (mem_old hm_124) (fun h9 => h9.elim (fun q9 => absurd q9.1 (by decide)) (fun q9 => absurd q9.1 (by decide))) (rd_nOI (k := 10) hq_164 hm_124 hv_153)
  have hv_213 : hR S_176 0 q_1 = (some q_5) := hf_178.fr (mem_old hm_124) (fun q9 => (fun e9 => absurd (((kd_nO (k := 10) hq_164 hm_124 hk_125)).symm.trans ((congrArg (hK _) e9).trans (kd_nO' (k := 10)))) (by decide)) q9) (rd_nOR (k := 10) hq_164 hm_124 hv_154)
  have hv_214 : hR S_176 200 q_26 = (some q_31) := hf_178.fr (mem_old hm_130) (fun q9 => (fun e9 => absurd (((kd_nO (k := 10) hq_164 hm_130 hk_131)).symm.trans ((congrArg (hK _) e9).trans (kd_nO' (k := 10)))) (by decide)) q9) (rd_nOR (k := 10) hq_164 hm_130 hv_155)
  have hv_215 : hR S_176 800 q_31 = (some q_32) := hf_178.fr (mem_old hm_132) (fun q9 => (fun e9 => absurd (((kd_nO (k := 10) hq_164 hm_132 hk_133)).symm.trans ((congrArg (hK _) e9).trans (kd_nO' (k := 10)))) (by decide)) q9) (rd_nOR (k := 10) hq_164 hm_132 hv_156)
  have hv_216 : hR S_176 800 q_68 = (some q_73) := hf_178.fr (mem_old hm_142) (fun q9 => (fun e9 => absurd (((kd_nO (k := 10) hq_164 hm_142 hk_143)).symm.trans ((congrArg (hK _) e9).trans (kd_nO' (k := 10)))) (by decide)) q9) (rd_nOR (k := 10) hq_164 hm_142 hv_157)
  have hv_217 : hR S_176 901 h = (some q_1) := hf_178.fr (mem_old hm_122) (fun q9 => (fun e9 => absurd (((kd_nO (k := 10) hq_164 hm_122 hk_123)).symm.trans ((congrArg (hK _) e9).trans (kd_nO' (k := 10)))) (by decide)) q9) (rd_nOR (k := 10) hq_164 hm_122 hv_158)
  have hv_218 : hR S_176 902 h = (some q_26) := hf_178.fr (mem_old hm_122) (fun q9 => (fun e9 => absurd (((kd_nO (k := 10) hq_164 hm_122 hk_123)).symm.trans ((congrArg (hK _) e9).trans (kd_nO' (k := 10)))) (by decide)) q9) (rd_nOR (k := 10) hq_164 hm_122 hv_159)
  have hv_219 : hR S_176 903 h = (some q_68) := hf_178.fr (mem_old hm_122) (fun q9 => (fun e9 => absurd (((kd_nO (k := 10) hq_164 hm_122 hk_123)).symm.trans ((congrArg (hK _) e9).trans (kd_nO' (k := 10)))) (by decide)) q9) (rd_nOR (k := 10) hq_164 hm_122 hv_160)
  have hv_220 : hR S_176 904 h = (some q_115) := hf_178.fr (mem_old hm_122) (fun q9 => (fun e9 => absurd (((kd_nO (k := 10) hq_164 hm_122 hk_123)).symm.trans ((congrArg (hK _) e9).trans (kd_nO' (k := 10)))) (by decide)) q9) (rd_nOR (k := 10) hq_164 hm_122 hv_161)
  have hf_221 : Fm (fun _ _ => False) (fun f9 b9 => b9 = h) (fun _ => False) S S_176 := hf_166.then hf_178 (fun a9 ha9 => ⟨(fun f9 h9 => (fun h9 => h9.elim (fun h8 => absurd (h8.2 ▸ ha9) hz_165) (fun h8 => absurd (h8.2 ▸ ha9) hz_165)) h9), (fun f9 h9 => (fun h8 => absurd (h8 ▸ ha9) hz_165) h9), (fun h9 => h9.elim)⟩)
  have hz_222 : q_167 ∉ hL S := fun h9 => e_170 (hf_166.mem h9)
  refine j_putrF (f := 905) C hm9 flX9_39o (by decide) rfl rfl dX9_init_54 hm_183 hk_184 rfl ?_
  refine j_aload_n C dX9_init_57 rfl 0 rfl ?_
  have hf_225 : Fm (fun _ _ => False) (fun f9 b9 => b9 = h) (fun _ => False) S (sR S_176 905 h (some q_163)) := (hf_221.sR _ (fun _ => rfl))
  refine j_new (N := 1) C (ci := 8) rfl rfl klX9_25 knX8 kiX8 (M.cells (by decide)) (M.slots (by decide)) dX9_init_58 (fun q_223 hq_224 => ?_)
  have hz_226 : q_223 ∉ hL S := fun h9 => hq_224 (hf_225.mem h9)
  refine j_dup C dX9_init_61 rfl ?_
  have hf_227 : Fm (fun _ _ => False) (fun f9 b9 => b9 = h) (fun _ => False) S (nO (sR S_176 905 h (some q_163)) q_223 8) := (hf_225.nO _ hq_224)
  refine j_callI C [] [.ref q_223, .ref h] mlX9_27 mcX8_init (c_X8_init (nO (sR S_176 905 h (some q_163)) q_223 8) q_223 mem_new (kd_nO' (k := 8))) (M.rm (by decide) (by decide) (Nat.le_of_ble_eq_true rfl) (Nat.le_of_ble_eq_true rfl)) rfl rfl (Nat.le_of_ble_eq_true rfl) dX9_init_62 (fun r_235 S_236 hp_237 => ?_)
  obtain ⟨rfl, hf_238, q_228, e_229, e_230, e_231, e_232, e_233, e_234⟩ := hp_237
  refine J.eq (st' := [.ref q_223, .ref h]) rfl rfl rfl ?_
  have hz_239 : ∀ j, aI S_236 q_115 j = 0 := fun j9 => (hf_238.ai (mem_old hm_187) (fun h9 => h9) j9).trans (hz_179 j9)
  have hz_240 : ∀ j, aI S_236 q_32 j = 0 := fun j9 => (hf_238.ai (mem_old hm_196) (fun h9 => h9) j9).trans (hz_180 j9)
  have hz_241 : ∀ j, aI S_236 q_5 j = 0 := fun j9 => (hf_238.ai (mem_old hm_199) (fun h9 => h9) j9).trans (hz_181 j9)
  have hz_242 : ∀ j, aI S_236 q_73 j = 0 := fun j9 => (hf_238.ai (mem_old hm_204) (fun h9 => h9) j9).trans (hz_182 j9)
  have hm_243 : h ∈ hL S_236 := hf_238.mem (mem_old hm_183)
  have hk_244 : Kd S_236 h 9 := hf_238.kd (mem_old hm_183) (kd_nO (k := 8) hq_224 hm_183 hk_184)
  have hm_245 : q_1 ∈ hL S_236 := hf_238.mem (mem_old hm_185)
  have hk_246 : Kd S_236 q_1 0 := hf_238.kd (mem_old hm_185) (kd_nO (k := 8) hq_224 hm_185 hk_186)
  have hm_247 : q_115 ∈ hL S_236 := hf_238.mem (mem_old hm_187)
  have hk_248 : Kd S_236 q_115 20 := hf_238.kd (mem_old hm_187) (kd_nO (k := 8) hq_224 hm_187 hk_188)
  have hn_249 : Ln S_236 q_115 16 := hf_238.ln (mem_old hm_187) hn_189
  have hm_250 : q_163 ∈ hL S_236 := hf_238.mem (mem_old hm_190)
  have hk_251 : Kd S_236 q_163 10 := hf_238.kd (mem_old hm_190) (kd_nO (k := 8) hq_224 hm_190 hk_191)
  have hm_252 : q_167 ∈ hL S_236 := hf_238.mem (mem_old e_171)
  have hk_253 : Kd S_236 q_167 15 := hf_238.kd (mem_old e_171) (kd_nO (k := 8) hq_224 e_171 e_172)
  have hn_254 : Ln S_236 q_167 16 := hf_238.ln (mem_old e_171) e_173
  have hm_255 : q_223 ∈ hL S_236 := hf_238.mem mem_new
  have hk_256 : Kd S_236 q_223 8 := hf_238.kd mem_new (kd_nO' (k := 8))
  have hm_257 : q_26 ∈ hL S_236 := hf_238.mem (mem_old hm_192)
  have hk_258 : Kd S_236 q_26 2 := hf_238.kd (mem_old hm_192) (kd_nO (k := 8) hq_224 hm_192 hk_193)
  have hm_259 : q_31 ∈ hL S_236 := hf_238.mem (mem_old hm_194)
  have hk_260 : Kd S_236 q_31 8 := hf_238.kd (mem_old hm_194) (kd_nO (k := 8) hq_224 hm_194 hk_195)
  have hm_261 : q_32 ∈ hL S_236 := hf_238.mem (mem_old hm_196)
  have hk_262 : Kd S_236 q_32 14 := hf_238.kd (mem_old hm_196) (kd_nO (k := 8) hq_224 hm_196 hk_197)
  have hn_263 : Ln S_236 q_32 16 := hf_238.ln (mem_old hm_196) hn_198
  have hm_264 : q_5 ∈ hL S_236 := hf_238.mem (mem_old hm_199)
  have hk_265 : Kd S_236 q_5 14 := hf_238.kd (mem_old hm_199) (kd_nO (k := 8) hq_224 hm_199 hk_200)
  have hn_266 : Ln S_236 q_5 20000 := hf_238.ln (mem_old hm_199) hn_201
  have hm_267 : q_68 ∈ hL S_236 := hf_238.mem (mem_old hm_202)
  have hk_268 : Kd S_236 q_68 8 := hf_238.kd (mem_old hm_202) (kd_nO (k := 8) hq_224 hm_202 hk_203)
  have hm_269 : q_73 ∈ hL S_236 := hf_238.mem (mem_old hm_204)
  have hk_270 : Kd S_236 q_73 14 := hf_238.kd (mem_old hm_204) (kd_nO (k := 8) hq_224 hm_204 hk_205)
  have hn_271 : Ln S_236 q_73 16 := hf_238.ln (mem_old hm_204) hn_206
  have hv_272 : hI S_236 1000 q_163 = 1 := hf_238.fi (mem_old hm_190) (fun h9 => h9) (rd_nOI (k := 8) hq_224 hm_190 e_168)
  have hv_273 : hI S_236 1001 q_163 = 1 := hf_238.fi (mem_old hm_190) (fun h9 => h9) (rd_nOI (k := 8) hq_224 hm_190 e_169)
  have hv_274 : hI S_236 2 q_1 = 0 := hf_238.fi (mem_old hm_185) (fun h9 => h9) (rd_nOI (k := 8) hq_224 hm_185 hv_207)
  have hv_275 : hI S_236 206 q_26 = 0 := hf_238.fi (mem_old hm_192) (fun h9 => h9) (rd_nOI (k := 8) hq_224 hm_192 hv_208)
  have hv_276 : hI S_236 209 q_26 = 0 := hf_238.fi (mem_old hm_192) (fun h9 => h9) (rd_nOI (k := 8) hq_224 hm_192 hv_209)
  have hv_277 : hI S_236 3 q_1 = 0 := hf_238.fi (mem_old hm_185) (fun h9 => h9) (rd_nOI (k := 8) hq_224 hm_185 hv_210)
  have hv_278 : hI S_236 4 q_1 = 0 := hf_238.fi (mem_old hm_185) (fun h9 => h9) (rd_nOI (k := 8) hq_224 hm_185 hv_211)
  have hv_279 : hI S_236 5 q_1 = 0 := hf_238.fi (mem_old hm_185) (fun h9 => h9) (rd_nOI (k := 8) hq_224 hm_185 hv_212)
  have hv_280 : hR S_236 0 q_1 = (some q_5) := hf_238.fr (mem_old hm_185) (fun q9 => (fun e9 => absurd (((kd_nO (k := 8) hq_224 hm_185 hk_186)).symm.trans ((congrArg (hK _) e9).trans (kd_nO' (k := 8)))) (by decide)) q9) (rd_nOR (k := 8) hq_224 hm_185 (rd_sRf (S := S_176) (g := 905) (a := h) (v := (some q_163)) (by decide) hv_213))
  have hv_281 : hR S_236 1003 q_163 = (some q_167) := hf_238.fr (mem_old hm_190) (fun q9 => (fun e9 => absurd (((kd_nO (k := 8) hq_224 hm_190 hk_191)).symm.trans ((congrArg (hK _) e9).trans (kd_nO' (k := 8)))) (by decide)) q9) (rd_nOR (k := 8) hq_224 hm_190 (rd_sRf (S := S_176) (g := 905) (a := h) (v := (some q_163)) (by decide) e_174))
  have hv_282 : hR S_236 200 q_26 = (some q_31) := hf_238.fr (mem_old hm_192) (fun q9 => (fun e9 => absurd (((kd_nO (k := 8) hq_224 hm_192 hk_193)).symm.trans ((congrArg (hK _) e9).trans (kd_nO' (k := 8)))) (by decide)) q9) (rd_nOR (k := 8) hq_224 hm_192 (rd_sRf (S := S_176) (g := 905) (a := h) (v := (some q_163)) (by decide) hv_214))
  have hv_283 : hR S_236 800 q_31 = (some q_32) := hf_238.fr (mem_old hm_194) (fun q9 => (ne_of_nin hq_224 hm_194) q9) (rd_nOR (k := 8) hq_224 hm_194 (rd_sRf (S := S_176) (g := 905) (a := h) (v := (some q_163)) (by decide) hv_215))
  have hv_284 : hR S_236 800 q_68 = (some q_73) := hf_238.fr (mem_old hm_202) (fun q9 => (ne_of_nin hq_224 hm_202) q9) (rd_nOR (k := 8) hq_224 hm_202 (rd_sRf (S := S_176) (g := 905) (a := h) (v := (some q_163)) (by decide) hv_216))
  have hv_285 : hR S_236 901 h = (some q_1) := hf_238.fr (mem_old hm_183) (fun q9 => (fun e9 => absurd (((kd_nO (k := 8) hq_224 hm_183 hk_184)).symm.trans ((congrArg (hK _) e9).trans (kd_nO' (k := 8)))) (by decide)) q9) (rd_nOR (k := 8) hq_224 hm_183 (rd_sRf (S := S_176) (g := 905) (a := h) (v := (some q_163)) (by decide) hv_217))
  have hv_286 : hR S_236 902 h = (some q_26) := hf_238.fr (mem_old hm_183) (fun q9 => (fun e9 => absurd (((kd_nO (k := 8) hq_224 hm_183 hk_184)).symm.trans ((congrArg (hK _) e9).trans (kd_nO' (k := 8)))) (by decide)) q9) (rd_nOR (k := 8) hq_224 hm_183 (rd_sRf (S := S_176) (g := 905) (a := h) (v := (some q_163)) (by decide) hv_218))
  have hv_287 : hR S_236 903 h = (some q_68) := hf_238.fr (mem_old hm_183) (fun q9 => (fun e9 => absurd (((kd_nO (k := 8) hq_224 hm_183 hk_184)).symm.trans ((congrArg (hK _) e9).trans (kd_nO' (k := 8)))) (by decide)) q9) (rd_nOR (k := 8) hq_224 hm_183 (rd_sRf (S := S_176) (g := 905) (a := h) (v := (some q_163)) (by decide) hv_219))
  have hv_288 : hR S_236 904 h = (some q_115) := hf_238.fr (mem_old hm_183) (fun q9 => (fun e9 => absurd (((kd_nO (k := 8) hq_224 hm_183 hk_184)).symm.trans ((congrArg (hK _) e9).trans (kd_nO' (k := 8)))) (by decide)) q9) (rd_nOR (k := 8) hq_224 hm_183 (rd_sRf (S := S_176) (g := 905) (a := h) (v := (some q_163)) (by decide) hv_220))
  have hv_289 : hR S_236 905 h = (some q_163) := hf_238.fr (mem_old hm_183) (fun q9 => (fun e9 => absurd (((kd_nO (k := 8) hq_224 hm_183 hk_184)).symm.trans ((congrArg (hK _) e9).trans (kd_nO' (k := 8)))) (by decide)) q9) (rd_nOR (k := 8) hq_224 hm_183 (rd_sR (S := S_176) (g := 905) (a := h) (v := (some q_163))))
  have hf_290 : Fm (fun _ _ => False) (fun f9 b9 => b9 = h) (fun _ => False) S S_236 := hf_227.then hf_238 (fun a9 ha9 => ⟨(fun f9 h9 => h9.elim), (fun f9 h9 => (fun h8 => absurd (h8 ▸ ha9) hz_226) h9), (fun h9 => h9.elim)⟩)
  have hz_291 : q_228 ∉ hL S := fun h9 => e_229 (hf_227.mem h9)
  refine j_putrF (f := 906) C hm9 flX9_43o (by decide) rfl rfl dX9_init_65 hm_243 hk_244 rfl ?_
  refine j_aload_n C dX9_init_68 rfl 0 rfl ?_
  show J _ _ _ _ _ 69 _
  refine j_sipush (v := 24000) C dX9_init_69 (by decide) ?_
  have hf_294 : Fm (fun _ _ => False) (fun f9 b9 => b9 = h) (fun _ => False) S (sR S_236 906 h (some q_223)) := (hf_290.sR _ (fun _ => rfl))
  refine j_newB (N := 24000) C ka_byte (by decide) (by decide) (Nat.le_of_ble_eq_true rfl) (M.cells (by decide)) (M.slots (Nat.le_of_ble_eq_true rfl)) dX9_init_72 (fun q_292 hq_293 => ?_)
  have hz_295 : q_292 ∉ hL S := fun h9 => hq_293 (hf_294.mem h9)
  refine j_putrF (f := 907) C hm9 flX9_46o (by decide) rfl rfl dX9_init_74 (mem_old hm_243) (kd_nA (k := 13) (n := 24000) hq_293 hm_243 hk_244) rfl ?_
  refine j_aload_n C dX9_init_77 rfl 0 rfl ?_
  refine j_bipush (v := 16) C dX9_init_78 (by decide) ?_
  have hf_298 : Fm (fun _ _ => False) (fun f9 b9 => b9 = h) (fun _ => False) S (sR (nA (sR S_236 906 h (some q_223)) q_292 13 24000) 907 h (some q_292)) := ((hf_294.nA _ _ hq_293).sR _ (fun _ => rfl))
  obtain ⟨S_296, eS_297⟩ : ∃ S9 : Hp, S9 = (sR (nA (sR S_236 906 h (some q_223)) q_292 13 24000) 907 h (some q_292)) := ⟨_, rfl⟩
  refine J.eq (S' := S_296) eS_297.symm rfl rfl ?_
  have hm_299 : h ∈ hL S_296 := by rw [eS_297]; exact (mem_old hm_243)
  have hk_300 : Kd S_296 h 9 := by rw [eS_297]; exact (kd_nA (k := 13) (n := 24000) hq_293 hm_243 hk_244)
  have hm_301 : q_1 ∈ hL S_296 := by rw [eS_297]; exact (mem_old hm_245)
  have hk_302 : Kd S_296 q_1 0 := by rw [eS_297]; exact (kd_nA (k := 13) (n := 24000) hq_293 hm_245 hk_246)
  have hm_303 : q_115 ∈ hL S_296 := by rw [eS_297]; exact (mem_old hm_247)
  have hk_304 : Kd S_296 q_115 20 := by rw [eS_297]; exact (kd_nA (k := 13) (n := 24000) hq_293 hm_247 hk_248)
  have hn_305 : Ln S_296 q_115 16 := by rw [eS_297]; exact (ln_nA (k := 13) hq_293 hm_247 hn_249)
  have hz_306 : ∀ j, aI S_296 q_115 j = 0 := by rw [eS_297]; exact (fun j9 => rd_nAI (k := 13) (n := 24000) hq_293 hm_247 (hz_239 j9))
  have hm_307 : q_163 ∈ hL S_296 := by rw [eS_297]; exact (mem_old hm_250)
  have hk_308 : Kd S_296 q_163 10 := by rw [eS_297]; exact (kd_nA (k := 13) (n := 24000) hq_293 hm_250 hk_251)
  have hm_309 : q_167 ∈ hL S_296 := by rw [eS_297]; exact (mem_old hm_252)
  have hk_310 : Kd S_296 q_167 15 := by rw [eS_297]; exact (kd_nA (k := 13) (n := 24000) hq_293 hm_252 hk_253)
  have hn_311 : Ln S_296 q_167 16 := by rw [eS_297]; exact (ln_nA (k := 13) hq_293 hm_252 hn_254)
  have hm_312 : q_223 ∈ hL S_296 := by rw [eS_297]; exact (mem_old hm_255)
  have hk_313 : Kd S_296 q_223 8 := by rw [eS_297]; exact (kd_nA (k := 13) (n := 24000) hq_293 hm_255 hk_256)
  have hm_314 : q_228 ∈ hL S_296 := by rw [eS_297]; exact (mem_old e_230)
  have hk_315 : Kd S_296 q_228 14 := by rw [eS_297]; exact (kd_nA (k := 13) (n := 24000) hq_293 e_230 e_231)
  have hn_316 : Ln S_296 q_228 16 := by rw [eS_297]; exact (ln_nA (k := 13) hq_293 e_230 e_232)
  have hz_317 : ∀ j, aI S_296 q_228 j = 0 := by rw [eS_297]; exact (fun j9 => rd_nAI (k := 13) (n := 24000) hq_293 e_230 (e_234 j9))
  have hm_318 : q_26 ∈ hL S_296 := by rw [eS_297]; exact (mem_old hm_257)
  have hk_319 : Kd S_296 q_26 2 := by rw [eS_297]; exact (kd_nA (k := 13) (n := 24000) hq_293 hm_257 hk_258)
  have hm_320 : q_292 ∈ hL S_296 := by rw [eS_297]; exact mem_new
  have hk_321 : Kd S_296 q_292 13 := by rw [eS_297]; exact (kd_nA' (k := 13) (n := 24000))
  have hn_322 : Ln S_296 q_292 24000 := by rw [eS_297]; exact (ln_nA' (k := 13))
  have hz_323 : ∀ j, aI S_296 q_292 j = 0 := by rw [eS_297]; exact (fun j9 => rd_nAI' (k := 13) (n := 24000))
  have hm_324 : q_31 ∈ hL S_296 := by rw [eS_297]; exact (mem_old hm_259)
  have hk_325 : Kd S_296 q_31 8 := by rw [eS_297]; exact (kd_nA (k := 13) (n := 24000) hq_293 hm_259 hk_260)
  have hm_326 : q_32 ∈ hL S_296 := by rw [eS_297]; exact (mem_old hm_261)
  have hk_327 : Kd S_296 q_32 14 := by rw [eS_297]; exact (kd_nA (k := 13) (n := 24000) hq_293 hm_261 hk_262)
  have hn_328 : Ln S_296 q_32 16 := by rw [eS_297]; exact (ln_nA (k := 13) hq_293 hm_261 hn_263)
  have hz_329 : ∀ j, aI S_296 q_32 j = 0 := by rw [eS_297]; exact (fun j9 => rd_nAI (k := 13) (n := 24000) hq_293 hm_261 (hz_240 j9))
  have hm_330 : q_5 ∈ hL S_296 := by rw [eS_297]; exact (mem_old hm_264)
  have hk_331 : Kd S_296 q_5 14 := by rw [eS_297]; exact (kd_nA (k := 13) (n := 24000) hq_293 hm_264 hk_265)
  have hn_332 : Ln S_296 q_5 20000 := by rw [eS_297]; exact (ln_nA (k := 13) hq_293 hm_264 hn_266)
  have hz_333 : ∀ j, aI S_296 q_5 j = 0 := by rw [eS_297]; exact (fun j9 => rd_nAI (k := 13) (n := 24000) hq_293 hm_264 (hz_241 j9))
  have hm_334 : q_68 ∈ hL S_296 := by rw [eS_297]; exact (mem_old hm_267)
  have hk_335 : Kd S_296 q_68 8 := by rw [eS_297]; exact (kd_nA (k := 13) (n := 24000) hq_293 hm_267 hk_268)
  have hm_336 : q_73 ∈ hL S_296 := by rw [eS_297]; exact (mem_old hm_269)
  have hk_337 : Kd S_296 q_73 14 := by rw [eS_297]; exact (kd_nA (k := 13) (n := 24000) hq_293 hm_269 hk_270)
  have hn_338 : Ln S_296 q_73 16 := by rw [eS_297]; exact (ln_nA (k := 13) hq_293 hm_269 hn_271)
  have hz_339 : ∀ j, aI S_296 q_73 j = 0 := by rw [eS_297]; exact (fun j9 => rd_nAI (k := 13) (n := 24000) hq_293 hm_269 (hz_242 j9))
  have hv_340 : hI S_296 1000 q_163 = 1 := by rw [eS_297]; exact hv_272
  have hv_341 : hI S_296 1001 q_163 = 1 := by rw [eS_297]; exact hv_273
  have hv_342 : hI S_296 2 q_1 = 0 := by rw [eS_297]; exact hv_274
  have hv_343 : hI S_296 206 q_26 = 0 := by rw [eS_297]; exact hv_275
  have hv_344 : hI S_296 209 q_26 = 0 := by rw [eS_297]; exact hv_276
  have hv_345 : hI S_296 3 q_1 = 0 := by rw [eS_297]; exact hv_277
  have hv_346 : hI S_296 4 q_1 = 0 := by rw [eS_297]; exact hv_278
  have hv_347 : hI S_296 5 q_1 = 0 := by rw [eS_297]; exact hv_279
  have hv_348 : hR S_296 0 q_1 = (some q_5) := by rw [eS_297]; exact (rd_sRf (S := (nA (sR S_236 906 h (some q_223)) q_292 13 24000)) (g := 907) (a := h) (v := (some q_292)) (by decide) (rd_sRf (S := S_236) (g := 906) (a := h) (v := (some q_223)) (by decide) hv_280))
  have hv_349 : hR S_296 1003 q_163 = (some q_167) := by rw [eS_297]; exact (rd_sRf (S := (nA (sR S_236 906 h (some q_223)) q_292 13 24000)) (g := 907) (a := h) (v := (some q_292)) (by decide) (rd_sRf (S := S_236) (g := 906) (a := h) (v := (some q_223)) (by decide) hv_281))
  have hv_350 : hR S_296 200 q_26 = (some q_31) := by rw [eS_297]; exact (rd_sRf (S := (nA (sR S_236 906 h (some q_223)) q_292 13 24000)) (g := 907) (a := h) (v := (some q_292)) (by decide) (rd_sRf (S := S_236) (g := 906) (a := h) (v := (some q_223)) (by decide) hv_282))
  have hv_351 : hR S_296 800 q_223 = (some q_228) := by rw [eS_297]; exact (rd_sRf (S := (nA (sR S_236 906 h (some q_223)) q_292 13 24000)) (g := 907) (a := h) (v := (some q_292)) (by decide) (rd_sRf (S := S_236) (g := 906) (a := h) (v := (some q_223)) (by decide) e_233))
  have hv_352 : hR S_296 800 q_31 = (some q_32) := by rw [eS_297]; exact (rd_sRf (S := (nA (sR S_236 906 h (some q_223)) q_292 13 24000)) (g := 907) (a := h) (v := (some q_292)) (by decide) (rd_sRf (S := S_236) (g := 906) (a := h) (v := (some q_223)) (by decide) hv_283))
  have hv_353 : hR S_296 800 q_68 = (some q_73) := by rw [eS_297]; exact (rd_sRf (S := (nA (sR S_236 906 h (some q_223)) q_292 13 24000)) (g := 907) (a := h) (v := (some q_292)) (by decide) (rd_sRf (S := S_236) (g := 906) (a := h) (v := (some q_223)) (by decide) hv_284))
  have hv_354 : hR S_296 901 h = (some q_1) := by rw [eS_297]; exact (rd_sRf (S := (nA (sR S_236 906 h (some q_223)) q_292 13 24000)) (g := 907) (a := h) (v := (some q_292)) (by decide) (rd_sRf (S := S_236) (g := 906) (a := h) (v := (some q_223)) (by decide) hv_285))
  have hv_355 : hR S_296 902 h = (some q_26) := by rw [eS_297]; exact (rd_sRf (S := (nA (sR S_236 906 h (some q_223)) q_292 13 24000)) (g := 907) (a := h) (v := (some q_292)) (by decide) (rd_sRf (S := S_236) (g := 906) (a := h) (v := (some q_223)) (by decide) hv_286))
  have hv_356 : hR S_296 903 h = (some q_68) := by rw [eS_297]; exact (rd_sRf (S := (nA (sR S_236 906 h (some q_223)) q_292 13 24000)) (g := 907) (a := h) (v := (some q_292)) (by decide) (rd_sRf (S := S_236) (g := 906) (a := h) (v := (some q_223)) (by decide) hv_287))
  have hv_357 : hR S_296 904 h = (some q_115) := by rw [eS_297]; exact (rd_sRf (S := (nA (sR S_236 906 h (some q_223)) q_292 13 24000)) (g := 907) (a := h) (v := (some q_292)) (by decide) (rd_sRf (S := S_236) (g := 906) (a := h) (v := (some q_223)) (by decide) hv_288))
  have hv_358 : hR S_296 905 h = (some q_163) := by rw [eS_297]; exact (rd_sRf (S := (nA (sR S_236 906 h (some q_223)) q_292 13 24000)) (g := 907) (a := h) (v := (some q_292)) (by decide) (rd_sRf (S := S_236) (g := 906) (a := h) (v := (some q_223)) (by decide) hv_289))
  have hv_359 : hR S_296 906 h = (some q_223) := by rw [eS_297]; exact (rd_sRf (S := (nA (sR S_236 906 h (some q_223)) q_292 13 24000)) (g := 907) (a := h) (v := (some q_292)) (by decide) (rd_sR (S := S_236) (g := 906) (a := h) (v := (some q_223))))
  have hv_360 : hR S_296 907 h = (some q_292) := by rw [eS_297]; exact (rd_sR (S := (nA (sR S_236 906 h (some q_223)) q_292 13 24000)) (g := 907) (a := h) (v := (some q_292)))
  have hf_361 : Fm (fun _ _ => False) (fun f9 b9 => b9 = h) (fun _ => False) S S_296 := by rw [eS_297]; exact hf_298
  refine j_newI (N := 16) C ka_int (by decide) (by decide) (Nat.le_of_ble_eq_true rfl) (M.cells (by decide)) (M.slots (Nat.le_of_ble_eq_true rfl)) dX9_init_80 (fun q_362 hq_363 => ?_)
  have hz_364 : q_362 ∉ hL S := fun h9 => hq_363 (hf_361.mem h9)
  refine j_putrF (f := 908) C hm9 flX9_50o (by decide) rfl rfl dX9_init_82 (mem_old hm_299) (kd_nA (k := 14) (n := 16) hq_363 hm_299 hk_300) rfl ?_
  refine j_aload_n C dX9_init_85 rfl 0 rfl ?_
  show J _ _ _ _ _ 86 _
  have hf_367 : Fm (fun _ _ => False) (fun f9 b9 => b9 = h) (fun _ => False) S (sR (nA S_296 q_362 14 16) 908 h (some q_362)) := ((hf_361.nA _ _ hq_363).sR _ (fun _ => rfl))
  obtain ⟨S_365, eS_366⟩ : ∃ S9 : Hp, S9 = (sR (nA S_296 q_362 14 16) 908 h (some q_362)) := ⟨_, rfl⟩
  refine J.eq (S' := S_365) eS_366.symm rfl rfl ?_
  have hm_368 : h ∈ hL S_365 := by rw [eS_366]; exact (mem_old hm_299)
  have hk_369 : Kd S_365 h 9 := by rw [eS_366]; exact (kd_nA (k := 14) (n := 16) hq_363 hm_299 hk_300)
  have hm_370 : q_1 ∈ hL S_365 := by rw [eS_366]; exact (mem_old hm_301)
  have hk_371 : Kd S_365 q_1 0 := by rw [eS_366]; exact (kd_nA (k := 14) (n := 16) hq_363 hm_301 hk_302)
  have hm_372 : q_115 ∈ hL S_365 := by rw [eS_366]; exact (mem_old hm_303)
  have hk_373 : Kd S_365 q_115 20 := by rw [eS_366]; exact (kd_nA (k := 14) (n := 16) hq_363 hm_303 hk_304)
  have hn_374 : Ln S_365 q_115 16 := by rw [eS_366]; exact (ln_nA (k := 14) hq_363 hm_303 hn_305)
  have hz_375 : ∀ j, aI S_365 q_115 j = 0 := by rw [eS_366]; exact (fun j9 => rd_nAI (k := 14) (n := 16) hq_363 hm_303 (hz_306 j9))
  have hm_376 : q_163 ∈ hL S_365 := by rw [eS_366]; exact (mem_old hm_307)
  have hk_377 : Kd S_365 q_163 10 := by rw [eS_366]; exact (kd_nA (k := 14) (n := 16) hq_363 hm_307 hk_308)
  have hm_378 : q_167 ∈ hL S_365 := by rw [eS_366]; exact (mem_old hm_309)
  have hk_379 : Kd S_365 q_167 15 := by rw [eS_366]; exact (kd_nA (k := 14) (n := 16) hq_363 hm_309 hk_310)
  have hn_380 : Ln S_365 q_167 16 := by rw [eS_366]; exact (ln_nA (k := 14) hq_363 hm_309 hn_311)
  have hm_381 : q_223 ∈ hL S_365 := by rw [eS_366]; exact (mem_old hm_312)
  have hk_382 : Kd S_365 q_223 8 := by rw [eS_366]; exact (kd_nA (k := 14) (n := 16) hq_363 hm_312 hk_313)
  have hm_383 : q_228 ∈ hL S_365 := by rw [eS_366]; exact (mem_old hm_314)
  have hk_384 : Kd S_365 q_228 14 := by rw [eS_366]; exact (kd_nA (k := 14) (n := 16) hq_363 hm_314 hk_315)
  have hn_385 : Ln S_365 q_228 16 := by rw [eS_366]; exact (ln_nA (k := 14) hq_363 hm_314 hn_316)
  have hz_386 : ∀ j, aI S_365 q_228 j = 0 := by rw [eS_366]; exact (fun j9 => rd_nAI (k := 14) (n := 16) hq_363 hm_314 (hz_317 j9))
  have hm_387 : q_26 ∈ hL S_365 := by rw [eS_366]; exact (mem_old hm_318)
  have hk_388 : Kd S_365 q_26 2 := by rw [eS_366]; exact (kd_nA (k := 14) (n := 16) hq_363 hm_318 hk_319)
  have hm_389 : q_292 ∈ hL S_365 := by rw [eS_366]; exact (mem_old hm_320)
  have hk_390 : Kd S_365 q_292 13 := by rw [eS_366]; exact (kd_nA (k := 14) (n := 16) hq_363 hm_320 hk_321)
  have hn_391 : Ln S_365 q_292 24000 := by rw [eS_366]; exact (ln_nA (k := 14) hq_363 hm_320 hn_322)
  have hz_392 : ∀ j, aI S_365 q_292 j = 0 := by rw [eS_366]; exact (fun j9 => rd_nAI (k := 14) (n := 16) hq_363 hm_320 (hz_323 j9))
  have hm_393 : q_31 ∈ hL S_365 := by rw [eS_366]; exact (mem_old hm_324)
  have hk_394 : Kd S_365 q_31 8 := by rw [eS_366]; exact (kd_nA (k := 14) (n := 16) hq_363 hm_324 hk_325)
  have hm_395 : q_32 ∈ hL S_365 := by rw [eS_366]; exact (mem_old hm_326)
  have hk_396 : Kd S_365 q_32 14 := by rw [eS_366]; exact (kd_nA (k := 14) (n := 16) hq_363 hm_326 hk_327)
  have hn_397 : Ln S_365 q_32 16 := by rw [eS_366]; exact (ln_nA (k := 14) hq_363 hm_326 hn_328)
  have hz_398 : ∀ j, aI S_365 q_32 j = 0 := by rw [eS_366]; exact (fun j9 => rd_nAI (k := 14) (n := 16) hq_363 hm_326 (hz_329 j9))
  have hm_399 : q_362 ∈ hL S_365 := by rw [eS_366]; exact mem_new
  have hk_400 : Kd S_365 q_362 14 := by rw [eS_366]; exact (kd_nA' (k := 14) (n := 16))
  have hn_401 : Ln S_365 q_362 16 := by rw [eS_366]; exact (ln_nA' (k := 14))
  have hz_402 : ∀ j, aI S_365 q_362 j = 0 := by rw [eS_366]; exact (fun j9 => rd_nAI' (k := 14) (n := 16))
  have hm_403 : q_5 ∈ hL S_365 := by rw [eS_366]; exact (mem_old hm_330)
  have hk_404 : Kd S_365 q_5 14 := by rw [eS_366]; exact (kd_nA (k := 14) (n := 16) hq_363 hm_330 hk_331)
  have hn_405 : Ln S_365 q_5 20000 := by rw [eS_366]; exact (ln_nA (k := 14) hq_363 hm_330 hn_332)
  have hz_406 : ∀ j, aI S_365 q_5 j = 0 := by rw [eS_366]; exact (fun j9 => rd_nAI (k := 14) (n := 16) hq_363 hm_330 (hz_333 j9))
  have hm_407 : q_68 ∈ hL S_365 := by rw [eS_366]; exact (mem_old hm_334)
  have hk_408 : Kd S_365 q_68 8 := by rw [eS_366]; exact (kd_nA (k := 14) (n := 16) hq_363 hm_334 hk_335)
  have hm_409 : q_73 ∈ hL S_365 := by rw [eS_366]; exact (mem_old hm_336)
  have hk_410 : Kd S_365 q_73 14 := by rw [eS_366]; exact (kd_nA (k := 14) (n := 16) hq_363 hm_336 hk_337)
  have hn_411 : Ln S_365 q_73 16 := by rw [eS_366]; exact (ln_nA (k := 14) hq_363 hm_336 hn_338)
  have hz_412 : ∀ j, aI S_365 q_73 j = 0 := by rw [eS_366]; exact (fun j9 => rd_nAI (k := 14) (n := 16) hq_363 hm_336 (hz_339 j9))
  have hv_413 : hI S_365 1000 q_163 = 1 := by rw [eS_366]; exact hv_340
  have hv_414 : hI S_365 1001 q_163 = 1 := by rw [eS_366]; exact hv_341
  have hv_415 : hI S_365 2 q_1 = 0 := by rw [eS_366]; exact hv_342
  have hv_416 : hI S_365 206 q_26 = 0 := by rw [eS_366]; exact hv_343
  have hv_417 : hI S_365 209 q_26 = 0 := by rw [eS_366]; exact hv_344
  have hv_418 : hI S_365 3 q_1 = 0 := by rw [eS_366]; exact hv_345
  have hv_419 : hI S_365 4 q_1 = 0 := by rw [eS_366]; exact hv_346
  have hv_420 : hI S_365 5 q_1 = 0 := by rw [eS_366]; exact hv_347
  have hv_421 : hR S_365 0 q_1 = (some q_5) := by rw [eS_366]; exact (rd_sRf (S := (nA S_296 q_362 14 16)) (g := 908) (a := h) (v := (some q_362)) (by decide) hv_348)
  have hv_422 : hR S_365 1003 q_163 = (some q_167) := by rw [eS_366]; exact (rd_sRf (S := (nA S_296 q_362 14 16)) (g := 908) (a := h) (v := (some q_362)) (by decide) hv_349)
  have hv_423 : hR S_365 200 q_26 = (some q_31) := by rw [eS_366]; exact (rd_sRf (S := (nA S_296 q_362 14 16)) (g := 908) (a := h) (v := (some q_362)) (by decide) hv_350)
  have hv_424 : hR S_365 800 q_223 = (some q_228) := by rw [eS_366]; exact (rd_sRf (S := (nA S_296 q_362 14 16)) (g := 908) (a := h) (v := (some q_362)) (by decide) hv_351)
  have hv_425 : hR S_365 800 q_31 = (some q_32) := by rw [eS_366]; exact (rd_sRf (S := (nA S_296 q_362 14 16)) (g := 908) (a := h) (v := (some q_362)) (by decide) hv_352)
  have hv_426 : hR S_365 800 q_68 = (some q_73) := by rw [eS_366]; exact (rd_sRf (S := (nA S_296 q_362 14 16)) (g := 908) (a := h) (v := (some q_362)) (by decide) hv_353)
  have hv_427 : hR S_365 901 h = (some q_1) := by rw [eS_366]; exact (rd_sRf (S := (nA S_296 q_362 14 16)) (g := 908) (a := h) (v := (some q_362)) (by decide) hv_354)
  have hv_428 : hR S_365 902 h = (some q_26) := by rw [eS_366]; exact (rd_sRf (S := (nA S_296 q_362 14 16)) (g := 908) (a := h) (v := (some q_362)) (by decide) hv_355)
  have hv_429 : hR S_365 903 h = (some q_68) := by rw [eS_366]; exact (rd_sRf (S := (nA S_296 q_362 14 16)) (g := 908) (a := h) (v := (some q_362)) (by decide) hv_356)
  have hv_430 : hR S_365 904 h = (some q_115) := by rw [eS_366]; exact (rd_sRf (S := (nA S_296 q_362 14 16)) (g := 908) (a := h) (v := (some q_362)) (by decide) hv_357)
  have hv_431 : hR S_365 905 h = (some q_163) := by rw [eS_366]; exact (rd_sRf (S := (nA S_296 q_362 14 16)) (g := 908) (a := h) (v := (some q_362)) (by decide) hv_358)
  have hv_432 : hR S_365 906 h = (some q_223) := by rw [eS_366]; exact (rd_sRf (S := (nA S_296 q_362 14 16)) (g := 908) (a := h) (v := (some q_362)) (by decide) hv_359)
  have hv_433 : hR S_365 907 h = (some q_292) := by rw [eS_366]; exact (rd_sRf (S := (nA S_296 q_362 14 16)) (g := 908) (a := h) (v := (some q_362)) (by decide) hv_360)
  have hv_434 : hR S_365 908 h = (some q_362) := by rw [eS_366]; exact (rd_sR (S := (nA S_296 q_362 14 16)) (g := 908) (a := h) (v := (some q_362)))
  have hf_435 : Fm (fun _ _ => False) (fun f9 b9 => b9 = h) (fun _ => False) S S_365 := by rw [eS_366]; exact hf_367
  refine j_new (N := 21) C (ci := 1) rfl rfl klX9_54 knX1 kiX1 (M.cells (by decide)) (M.slots (by decide)) dX9_init_86 (fun q_436 hq_437 => ?_)
  have hz_438 : q_436 ∉ hL S := fun h9 => hq_437 (hf_435.mem h9)
  refine j_dup C dX9_init_89 rfl ?_
  have hf_439 : Fm (fun _ _ => False) (fun f9 b9 => b9 = h) (fun _ => False) S (nO S_365 q_436 1) := (hf_435.nO _ hq_437)
  refine j_callI C [] [.ref q_436, .ref h] mlX9_56 mcX1_init (c_X1_init (nO S_365 q_436 1) q_436 mem_new (kd_nO' (k := 1))) (M.rm (by decide) (by decide) (Nat.le_of_ble_eq_true rfl) (Nat.le_of_ble_eq_true rfl)) rfl rfl (Nat.le_of_ble_eq_true rfl) dX9_init_90 (fun r_440 S_441 hp_442 => ?_)
  obtain ⟨rfl, hf_443⟩ := hp_442
  refine J.eq (st' := [.ref q_436, .ref h]) rfl rfl rfl ?_
  have hz_444 : ∀ j, aI S_441 q_115 j = 0 := fun j9 => (hf_443.ai (mem_old hm_372) (fun h9 => h9) j9).trans (hz_375 j9)
  have hz_445 : ∀ j, aI S_441 q_228 j = 0 := fun j9 => (hf_443.ai (mem_old hm_383) (fun h9 => h9) j9).trans (hz_386 j9)
  have hz_446 : ∀ j, aI S_441 q_292 j = 0 := fun j9 => (hf_443.ai (mem_old hm_389) (fun h9 => h9) j9).trans (hz_392 j9)
  have hz_447 : ∀ j, aI S_441 q_32 j = 0 := fun j9 => (hf_443.ai (mem_old hm_395) (fun h9 => h9) j9).trans (hz_398 j9)
  have hz_448 : ∀ j, aI S_441 q_362 j = 0 := fun j9 => (hf_443.ai (mem_old hm_399) (fun h9 => h9) j9).trans (hz_402 j9)
  have hz_449 : ∀ j, aI S_441 q_5 j = 0 := fun j9 => (hf_443.ai (mem_old hm_403) (fun h9 => h9) j9).trans (hz_406 j9)
  have hz_450 : ∀ j, aI S_441 q_73 j = 0 := fun j9 => (hf_443.ai (mem_old hm_409) (fun h9 => h9) j9).trans (hz_412 j9)
  have hm_451 : h ∈ hL S_441 := hf_443.mem (mem_old hm_368)
  have hk_452 : Kd S_441 h 9 := hf_443.kd (mem_old hm_368) (kd_nO (k := 1) hq_437 hm_368 hk_369)
  have hm_453 : q_1 ∈ hL S_441 := hf_443.mem (mem_old hm_370)
  have hk_454 : Kd S_441 q_1 0 := hf_443.kd (mem_old hm_370) (kd_nO (k := 1) hq_437 hm_370 hk_371)
  have hm_455 : q_115 ∈ hL S_441 := hf_443.mem (mem_old hm_372)
  have hk_456 : Kd S_441 q_115 20 := hf_443.kd (mem_old hm_372) (kd_nO (k := 1) hq_437 hm_372 hk_373)
  have hn_457 : Ln S_441 q_115 16 := hf_443.ln (mem_old hm_372) hn_374
  have hm_458 : q_163 ∈ hL S_441 := hf_443.mem (mem_old hm_376)
  have hk_459 : Kd S_441 q_163 10 := hf_443.kd (mem_old hm_376) (kd_nO (k := 1) hq_437 hm_376 hk_377)
  have hm_460 : q_167 ∈ hL S_441 := hf_443.mem (mem_old hm_378)
  have hk_461 : Kd S_441 q_167 15 := hf_443.kd (mem_old hm_378) (kd_nO (k := 1) hq_437 hm_378 hk_379)
  have hn_462 : Ln S_441 q_167 16 := hf_443.ln (mem_old hm_378) hn_380
  have hm_463 : q_223 ∈ hL S_441 := hf_443.mem (mem_old hm_381)
  have hk_464 : Kd S_441 q_223 8 := hf_443.kd (mem_old hm_381) (kd_nO (k := 1) hq_437 hm_381 hk_382)
  have hm_465 : q_228 ∈ hL S_441 := hf_443.mem (mem_old hm_383)
  have hk_466 : Kd S_441 q_228 14 := hf_443.kd (mem_old hm_383) (kd_nO (k := 1) hq_437 hm_383 hk_384)
  have hn_467 : Ln S_441 q_228 16 := hf_443.ln (mem_old hm_383) hn_385
  have hm_468 : q_26 ∈ hL S_441 := hf_443.mem (mem_old hm_387)
  have hk_469 : Kd S_441 q_26 2 := hf_443.kd (mem_old hm_387) (kd_nO (k := 1) hq_437 hm_387 hk_388)
  have hm_470 : q_292 ∈ hL S_441 := hf_443.mem (mem_old hm_389)
  have hk_471 : Kd S_441 q_292 13 := hf_443.kd (mem_old hm_389) (kd_nO (k := 1) hq_437 hm_389 hk_390)
  have hn_472 : Ln S_441 q_292 24000 := hf_443.ln (mem_old hm_389) hn_391
  have hm_473 : q_31 ∈ hL S_441 := hf_443.mem (mem_old hm_393)
  have hk_474 : Kd S_441 q_31 8 := hf_443.kd (mem_old hm_393) (kd_nO (k := 1) hq_437 hm_393 hk_394)
  have hm_475 : q_32 ∈ hL S_441 := hf_443.mem (mem_old hm_395)
  have hk_476 : Kd S_441 q_32 14 := hf_443.kd (mem_old hm_395) (kd_nO (k := 1) hq_437 hm_395 hk_396)
  have hn_477 : Ln S_441 q_32 16 := hf_443.ln (mem_old hm_395) hn_397
  have hm_478 : q_362 ∈ hL S_441 := hf_443.mem (mem_old hm_399)
  have hk_479 : Kd S_441 q_362 14 := hf_443.kd (mem_old hm_399) (kd_nO (k := 1) hq_437 hm_399 hk_400)
  have hn_480 : Ln S_441 q_362 16 := hf_443.ln (mem_old hm_399) hn_401
  have hm_481 : q_436 ∈ hL S_441 := hf_443.mem mem_new
  have hk_482 : Kd S_441 q_436 1 := hf_443.kd mem_new (kd_nO' (k := 1))
  have hm_483 : q_5 ∈ hL S_441 := hf_443.mem (mem_old hm_403)
  have hk_484 : Kd S_441 q_5 14 := hf_443.kd (mem_old hm_403) (kd_nO (k := 1) hq_437 hm_403 hk_404)
  have hn_485 : Ln S_441 q_5 20000 := hf_443.ln (mem_old hm_403) hn_405
  have hm_486 : q_68 ∈ hL S_441 := hf_443.mem (mem_old hm_407)
  have hk_487 : Kd S_441 q_68 8 := hf_443.kd (mem_old hm_407) (kd_nO (k := 1) hq_437 hm_407 hk_408)
  have hm_488 : q_73 ∈ hL S_441 := hf_443.mem (mem_old hm_409)
  have hk_489 : Kd S_441 q_73 14 := hf_443.kd (mem_old hm_409) (kd_nO (k := 1) hq_437 hm_409 hk_410)
  have hn_490 : Ln S_441 q_73 16 := hf_443.ln (mem_old hm_409) hn_411
  have hv_491 : hI S_441 1000 q_163 = 1 := hf_443.fi (mem_old hm_376) (fun h9 => h9) (rd_nOI (k := 1) hq_437 hm_376 hv_413)
  have hv_492 : hI S_441 1001 q_163 = 1 := hf_443.fi (mem_old hm_376) (fun h9 => h9) (rd_nOI (k := 1) hq_437 hm_376 hv_414)
  have hv_493 : hI S_441 2 q_1 = 0 := hf_443.fi (mem_old hm_370) (fun h9 => h9) (rd_nOI (k := 1) hq_437 hm_370 hv_415)
  have hv_494 : hI S_441 206 q_26 = 0 := hf_443.fi (mem_old hm_387) (fun h9 => h9) (rd_nOI (k := 1) hq_437 hm_387 hv_416)
  have hv_495 : hI S_441 209 q_26 = 0 := hf_443.fi (mem_old hm_387) (fun h9 => h9) (rd_nOI (k := 1) hq_437 hm_387 hv_417)
  have hv_496 : hI S_441 3 q_1 = 0 := hf_443.fi (mem_old hm_370) (fun h9 => h9) (rd_nOI (k := 1) hq_437 hm_370 hv_418)
  have hv_497 : hI S_441 4 q_1 = 0 := hf_443.fi (mem_old hm_370) (fun h9 => h9) (rd_nOI (k := 1) hq_437 hm_370 hv_419)
  have hv_498 : hI S_441 5 q_1 = 0 := hf_443.fi (mem_old hm_370) (fun h9 => h9) (rd_nOI (k := 1) hq_437 hm_370 hv_420)
  have hv_499 : hR S_441 0 q_1 = (some q_5) := hf_443.fr (mem_old hm_370) (fun q9 => (fun e9 => absurd (((kd_nO (k := 1) hq_437 hm_370 hk_371)).symm.trans ((congrArg (hK _) e9).trans (kd_nO' (k := 1)))) (by decide)) q9) (rd_nOR (k := 1) hq_437 hm_370 hv_421)
  have hv_500 : hR S_441 1003 q_163 = (some q_167) := hf_443.fr (mem_old hm_376) (fun q9 => (fun e9 => absurd (((kd_nO (k := 1) hq_437 hm_376 hk_377)).symm.trans ((congrArg (hK _) e9).trans (kd_nO' (k := 1)))) (by decide)) q9) (rd_nOR (k := 1) hq_437 hm_376 hv_422)
  have hv_501 : hR S_441 200 q_26 = (some q_31) := hf_443.fr (mem_old hm_387) (fun q9 => (fun e9 => absurd (((kd_nO (k := 1) hq_437 hm_387 hk_388)).symm.trans ((congrArg (hK _) e9).trans (kd_nO' (k := 1)))) (by decide)) q9) (rd_nOR (k := 1) hq_437 hm_387 hv_423)
  have hv_502 : hR S_441 800 q_223 = (some q_228) := hf_443.fr (mem_old hm_381) (fun q9 => (fun e9 => absurd (((kd_nO (k := 1) hq_437 hm_381 hk_382)).symm.trans ((congrArg (hK _) e9).trans (kd_nO' (k := 1)))) (by decide)) q9) (rd_nOR (k := 1) hq_437 hm_381 hv_424)
  have hv_503 : hR S_441 800 q_31 = (some q_32) := hf_443.fr (mem_old hm_393) (fun q9 => (fun e9 => absurd (((kd_nO (k := 1) hq_437 hm_393 hk_394)).symm.trans ((congrArg (hK _) e9).trans (kd_nO' (k := 1)))) (by decide)) q9) (rd_nOR (k := 1) hq_437 hm_393 hv_425)
  have hv_504 : hR S_441 800 q_68 = (some q_73) := hf_443.fr (mem_old hm_407) (fun q9 => (fun e9 => absurd (((kd_nO (k := 1) hq_437 hm_407 hk_408)).symm.trans ((congrArg (hK _) e9).trans (kd_nO' (k := 1)))) (by decide)) q9) (rd_nOR (k := 1) hq_437 hm_407 hv_426)
  have hv_505 : hR S_441 901 h = (some q_1) := hf_443.fr (mem_old hm_368) (fun q9 => (fun e9 => absurd (((kd_nO (k := 1) hq_437 hm_368 hk_369)).symm.trans ((congrArg (hK _) e9).trans (kd_nO' (k := 1)))) (by decide)) q9) (rd_nOR (k := 1) hq_437 hm_368 hv_427)
  have hv_506 : hR S_441 902 h = (some q_26) := hf_443.fr (mem_old hm_368) (fun q9 => (fun e9 => absurd (((kd_nO (k := 1) hq_437 hm_368 hk_369)).symm.trans ((congrArg (hK _) e9).trans (kd_nO' (k := 1)))) (by decide)) q9) (rd_nOR (k := 1) hq_437 hm_368 hv_428)
  have hv_507 : hR S_441 903 h = (some q_68) := hf_443.fr (mem_old hm_368) (fun q9 => (fun e9 => absurd (((kd_nO (k := 1) hq_437 hm_368 hk_369)).symm.trans ((congrArg (hK _) e9).trans (kd_nO' (k := 1)))) (by decide)) q9) (rd_nOR (k := 1) hq_437 hm_368 hv_429)
  have hv_508 : hR S_441 904 h = (some q_115) := hf_443.fr (mem_old hm_368) (fun q9 => (fun e9 => absurd (((kd_nO (k := 1) hq_437 hm_368 hk_369)).symm.trans ((congrArg (hK _) e9).trans (kd_nO' (k := 1)))) (by decide)) q9) (rd_nOR (k := 1) hq_437 hm_368 hv_430)
  have hv_509 : hR S_441 905 h = (some q_163) := hf_443.fr (mem_old hm_368) (fun q9 => (fun e9 => absurd (((kd_nO (k := 1) hq_437 hm_368 hk_369)).symm.trans ((congrArg (hK _) e9).trans (kd_nO' (k := 1)))) (by decide)) q9) (rd_nOR (k := 1) hq_437 hm_368 hv_431)
  have hv_510 : hR S_441 906 h = (some q_223) := hf_443.fr (mem_old hm_368) (fun q9 => (fun e9 => absurd (((kd_nO (k := 1) hq_437 hm_368 hk_369)).symm.trans ((congrArg (hK _) e9).trans (kd_nO' (k := 1)))) (by decide)) q9) (rd_nOR (k := 1) hq_437 hm_368 hv_432)
  have hv_511 : hR S_441 907 h = (some q_292) := hf_443.fr (mem_old hm_368) (fun q9 => (fun e9 => absurd (((kd_nO (k := 1) hq_437 hm_368 hk_369)).symm.trans ((congrArg (hK _) e9).trans (kd_nO' (k := 1)))) (by decide)) q9) (rd_nOR (k := 1) hq_437 hm_368 hv_433)
  have hv_512 : hR S_441 908 h = (some q_362) := hf_443.fr (mem_old hm_368) (fun q9 => (fun e9 => absurd (((kd_nO (k := 1) hq_437 hm_368 hk_369)).symm.trans ((congrArg (hK _) e9).trans (kd_nO' (k := 1)))) (by decide)) q9) (rd_nOR (k := 1) hq_437 hm_368 hv_434)
  have hf_513 : Fm (fun _ _ => False) (fun f9 b9 => b9 = h) (fun _ => False) S S_441 := hf_439.then hf_443 (fun a9 ha9 => ⟨(fun f9 h9 => h9.elim), (fun f9 h9 => (fun h8 => absurd (h8 ▸ ha9) hz_438) h9), (fun h9 => h9.elim)⟩)
  refine j_putrF (f := 909) C hm9 flX9_57o (by decide) rfl rfl dX9_init_93 hm_451 hk_452 rfl ?_
  refine j_aload_n C dX9_init_96 rfl 0 rfl ?_
  have hf_516 : Fm (fun _ _ => False) (fun f9 b9 => b9 = h) (fun _ => False) S (sR S_441 909 h (some q_436)) := (hf_513.sR _ (fun _ => rfl))
  refine j_new (N := 21) C (ci := 1) rfl rfl klX9_54 knX1 kiX1 (M.cells (by decide)) (M.slots (by decide)) dX9_init_97 (fun q_514 hq_515 => ?_)
  have hz_517 : q_514 ∉ hL S := fun h9 => hq_515 (hf_516.mem h9)
  refine j_dup C dX9_init_100 rfl ?_
  have hf_518 : Fm (fun _ _ => False) (fun f9 b9 => b9 = h) (fun _ => False) S (nO (sR S_441 909 h (some q_436)) q_514 1) := (hf_516.nO _ hq_515)
  refine j_callI C [] [.ref q_514, .ref h] mlX9_56 mcX1_init (c_X1_init (nO (sR S_441 909 h (some q_436)) q_514 1) q_514 mem_new (kd_nO' (k := 1))) (M.rm (by decide) (by decide) (Nat.le_of_ble_eq_true rfl) (Nat.le_of_ble_eq_true rfl)) rfl rfl (Nat.le_of_ble_eq_true rfl) dX9_init_101 (fun r_519 S_520 hp_521 => ?_)
  obtain ⟨rfl, hf_522⟩ := hp_521
  refine J.eq (st' := [.ref q_514, .ref h]) rfl rfl rfl ?_
  have hz_523 : ∀ j, aI S_520 q_115 j = 0 := fun j9 => (hf_522.ai (mem_old hm_455) (fun h9 => h9) j9).trans (hz_444 j9)
  have hz_524 : ∀ j, aI S_520 q_228 j = 0 := fun j9 => (hf_522.ai (mem_old hm_465) (fun h9 => h9) j9).trans (hz_445 j9)
  have hz_525 : ∀ j, aI S_520 q_292 j = 0 := fun j9 => (hf_522.ai (mem_old hm_470) (fun h9 => h9) j9).trans (hz_446 j9)
  have hz_526 : ∀ j, aI S_520 q_32 j = 0 := fun j9 => (hf_522.ai (mem_old hm_475) (fun h9 => h9) j9).trans (hz_447 j9)
  have hz_527 : ∀ j, aI S_520 q_362 j = 0 := fun j9 => (hf_522.ai (mem_old hm_478) (fun h9 => h9) j9).trans (hz_448 j9)
  have hz_528 : ∀ j, aI S_520 q_5 j = 0 := fun j9 => (hf_522.ai (mem_old hm_483) (fun h9 => h9) j9).trans (hz_449 j9)
  have hz_529 : ∀ j, aI S_520 q_73 j = 0 := fun j9 => (hf_522.ai (mem_old hm_488) (fun h9 => h9) j9).trans (hz_450 j9)
  have hm_530 : h ∈ hL S_520 := hf_522.mem (mem_old hm_451)
  have hk_531 : Kd S_520 h 9 := hf_522.kd (mem_old hm_451) (kd_nO (k := 1) hq_515 hm_451 hk_452)
  have hm_532 : q_1 ∈ hL S_520 := hf_522.mem (mem_old hm_453)
  have hk_533 : Kd S_520 q_1 0 := hf_522.kd (mem_old hm_453) (kd_nO (k := 1) hq_515 hm_453 hk_454)
  have hm_534 : q_115 ∈ hL S_520 := hf_522.mem (mem_old hm_455)
  have hk_535 : Kd S_520 q_115 20 := hf_522.kd (mem_old hm_455) (kd_nO (k := 1) hq_515 hm_455 hk_456)
  have hn_536 : Ln S_520 q_115 16 := hf_522.ln (mem_old hm_455) hn_457
  have hm_537 : q_163 ∈ hL S_520 := hf_522.mem (mem_old hm_458)
  have hk_538 : Kd S_520 q_163 10 := hf_522.kd (mem_old hm_458) (kd_nO (k := 1) hq_515 hm_458 hk_459)
  have hm_539 : q_167 ∈ hL S_520 := hf_522.mem (mem_old hm_460)
  have hk_540 : Kd S_520 q_167 15 := hf_522.kd (mem_old hm_460) (kd_nO (k := 1) hq_515 hm_460 hk_461)
  have hn_541 : Ln S_520 q_167 16 := hf_522.ln (mem_old hm_460) hn_462
  have hm_542 : q_223 ∈ hL S_520 := hf_522.mem (mem_old hm_463)
  have hk_543 : Kd S_520 q_223 8 := hf_522.kd (mem_old hm_463) (kd_nO (k := 1) hq_515 hm_463 hk_464)
  have hm_544 : q_228 ∈ hL S_520 := hf_522.mem (mem_old hm_465)
  have hk_545 : Kd S_520 q_228 14 := hf_522.kd (mem_old hm_465) (kd_nO (k := 1) hq_515 hm_465 hk_466)
  have hn_546 : Ln S_520 q_228 16 := hf_522.ln (mem_old hm_465) hn_467
  have hm_547 : q_26 ∈ hL S_520 := hf_522.mem (mem_old hm_468)
  have hk_548 : Kd S_520 q_26 2 := hf_522.kd (mem_old hm_468) (kd_nO (k := 1) hq_515 hm_468 hk_469)
  have hm_549 : q_292 ∈ hL S_520 := hf_522.mem (mem_old hm_470)
  have hk_550 : Kd S_520 q_292 13 := hf_522.kd (mem_old hm_470) (kd_nO (k := 1) hq_515 hm_470 hk_471)
  have hn_551 : Ln S_520 q_292 24000 := hf_522.ln (mem_old hm_470) hn_472
  have hm_552 : q_31 ∈ hL S_520 := hf_522.mem (mem_old hm_473)
  have hk_553 : Kd S_520 q_31 8 := hf_522.kd (mem_old hm_473) (kd_nO (k := 1) hq_515 hm_473 hk_474)
  have hm_554 : q_32 ∈ hL S_520 := hf_522.mem (mem_old hm_475)
  have hk_555 : Kd S_520 q_32 14 := hf_522.kd (mem_old hm_475) (kd_nO (k := 1) hq_515 hm_475 hk_476)
  have hn_556 : Ln S_520 q_32 16 := hf_522.ln (mem_old hm_475) hn_477
  have hm_557 : q_362 ∈ hL S_520 := hf_522.mem (mem_old hm_478)
  have hk_558 : Kd S_520 q_362 14 := hf_522.kd (mem_old hm_478) (kd_nO (k := 1) hq_515 hm_478 hk_479)
  have hn_559 : Ln S_520 q_362 16 := hf_522.ln (mem_old hm_478) hn_480
  have hm_560 : q_436 ∈ hL S_520 := hf_522.mem (mem_old hm_481)
  have hk_561 : Kd S_520 q_436 1 := hf_522.kd (mem_old hm_481) (kd_nO (k := 1) hq_515 hm_481 hk_482)
  have hm_562 : q_5 ∈ hL S_520 := hf_522.mem (mem_old hm_483)
  have hk_563 : Kd S_520 q_5 14 := hf_522.kd (mem_old hm_483) (kd_nO (k := 1) hq_515 hm_483 hk_484)
  have hn_564 : Ln S_520 q_5 20000 := hf_522.ln (mem_old hm_483) hn_485
  have hm_565 : q_514 ∈ hL S_520 := hf_522.mem mem_new
  have hk_566 : Kd S_520 q_514 1 := hf_522.kd mem_new (kd_nO' (k := 1))
  have hm_567 : q_68 ∈ hL S_520 := hf_522.mem (mem_old hm_486)
  have hk_568 : Kd S_520 q_68 8 := hf_522.kd (mem_old hm_486) (kd_nO (k := 1) hq_515 hm_486 hk_487)
  have hm_569 : q_73 ∈ hL S_520 := hf_522.mem (mem_old hm_488)
  have hk_570 : Kd S_520 q_73 14 := hf_522.kd (mem_old hm_488) (kd_nO (k := 1) hq_515 hm_488 hk_489)
  have hn_571 : Ln S_520 q_73 16 := hf_522.ln (mem_old hm_488) hn_490
  have hv_572 : hI S_520 1000 q_163 = 1 := hf_522.fi (mem_old hm_458) (fun h9 => h9) (rd_nOI (k := 1) hq_515 hm_458 hv_491)
  have hv_573 : hI S_520 1001 q_163 = 1 := hf_522.fi (mem_old hm_458) (fun h9 => h9) (rd_nOI (k := 1) hq_515 hm_458 hv_492)
  have hv_574 : hI S_520 2 q_1 = 0 := hf_522.fi (mem_old hm_453) (fun h9 => h9) (rd_nOI (k := 1) hq_515 hm_453 hv_493)
  have hv_575 : hI S_520 206 q_26 = 0 := hf_522.fi (mem_old hm_468) (fun h9 => h9) (rd_nOI (k := 1) hq_515 hm_468 hv_494)
  have hv_576 : hI S_520 209 q_26 = 0 := hf_522.fi (mem_old hm_468) (fun h9 => h9) (rd_nOI (k := 1) hq_515 hm_468 hv_495)
  have hv_577 : hI S_520 3 q_1 = 0 := hf_522.fi (mem_old hm_453) (fun h9 => h9) (rd_nOI (k := 1) hq_515 hm_453 hv_496)
  have hv_578 : hI S_520 4 q_1 = 0 := hf_522.fi (mem_old hm_453) (fun h9 => h9) (rd_nOI (k := 1) hq_515 hm_453 hv_497)
  have hv_579 : hI S_520 5 q_1 = 0 := hf_522.fi (mem_old hm_453) (fun h9 => h9) (rd_nOI (k := 1) hq_515 hm_453 hv_498)
  have hv_580 : hR S_520 0 q_1 = (some q_5) := hf_522.fr (mem_old hm_453) (fun q9 => (fun e9 => absurd (((kd_nO (k := 1) hq_515 hm_453 hk_454)).symm.trans ((congrArg (hK _) e9).trans (kd_nO' (k := 1)))) (by decide)) q9) (rd_nOR (k := 1) hq_515 hm_453 (rd_sRf (S := S_441) (g := 909) (a := h) (v := (some q_436)) (by decide) hv_499))
  have hv_581 : hR S_520 1003 q_163 = (some q_167) := hf_522.fr (mem_old hm_458) (fun q9 => (fun e9 => absurd (((kd_nO (k := 1) hq_515 hm_458 hk_459)).symm.trans ((congrArg (hK _) e9).trans (kd_nO' (k := 1)))) (by decide)) q9) (rd_nOR (k := 1) hq_515 hm_458 (rd_sRf (S := S_441) (g := 909) (a := h) (v := (some q_436)) (by decide) hv_500))
  have hv_582 : hR S_520 200 q_26 = (some q_31) := hf_522.fr (mem_old hm_468) (fun q9 => (fun e9 => absurd (((kd_nO (k := 1) hq_515 hm_468 hk_469)).symm.trans ((congrArg (hK _) e9).trans (kd_nO' (k := 1)))) (by decide)) q9) (rd_nOR (k := 1) hq_515 hm_468 (rd_sRf (S := S_441) (g := 909) (a := h) (v := (some q_436)) (by decide) hv_501))
  have hv_583 : hR S_520 800 q_223 = (some q_228) := hf_522.fr (mem_old hm_463) (fun q9 => (fun e9 => absurd (((kd_nO (k := 1) hq_515 hm_463 hk_464)).symm.trans ((congrArg (hK _) e9).trans (kd_nO' (k := 1)))) (by decide)) q9) (rd_nOR (k := 1) hq_515 hm_463 (rd_sRf (S := S_441) (g := 909) (a := h) (v := (some q_436)) (by decide) hv_502))
  have hv_584 : hR S_520 800 q_31 = (some q_32) := hf_522.fr (mem_old hm_473) (fun q9 => (fun e9 => absurd (((kd_nO (k := 1) hq_515 hm_473 hk_474)).symm.trans ((congrArg (hK _) e9).trans (kd_nO' (k := 1)))) (by decide)) q9) (rd_nOR (k := 1) hq_515 hm_473 (rd_sRf (S := S_441) (g := 909) (a := h) (v := (some q_436)) (by decide) hv_503))
  have hv_585 : hR S_520 800 q_68 = (some q_73) := hf_522.fr (mem_old hm_486) (fun q9 => (fun e9 => absurd (((kd_nO (k := 1) hq_515 hm_486 hk_487)).symm.trans ((congrArg (hK _) e9).trans (kd_nO' (k := 1)))) (by decide)) q9) (rd_nOR (k := 1) hq_515 hm_486 (rd_sRf (S := S_441) (g := 909) (a := h) (v := (some q_436)) (by decide) hv_504))
  have hv_586 : hR S_520 901 h = (some q_1) := hf_522.fr (mem_old hm_451) (fun q9 => (fun e9 => absurd (((kd_nO (k := 1) hq_515 hm_451 hk_452)).symm.trans ((congrArg (hK _) e9).trans (kd_nO' (k := 1)))) (by decide)) q9) (rd_nOR (k := 1) hq_515 hm_451 (rd_sRf (S := S_441) (g := 909) (a := h) (v := (some q_436)) (by decide) hv_505))
  have hv_587 : hR S_520 902 h = (some q_26) := hf_522.fr (mem_old hm_451) (fun q9 => (fun e9 => absurd (((kd_nO (k := 1) hq_515 hm_451 hk_452)).symm.trans ((congrArg (hK _) e9).trans (kd_nO' (k := 1)))) (by decide)) q9) (rd_nOR (k := 1) hq_515 hm_451 (rd_sRf (S := S_441) (g := 909) (a := h) (v := (some q_436)) (by decide) hv_506))
  have hv_588 : hR S_520 903 h = (some q_68) := hf_522.fr (mem_old hm_451) (fun q9 => (fun e9 => absurd (((kd_nO (k := 1) hq_515 hm_451 hk_452)).symm.trans ((congrArg (hK _) e9).trans (kd_nO' (k := 1)))) (by decide)) q9) (rd_nOR (k := 1) hq_515 hm_451 (rd_sRf (S := S_441) (g := 909) (a := h) (v := (some q_436)) (by decide) hv_507))
  have hv_589 : hR S_520 904 h = (some q_115) := hf_522.fr (mem_old hm_451) (fun q9 => (fun e9 => absurd (((kd_nO (k := 1) hq_515 hm_451 hk_452)).symm.trans ((congrArg (hK _) e9).trans (kd_nO' (k := 1)))) (by decide)) q9) (rd_nOR (k := 1) hq_515 hm_451 (rd_sRf (S := S_441) (g := 909) (a := h) (v := (some q_436)) (by decide) hv_508))
  have hv_590 : hR S_520 905 h = (some q_163) := hf_522.fr (mem_old hm_451) (fun q9 => (fun e9 => absurd (((kd_nO (k := 1) hq_515 hm_451 hk_452)).symm.trans ((congrArg (hK _) e9).trans (kd_nO' (k := 1)))) (by decide)) q9) (rd_nOR (k := 1) hq_515 hm_451 (rd_sRf (S := S_441) (g := 909) (a := h) (v := (some q_436)) (by decide) hv_509))
  have hv_591 : hR S_520 906 h = (some q_223) := hf_522.fr (mem_old hm_451) (fun q9 => (fun e9 => absurd (((kd_nO (k := 1) hq_515 hm_451 hk_452)).symm.trans ((congrArg (hK _) e9).trans (kd_nO' (k := 1)))) (by decide)) q9) (rd_nOR (k := 1) hq_515 hm_451 (rd_sRf (S := S_441) (g := 909) (a := h) (v := (some q_436)) (by decide) hv_510))
  have hv_592 : hR S_520 907 h = (some q_292) := hf_522.fr (mem_old hm_451) (fun q9 => (fun e9 => absurd (((kd_nO (k := 1) hq_515 hm_451 hk_452)).symm.trans ((congrArg (hK _) e9).trans (kd_nO' (k := 1)))) (by decide)) q9) (rd_nOR (k := 1) hq_515 hm_451 (rd_sRf (S := S_441) (g := 909) (a := h) (v := (some q_436)) (by decide) hv_511))
  have hv_593 : hR S_520 908 h = (some q_362) := hf_522.fr (mem_old hm_451) (fun q9 => (fun e9 => absurd (((kd_nO (k := 1) hq_515 hm_451 hk_452)).symm.trans ((congrArg (hK _) e9).trans (kd_nO' (k := 1)))) (by decide)) q9) (rd_nOR (k := 1) hq_515 hm_451 (rd_sRf (S := S_441) (g := 909) (a := h) (v := (some q_436)) (by decide) hv_512))
  have hv_594 : hR S_520 909 h = (some q_436) := hf_522.fr (mem_old hm_451) (fun q9 => (fun e9 => absurd (((kd_nO (k := 1) hq_515 hm_451 hk_452)).symm.trans ((congrArg (hK _) e9).trans (kd_nO' (k := 1)))) (by decide)) q9) (rd_nOR (k := 1) hq_515 hm_451 (rd_sR (S := S_441) (g := 909) (a := h) (v := (some q_436))))
  have hf_595 : Fm (fun _ _ => False) (fun f9 b9 => b9 = h) (fun _ => False) S S_520 := hf_518.then hf_522 (fun a9 ha9 => ⟨(fun f9 h9 => h9.elim), (fun f9 h9 => (fun h8 => absurd (h8 ▸ ha9) hz_517) h9), (fun h9 => h9.elim)⟩)
  show J _ _ _ _ _ 104 _
  refine j_putrF (f := 910) C hm9 flX9_61o (by decide) rfl rfl dX9_init_104 hm_530 hk_531 rfl ?_
  refine j_aload_n C dX9_init_107 rfl 0 rfl ?_
  refine j_iconst (v := 3) C dX9_init_108 (by decide) ?_
  have hf_598 : Fm (fun _ _ => False) (fun f9 b9 => b9 = h) (fun _ => False) S (sR S_520 910 h (some q_514)) := (hf_595.sR _ (fun _ => rfl))
  refine j_newQ (N := 3) C 18 (by decide) rfl klX9_54 (gx_Environment C) (by decide) (by decide) (by decide) (M.cells (by decide)) (M.slots (by decide)) dX9_init_109 (fun q_596 hq_597 => ?_)
  have hz_599 : q_596 ∉ hL S := fun h9 => hq_597 (hf_598.mem h9)
  refine j_putrF (f := 911) C hm9 flX9_64o (by decide) rfl rfl dX9_init_112 (mem_old hm_530) (kd_nA (k := 18) (n := 3) hq_597 hm_530 hk_531) rfl ?_
  refine j_aload_n C dX9_init_115 rfl 0 rfl ?_
  refine j_iconst (v := 4) C dX9_init_116 (by decide) ?_
  have hf_602 : Fm (fun _ _ => False) (fun f9 b9 => b9 = h) (fun _ => False) S (sR (nA (sR S_520 910 h (some q_514)) q_596 18 3) 911 h (some q_596)) := ((hf_598.nA _ _ hq_597).sR _ (fun _ => rfl))
  obtain ⟨S_600, eS_601⟩ : ∃ S9 : Hp, S9 = (sR (nA (sR S_520 910 h (some q_514)) q_596 18 3) 911 h (some q_596)) := ⟨_, rfl⟩
  refine J.eq (S' := S_600) eS_601.symm rfl rfl ?_
  have hm_603 : h ∈ hL S_600 := by rw [eS_601]; exact (mem_old hm_530)
  have hk_604 : Kd S_600 h 9 := by rw [eS_601]; exact (kd_nA (k := 18) (n := 3) hq_597 hm_530 hk_531)
  have hm_605 : q_1 ∈ hL S_600 := by rw [eS_601]; exact (mem_old hm_532)
  have hk_606 : Kd S_600 q_1 0 := by rw [eS_601]; exact (kd_nA (k := 18) (n := 3) hq_597 hm_532 hk_533)
  have hm_607 : q_115 ∈ hL S_600 := by rw [eS_601]; exact (mem_old hm_534)
  have hk_608 : Kd S_600 q_115 20 := by rw [eS_601]; exact (kd_nA (k := 18) (n := 3) hq_597 hm_534 hk_535)
  have hn_609 : Ln S_600 q_115 16 := by rw [eS_601]; exact (ln_nA (k := 18) hq_597 hm_534 hn_536)
  have hz_610 : ∀ j, aI S_600 q_115 j = 0 := by rw [eS_601]; exact (fun j9 => rd_nAI (k := 18) (n := 3) hq_597 hm_534 (hz_523 j9))
  have hm_611 : q_163 ∈ hL S_600 := by rw [eS_601]; exact (mem_old hm_537)
  have hk_612 : Kd S_600 q_163 10 := by rw [eS_601]; exact (kd_nA (k := 18) (n := 3) hq_597 hm_537 hk_538)
  have hm_613 : q_167 ∈ hL S_600 := by rw [eS_601]; exact (mem_old hm_539)
  have hk_614 : Kd S_600 q_167 15 := by rw [eS_601]; exact (kd_nA (k := 18) (n := 3) hq_597 hm_539 hk_540)
  have hn_615 : Ln S_600 q_167 16 := by rw [eS_601]; exact (ln_nA (k := 18) hq_597 hm_539 hn_541)
  have hm_616 : q_223 ∈ hL S_600 := by rw [eS_601]; exact (mem_old hm_542)
  have hk_617 : Kd S_600 q_223 8 := by rw [eS_601]; exact (kd_nA (k := 18) (n := 3) hq_597 hm_542 hk_543)
  have hm_618 : q_228 ∈ hL S_600 := by rw [eS_601]; exact (mem_old hm_544)
  have hk_619 : Kd S_600 q_228 14 := by rw [eS_601]; exact (kd_nA (k := 18) (n := 3) hq_597 hm_544 hk_545)
  have hn_620 : Ln S_600 q_228 16 := by rw [eS_601]; exact (ln_nA (k := 18) hq_597 hm_544 hn_546)
  have hz_621 : ∀ j, aI S_600 q_228 j = 0 := by rw [eS_601]; exact (fun j9 => rd_nAI (k := 18) (n := 3) hq_597 hm_544 (hz_524 j9))
  have hm_622 : q_26 ∈ hL S_600 := by rw [eS_601]; exact (mem_old hm_547)
  have hk_623 : Kd S_600 q_26 2 := by rw [eS_601]; exact (kd_nA (k := 18) (n := 3) hq_597 hm_547 hk_548)
  have hm_624 : q_292 ∈ hL S_600 := by rw [eS_601]; exact (mem_old hm_549)
  have hk_625 : Kd S_600 q_292 13 := by rw [eS_601]; exact (kd_nA (k := 18) (n := 3) hq_597 hm_549 hk_550)
  have hn_626 : Ln S_600 q_292 24000 := by rw [eS_601]; exact (ln_nA (k := 18) hq_597 hm_549 hn_551)
  have hz_627 : ∀ j, aI S_600 q_292 j = 0 := by rw [eS_601]; exact (fun j9 => rd_nAI (k := 18) (n := 3) hq_597 hm_549 (hz_525 j9))
  have hm_628 : q_31 ∈ hL S_600 := by rw [eS_601]; exact (mem_old hm_552)
  have hk_629 : Kd S_600 q_31 8 := by rw [eS_601]; exact (kd_nA (k := 18) (n := 3) hq_597 hm_552 hk_553)
  have hm_630 : q_32 ∈ hL S_600 := by rw [eS_601]; exact (mem_old hm_554)
  have hk_631 : Kd S_600 q_32 14 := by rw [eS_601]; exact (kd_nA (k := 18) (n := 3) hq_597 hm_554 hk_555)
  have hn_632 : Ln S_600 q_32 16 := by rw [eS_601]; exact (ln_nA (k := 18) hq_597 hm_554 hn_556)
  have hz_633 : ∀ j, aI S_600 q_32 j = 0 := by rw [eS_601]; exact (fun j9 => rd_nAI (k := 18) (n := 3) hq_597 hm_554 (hz_526 j9))
  have hm_634 : q_362 ∈ hL S_600 := by rw [eS_601]; exact (mem_old hm_557)
  have hk_635 : Kd S_600 q_362 14 := by rw [eS_601]; exact (kd_nA (k := 18) (n := 3) hq_597 hm_557 hk_558)
  have hn_636 : Ln S_600 q_362 16 := by rw [eS_601]; exact (ln_nA (k := 18) hq_597 hm_557 hn_559)
  have hz_637 : ∀ j, aI S_600 q_362 j = 0 := by rw [eS_601]; exact (fun j9 => rd_nAI (k := 18) (n := 3) hq_597 hm_557 (hz_527 j9))
  have hm_638 : q_436 ∈ hL S_600 := by rw [eS_601]; exact (mem_old hm_560)
  have hk_639 : Kd S_600 q_436 1 := by rw [eS_601]; exact (kd_nA (k := 18) (n := 3) hq_597 hm_560 hk_561)
  have hm_640 : q_5 ∈ hL S_600 := by rw [eS_601]; exact (mem_old hm_562)
  have hk_641 : Kd S_600 q_5 14 := by rw [eS_601]; exact (kd_nA (k := 18) (n := 3) hq_597 hm_562 hk_563)
  have hn_642 : Ln S_600 q_5 20000 := by rw [eS_601]; exact (ln_nA (k := 18) hq_597 hm_562 hn_564)
  have hz_643 : ∀ j, aI S_600 q_5 j = 0 := by rw [eS_601]; exact (fun j9 => rd_nAI (k := 18) (n := 3) hq_597 hm_562 (hz_528 j9))
  have hm_644 : q_514 ∈ hL S_600 := by rw [eS_601]; exact (mem_old hm_565)
  have hk_645 : Kd S_600 q_514 1 := by rw [eS_601]; exact (kd_nA (k := 18) (n := 3) hq_597 hm_565 hk_566)
  have hm_646 : q_596 ∈ hL S_600 := by rw [eS_601]; exact mem_new
  have hk_647 : Kd S_600 q_596 18 := by rw [eS_601]; exact (kd_nA' (k := 18) (n := 3))
  have hn_648 : Ln S_600 q_596 3 := by rw [eS_601]; exact (ln_nA' (k := 18))
  have hz_649 : ∀ j, aI S_600 q_596 j = 0 := by rw [eS_601]; exact (fun j9 => rd_nAI' (k := 18) (n := 3))
  have hm_650 : q_68 ∈ hL S_600 := by rw [eS_601]; exact (mem_old hm_567)
  have hk_651 : Kd S_600 q_68 8 := by rw [eS_601]; exact (kd_nA (k := 18) (n := 3) hq_597 hm_567 hk_568)
  have hm_652 : q_73 ∈ hL S_600 := by rw [eS_601]; exact (mem_old hm_569)
  have hk_653 : Kd S_600 q_73 14 := by rw [eS_601]; exact (kd_nA (k := 18) (n := 3) hq_597 hm_569 hk_570)
  have hn_654 : Ln S_600 q_73 16 := by rw [eS_601]; exact (ln_nA (k := 18) hq_597 hm_569 hn_571)
  have hz_655 : ∀ j, aI S_600 q_73 j = 0 := by rw [eS_601]; exact (fun j9 => rd_nAI (k := 18) (n := 3) hq_597 hm_569 (hz_529 j9))
  have hv_656 : hI S_600 1000 q_163 = 1 := by rw [eS_601]; exact hv_572
  have hv_657 : hI S_600 1001 q_163 = 1 := by rw [eS_601]; exact hv_573
  have hv_658 : hI S_600 2 q_1 = 0 := by rw [eS_601]; exact hv_574
  have hv_659 : hI S_600 206 q_26 = 0 := by rw [eS_601]; exact hv_575
  have hv_660 : hI S_600 209 q_26 = 0 := by rw [eS_601]; exact hv_576
  have hv_661 : hI S_600 3 q_1 = 0 := by rw [eS_601]; exact hv_577
  have hv_662 : hI S_600 4 q_1 = 0 := by rw [eS_601]; exact hv_578
  have hv_663 : hI S_600 5 q_1 = 0 := by rw [eS_601]; exact hv_579
  have hv_664 : hR S_600 0 q_1 = (some q_5) := by rw [eS_601]; exact (rd_sRf (S := (nA (sR S_520 910 h (some q_514)) q_596 18 3)) (g := 911) (a := h) (v := (some q_596)) (by decide) (rd_sRf (S := S_520) (g := 910) (a := h) (v := (some q_514)) (by decide) hv_580))
  have hv_665 : hR S_600 1003 q_163 = (some q_167) := by rw [eS_601]; exact (rd_sRf (S := (nA (sR S_520 910 h (some q_514)) q_596 18 3)) (g := 911) (a := h) (v := (some q_596)) (by decide) (rd_sRf (S := S_520) (g := 910) (a := h) (v := (some q_514)) (by decide) hv_581))
  have hv_666 : hR S_600 200 q_26 = (some q_31) := by rw [eS_601]; exact (rd_sRf (S := (nA (sR S_520 910 h (some q_514)) q_596 18 3)) (g := 911) (a := h) (v := (some q_596)) (by decide) (rd_sRf (S := S_520) (g := 910) (a := h) (v := (some q_514)) (by decide) hv_582))
  have hv_667 : hR S_600 800 q_223 = (some q_228) := by rw [eS_601]; exact (rd_sRf (S := (nA (sR S_520 910 h (some q_514)) q_596 18 3)) (g := 911) (a := h) (v := (some q_596)) (by decide) (rd_sRf (S := S_520) (g := 910) (a := h) (v := (some q_514)) (by decide) hv_583))
  have hv_668 : hR S_600 800 q_31 = (some q_32) := by rw [eS_601]; exact (rd_sRf (S := (nA (sR S_520 910 h (some q_514)) q_596 18 3)) (g := 911) (a := h) (v := (some q_596)) (by decide) (rd_sRf (S := S_520) (g := 910) (a := h) (v := (some q_514)) (by decide) hv_584))
  have hv_669 : hR S_600 800 q_68 = (some q_73) := by rw [eS_601]; exact (rd_sRf (S := (nA (sR S_520 910 h (some q_514)) q_596 18 3)) (g := 911) (a := h) (v := (some q_596)) (by decide) (rd_sRf (S := S_520) (g := 910) (a := h) (v := (some q_514)) (by decide) hv_585))
  have hv_670 : hR S_600 901 h = (some q_1) := by rw [eS_601]; exact (rd_sRf (S := (nA (sR S_520 910 h (some q_514)) q_596 18 3)) (g := 911) (a := h) (v := (some q_596)) (by decide) (rd_sRf (S := S_520) (g := 910) (a := h) (v := (some q_514)) (by decide) hv_586))
  have hv_671 : hR S_600 902 h = (some q_26) := by rw [eS_601]; exact (rd_sRf (S := (nA (sR S_520 910 h (some q_514)) q_596 18 3)) (g := 911) (a := h) (v := (some q_596)) (by decide) (rd_sRf (S := S_520) (g := 910) (a := h) (v := (some q_514)) (by decide) hv_587))
  have hv_672 : hR S_600 903 h = (some q_68) := by rw [eS_601]; exact (rd_sRf (S := (nA (sR S_520 910 h (some q_514)) q_596 18 3)) (g := 911) (a := h) (v := (some q_596)) (by decide) (rd_sRf (S := S_520) (g := 910) (a := h) (v := (some q_514)) (by decide) hv_588))
  have hv_673 : hR S_600 904 h = (some q_115) := by rw [eS_601]; exact (rd_sRf (S := (nA (sR S_520 910 h (some q_514)) q_596 18 3)) (g := 911) (a := h) (v := (some q_596)) (by decide) (rd_sRf (S := S_520) (g := 910) (a := h) (v := (some q_514)) (by decide) hv_589))
  have hv_674 : hR S_600 905 h = (some q_163) := by rw [eS_601]; exact (rd_sRf (S := (nA (sR S_520 910 h (some q_514)) q_596 18 3)) (g := 911) (a := h) (v := (some q_596)) (by decide) (rd_sRf (S := S_520) (g := 910) (a := h) (v := (some q_514)) (by decide) hv_590))
  have hv_675 : hR S_600 906 h = (some q_223) := by rw [eS_601]; exact (rd_sRf (S := (nA (sR S_520 910 h (some q_514)) q_596 18 3)) (g := 911) (a := h) (v := (some q_596)) (by decide) (rd_sRf (S := S_520) (g := 910) (a := h) (v := (some q_514)) (by decide) hv_591))
  have hv_676 : hR S_600 907 h = (some q_292) := by rw [eS_601]; exact (rd_sRf (S := (nA (sR S_520 910 h (some q_514)) q_596 18 3)) (g := 911) (a := h) (v := (some q_596)) (by decide) (rd_sRf (S := S_520) (g := 910) (a := h) (v := (some q_514)) (by decide) hv_592))
  have hv_677 : hR S_600 908 h = (some q_362) := by rw [eS_601]; exact (rd_sRf (S := (nA (sR S_520 910 h (some q_514)) q_596 18 3)) (g := 911) (a := h) (v := (some q_596)) (by decide) (rd_sRf (S := S_520) (g := 910) (a := h) (v := (some q_514)) (by decide) hv_593))
  have hv_678 : hR S_600 909 h = (some q_436) := by rw [eS_601]; exact (rd_sRf (S := (nA (sR S_520 910 h (some q_514)) q_596 18 3)) (g := 911) (a := h) (v := (some q_596)) (by decide) (rd_sRf (S := S_520) (g := 910) (a := h) (v := (some q_514)) (by decide) hv_594))
  have hv_679 : hR S_600 910 h = (some q_514) := by rw [eS_601]; exact (rd_sRf (S := (nA (sR S_520 910 h (some q_514)) q_596 18 3)) (g := 911) (a := h) (v := (some q_596)) (by decide) (rd_sR (S := S_520) (g := 910) (a := h) (v := (some q_514))))
  have hv_680 : hR S_600 911 h = (some q_596) := by rw [eS_601]; exact (rd_sR (S := (nA (sR S_520 910 h (some q_514)) q_596 18 3)) (g := 911) (a := h) (v := (some q_596)))
  have hf_681 : Fm (fun _ _ => False) (fun f9 b9 => b9 = h) (fun _ => False) S S_600 := by rw [eS_601]; exact hf_602
  refine j_newQ (N := 4) C 19 (by decide) rfl klX9_68 (gx_Reading C) (by decide) (by decide) (by decide) (M.cells (by decide)) (M.slots (by decide)) dX9_init_117 (fun q_682 hq_683 => ?_)
  have hz_684 : q_682 ∉ hL S := fun h9 => hq_683 (hf_681.mem h9)
  show J _ _ _ _ _ 120 _
  refine j_putrF (f := 912) C hm9 flX9_70o (by decide) rfl rfl dX9_init_120 (mem_old hm_603) (kd_nA (k := 19) (n := 4) hq_683 hm_603 hk_604) rfl ?_
  refine j_aload_n C dX9_init_123 rfl 0 rfl ?_
  refine j_bipush (v := 12) C dX9_init_124 (by decide) ?_
  have hf_687 : Fm (fun _ _ => False) (fun f9 b9 => b9 = h) (fun _ => False) S (sR (nA S_600 q_682 19 4) 912 h (some q_682)) := ((hf_681.nA _ _ hq_683).sR _ (fun _ => rfl))
  obtain ⟨S_685, eS_686⟩ : ∃ S9 : Hp, S9 = (sR (nA S_600 q_682 19 4) 912 h (some q_682)) := ⟨_, rfl⟩
  refine J.eq (S' := S_685) eS_686.symm rfl rfl ?_
  have hm_688 : h ∈ hL S_685 := by rw [eS_686]; exact (mem_old hm_603)
  have hk_689 : Kd S_685 h 9 := by rw [eS_686]; exact (kd_nA (k := 19) (n := 4) hq_683 hm_603 hk_604)
  have hm_690 : q_1 ∈ hL S_685 := by rw [eS_686]; exact (mem_old hm_605)
  have hk_691 : Kd S_685 q_1 0 := by rw [eS_686]; exact (kd_nA (k := 19) (n := 4) hq_683 hm_605 hk_606)
  have hm_692 : q_115 ∈ hL S_685 := by rw [eS_686]; exact (mem_old hm_607)
  have hk_693 : Kd S_685 q_115 20 := by rw [eS_686]; exact (kd_nA (k := 19) (n := 4) hq_683 hm_607 hk_608)
  have hn_694 : Ln S_685 q_115 16 := by rw [eS_686]; exact (ln_nA (k := 19) hq_683 hm_607 hn_609)
  have hz_695 : ∀ j, aI S_685 q_115 j = 0 := by rw [eS_686]; exact (fun j9 => rd_nAI (k := 19) (n := 4) hq_683 hm_607 (hz_610 j9))
  have hm_696 : q_163 ∈ hL S_685 := by rw [eS_686]; exact (mem_old hm_611)
  have hk_697 : Kd S_685 q_163 10 := by rw [eS_686]; exact (kd_nA (k := 19) (n := 4) hq_683 hm_611 hk_612)
  have hm_698 : q_167 ∈ hL S_685 := by rw [eS_686]; exact (mem_old hm_613)
  have hk_699 : Kd S_685 q_167 15 := by rw [eS_686]; exact (kd_nA (k := 19) (n := 4) hq_683 hm_613 hk_614)
  have hn_700 : Ln S_685 q_167 16 := by rw [eS_686]; exact (ln_nA (k := 19) hq_683 hm_613 hn_615)
  have hm_701 : q_223 ∈ hL S_685 := by rw [eS_686]; exact (mem_old hm_616)
  have hk_702 : Kd S_685 q_223 8 := by rw [eS_686]; exact (kd_nA (k := 19) (n := 4) hq_683 hm_616 hk_617)
  have hm_703 : q_228 ∈ hL S_685 := by rw [eS_686]; exact (mem_old hm_618)
  have hk_704 : Kd S_685 q_228 14 := by rw [eS_686]; exact (kd_nA (k := 19) (n := 4) hq_683 hm_618 hk_619)
  have hn_705 : Ln S_685 q_228 16 := by rw [eS_686]; exact (ln_nA (k := 19) hq_683 hm_618 hn_620)
  have hz_706 : ∀ j, aI S_685 q_228 j = 0 := by rw [eS_686]; exact (fun j9 => rd_nAI (k := 19) (n := 4) hq_683 hm_618 (hz_621 j9))
  have hm_707 : q_26 ∈ hL S_685 := by rw [eS_686]; exact (mem_old hm_622)
  have hk_708 : Kd S_685 q_26 2 := by rw [eS_686]; exact (kd_nA (k := 19) (n := 4) hq_683 hm_622 hk_623)
  have hm_709 : q_292 ∈ hL S_685 := by rw [eS_686]; exact (mem_old hm_624)
  have hk_710 : Kd S_685 q_292 13 := by rw [eS_686]; exact (kd_nA (k := 19) (n := 4) hq_683 hm_624 hk_625)
  have hn_711 : Ln S_685 q_292 24000 := by rw [eS_686]; exact (ln_nA (k := 19) hq_683 hm_624 hn_626)
  have hz_712 : ∀ j, aI S_685 q_292 j = 0 := by rw [eS_686]; exact (fun j9 => rd_nAI (k := 19) (n := 4) hq_683 hm_624 (hz_627 j9))
  have hm_713 : q_31 ∈ hL S_685 := by rw [eS_686]; exact (mem_old hm_628)
  have hk_714 : Kd S_685 q_31 8 := by rw [eS_686]; exact (kd_nA (k := 19) (n := 4) hq_683 hm_628 hk_629)
  have hm_715 : q_32 ∈ hL S_685 := by rw [eS_686]; exact (mem_old hm_630)
  have hk_716 : Kd S_685 q_32 14 := by rw [eS_686]; exact (kd_nA (k := 19) (n := 4) hq_683 hm_630 hk_631)
  have hn_717 : Ln S_685 q_32 16 := by rw [eS_686]; exact (ln_nA (k := 19) hq_683 hm_630 hn_632)
  have hz_718 : ∀ j, aI S_685 q_32 j = 0 := by rw [eS_686]; exact (fun j9 => rd_nAI (k := 19) (n := 4) hq_683 hm_630 (hz_633 j9))
  have hm_719 : q_362 ∈ hL S_685 := by rw [eS_686]; exact (mem_old hm_634)
  have hk_720 : Kd S_685 q_362 14 := by rw [eS_686]; exact (kd_nA (k := 19) (n := 4) hq_683 hm_634 hk_635)
  have hn_721 : Ln S_685 q_362 16 := by rw [eS_686]; exact (ln_nA (k := 19) hq_683 hm_634 hn_636)
  have hz_722 : ∀ j, aI S_685 q_362 j = 0 := by rw [eS_686]; exact (fun j9 => rd_nAI (k := 19) (n := 4) hq_683 hm_634 (hz_637 j9))
  have hm_723 : q_436 ∈ hL S_685 := by rw [eS_686]; exact (mem_old hm_638)
  have hk_724 : Kd S_685 q_436 1 := by rw [eS_686]; exact (kd_nA (k := 19) (n := 4) hq_683 hm_638 hk_639)
  have hm_725 : q_5 ∈ hL S_685 := by rw [eS_686]; exact (mem_old hm_640)
  have hk_726 : Kd S_685 q_5 14 := by rw [eS_686]; exact (kd_nA (k := 19) (n := 4) hq_683 hm_640 hk_641)
  have hn_727 : Ln S_685 q_5 20000 := by rw [eS_686]; exact (ln_nA (k := 19) hq_683 hm_640 hn_642)
  have hz_728 : ∀ j, aI S_685 q_5 j = 0 := by rw [eS_686]; exact (fun j9 => rd_nAI (k := 19) (n := 4) hq_683 hm_640 (hz_643 j9))
  have hm_729 : q_514 ∈ hL S_685 := by rw [eS_686]; exact (mem_old hm_644)
  have hk_730 : Kd S_685 q_514 1 := by rw [eS_686]; exact (kd_nA (k := 19) (n := 4) hq_683 hm_644 hk_645)
  have hm_731 : q_596 ∈ hL S_685 := by rw [eS_686]; exact (mem_old hm_646)
  have hk_732 : Kd S_685 q_596 18 := by rw [eS_686]; exact (kd_nA (k := 19) (n := 4) hq_683 hm_646 hk_647)
  have hn_733 : Ln S_685 q_596 3 := by rw [eS_686]; exact (ln_nA (k := 19) hq_683 hm_646 hn_648)
  have hz_734 : ∀ j, aI S_685 q_596 j = 0 := by rw [eS_686]; exact (fun j9 => rd_nAI (k := 19) (n := 4) hq_683 hm_646 (hz_649 j9))
  have hm_735 : q_68 ∈ hL S_685 := by rw [eS_686]; exact (mem_old hm_650)
  have hk_736 : Kd S_685 q_68 8 := by rw [eS_686]; exact (kd_nA (k := 19) (n := 4) hq_683 hm_650 hk_651)
  have hm_737 : q_682 ∈ hL S_685 := by rw [eS_686]; exact mem_new
  have hk_738 : Kd S_685 q_682 19 := by rw [eS_686]; exact (kd_nA' (k := 19) (n := 4))
  have hn_739 : Ln S_685 q_682 4 := by rw [eS_686]; exact (ln_nA' (k := 19))
  have hz_740 : ∀ j, aI S_685 q_682 j = 0 := by rw [eS_686]; exact (fun j9 => rd_nAI' (k := 19) (n := 4))
  have hm_741 : q_73 ∈ hL S_685 := by rw [eS_686]; exact (mem_old hm_652)
  have hk_742 : Kd S_685 q_73 14 := by rw [eS_686]; exact (kd_nA (k := 19) (n := 4) hq_683 hm_652 hk_653)
  have hn_743 : Ln S_685 q_73 16 := by rw [eS_686]; exact (ln_nA (k := 19) hq_683 hm_652 hn_654)
  have hz_744 : ∀ j, aI S_685 q_73 j = 0 := by rw [eS_686]; exact (fun j9 => rd_nAI (k := 19) (n := 4) hq_683 hm_652 (hz_655 j9))
  have hv_745 : hI S_685 1000 q_163 = 1 := by rw [eS_686]; exact hv_656
  have hv_746 : hI S_685 1001 q_163 = 1 := by rw [eS_686]; exact hv_657
  have hv_747 : hI S_685 2 q_1 = 0 := by rw [eS_686]; exact hv_658
  have hv_748 : hI S_685 206 q_26 = 0 := by rw [eS_686]; exact hv_659
  have hv_749 : hI S_685 209 q_26 = 0 := by rw [eS_686]; exact hv_660
  have hv_750 : hI S_685 3 q_1 = 0 := by rw [eS_686]; exact hv_661
  have hv_751 : hI S_685 4 q_1 = 0 := by rw [eS_686]; exact hv_662
  have hv_752 : hI S_685 5 q_1 = 0 := by rw [eS_686]; exact hv_663
  have hv_753 : hR S_685 0 q_1 = (some q_5) := by rw [eS_686]; exact (rd_sRf (S := (nA S_600 q_682 19 4)) (g := 912) (a := h) (v := (some q_682)) (by decide) hv_664)
  have hv_754 : hR S_685 1003 q_163 = (some q_167) := by rw [eS_686]; exact (rd_sRf (S := (nA S_600 q_682 19 4)) (g := 912) (a := h) (v := (some q_682)) (by decide) hv_665)
  have hv_755 : hR S_685 200 q_26 = (some q_31) := by rw [eS_686]; exact (rd_sRf (S := (nA S_600 q_682 19 4)) (g := 912) (a := h) (v := (some q_682)) (by decide) hv_666)
  have hv_756 : hR S_685 800 q_223 = (some q_228) := by rw [eS_686]; exact (rd_sRf (S := (nA S_600 q_682 19 4)) (g := 912) (a := h) (v := (some q_682)) (by decide) hv_667)
  have hv_757 : hR S_685 800 q_31 = (some q_32) := by rw [eS_686]; exact (rd_sRf (S := (nA S_600 q_682 19 4)) (g := 912) (a := h) (v := (some q_682)) (by decide) hv_668)
  have hv_758 : hR S_685 800 q_68 = (some q_73) := by rw [eS_686]; exact (rd_sRf (S := (nA S_600 q_682 19 4)) (g := 912) (a := h) (v := (some q_682)) (by decide) hv_669)
  have hv_759 : hR S_685 901 h = (some q_1) := by rw [eS_686]; exact (rd_sRf (S := (nA S_600 q_682 19 4)) (g := 912) (a := h) (v := (some q_682)) (by decide) hv_670)
  have hv_760 : hR S_685 902 h = (some q_26) := by rw [eS_686]; exact (rd_sRf (S := (nA S_600 q_682 19 4)) (g := 912) (a := h) (v := (some q_682)) (by decide) hv_671)
  have hv_761 : hR S_685 903 h = (some q_68) := by rw [eS_686]; exact (rd_sRf (S := (nA S_600 q_682 19 4)) (g := 912) (a := h) (v := (some q_682)) (by decide) hv_672)
  have hv_762 : hR S_685 904 h = (some q_115) := by rw [eS_686]; exact (rd_sRf (S := (nA S_600 q_682 19 4)) (g := 912) (a := h) (v := (some q_682)) (by decide) hv_673)
  have hv_763 : hR S_685 905 h = (some q_163) := by rw [eS_686]; exact (rd_sRf (S := (nA S_600 q_682 19 4)) (g := 912) (a := h) (v := (some q_682)) (by decide) hv_674)
  have hv_764 : hR S_685 906 h = (some q_223) := by rw [eS_686]; exact (rd_sRf (S := (nA S_600 q_682 19 4)) (g := 912) (a := h) (v := (some q_682)) (by decide) hv_675)
  have hv_765 : hR S_685 907 h = (some q_292) := by rw [eS_686]; exact (rd_sRf (S := (nA S_600 q_682 19 4)) (g := 912) (a := h) (v := (some q_682)) (by decide) hv_676)
  have hv_766 : hR S_685 908 h = (some q_362) := by rw [eS_686]; exact (rd_sRf (S := (nA S_600 q_682 19 4)) (g := 912) (a := h) (v := (some q_682)) (by decide) hv_677)
  have hv_767 : hR S_685 909 h = (some q_436) := by rw [eS_686]; exact (rd_sRf (S := (nA S_600 q_682 19 4)) (g := 912) (a := h) (v := (some q_682)) (by decide) hv_678)
  have hv_768 : hR S_685 910 h = (some q_514) := by rw [eS_686]; exact (rd_sRf (S := (nA S_600 q_682 19 4)) (g := 912) (a := h) (v := (some q_682)) (by decide) hv_679)
  have hv_769 : hR S_685 911 h = (some q_596) := by rw [eS_686]; exact (rd_sRf (S := (nA S_600 q_682 19 4)) (g := 912) (a := h) (v := (some q_682)) (by decide) hv_680)
  have hv_770 : hR S_685 912 h = (some q_682) := by rw [eS_686]; exact (rd_sR (S := (nA S_600 q_682 19 4)) (g := 912) (a := h) (v := (some q_682)))
  have hf_771 : Fm (fun _ _ => False) (fun f9 b9 => b9 = h) (fun _ => False) S S_685 := by rw [eS_686]; exact hf_687
  refine j_newI (N := 12) C ka_int (by decide) (by decide) (Nat.le_of_ble_eq_true rfl) (M.cells (by decide)) (M.slots (Nat.le_of_ble_eq_true rfl)) dX9_init_126 (fun q_772 hq_773 => ?_)
  have hz_774 : q_772 ∉ hL S := fun h9 => hq_773 (hf_771.mem h9)
  refine j_putrF (f := 917) C hm9 flX9_74o (by decide) rfl rfl dX9_init_128 (mem_old hm_688) (kd_nA (k := 14) (n := 12) hq_773 hm_688 hk_689) rfl ?_
  refine j_aload_n C dX9_init_131 rfl 0 rfl ?_
  refine j_aload_n C dX9_init_132 rfl 1 rfl ?_
  refine j_putrF (f := 900) C hm9 flX9_77o (by decide) rfl rfl dX9_init_133 (mem_old hm_688) (kd_nA (k := 14) (n := 12) hq_773 hm_688 hk_689) rfl ?_
  show J _ _ _ _ _ 136 _
  refine j_iconst (v := 0) C dX9_init_136 (by decide) ?_
  refine j_istore_n (lv' := [(2, .int 0), (0, .ref h), (1, .ref s0)]) C dX9_init_137 rfl (by rw [hn9]; decide) rfl ?_
  have hf_777 : Fm (fun _ _ => False) (fun f9 b9 => b9 = h) (fun _ => False) S (sR (sR (nA S_685 q_772 14 12) 917 h (some q_772)) 900 h (some s0)) := (((hf_771.nA _ _ hq_773).sR _ (fun _ => rfl)).sR _ (fun _ => rfl))
  obtain ⟨S_775, eS_776⟩ : ∃ S9 : Hp, S9 = (sR (sR (nA S_685 q_772 14 12) 917 h (some q_772)) 900 h (some s0)) := ⟨_, rfl⟩
  refine J.eq (S' := S_775) eS_776.symm rfl rfl ?_
  have hm_778 : h ∈ hL S_775 := by rw [eS_776]; exact (mem_old hm_688)
  have hk_779 : Kd S_775 h 9 := by rw [eS_776]; exact (kd_nA (k := 14) (n := 12) hq_773 hm_688 hk_689)
  have hm_780 : q_1 ∈ hL S_775 := by rw [eS_776]; exact (mem_old hm_690)
  have hk_781 : Kd S_775 q_1 0 := by rw [eS_776]; exact (kd_nA (k := 14) (n := 12) hq_773 hm_690 hk_691)
  have hm_782 : q_115 ∈ hL S_775 := by rw [eS_776]; exact (mem_old hm_692)
  have hk_783 : Kd S_775 q_115 20 := by rw [eS_776]; exact (kd_nA (k := 14) (n := 12) hq_773 hm_692 hk_693)
  have hn_784 : Ln S_775 q_115 16 := by rw [eS_776]; exact (ln_nA (k := 14) hq_773 hm_692 hn_694)
  have hz_785 : ∀ j, aI S_775 q_115 j = 0 := by rw [eS_776]; exact (fun j9 => rd_nAI (k := 14) (n := 12) hq_773 hm_692 (hz_695 j9))
  have hm_786 : q_163 ∈ hL S_775 := by rw [eS_776]; exact (mem_old hm_696)
  have hk_787 : Kd S_775 q_163 10 := by rw [eS_776]; exact (kd_nA (k := 14) (n := 12) hq_773 hm_696 hk_697)
  have hm_788 : q_167 ∈ hL S_775 := by rw [eS_776]; exact (mem_old hm_698)
  have hk_789 : Kd S_775 q_167 15 := by rw [eS_776]; exact (kd_nA (k := 14) (n := 12) hq_773 hm_698 hk_699)
  have hn_790 : Ln S_775 q_167 16 := by rw [eS_776]; exact (ln_nA (k := 14) hq_773 hm_698 hn_700)
  have hm_791 : q_223 ∈ hL S_775 := by rw [eS_776]; exact (mem_old hm_701)
  have hk_792 : Kd S_775 q_223 8 := by rw [eS_776]; exact (kd_nA (k := 14) (n := 12) hq_773 hm_701 hk_702)
  have hm_793 : q_228 ∈ hL S_775 := by rw [eS_776]; exact (mem_old hm_703)
  have hk_794 : Kd S_775 q_228 14 := by rw [eS_776]; exact (kd_nA (k := 14) (n := 12) hq_773 hm_703 hk_704)
  have hn_795 : Ln S_775 q_228 16 := by rw [eS_776]; exact (ln_nA (k := 14) hq_773 hm_703 hn_705)
  have hz_796 : ∀ j, aI S_775 q_228 j = 0 := by rw [eS_776]; exact (fun j9 => rd_nAI (k := 14) (n := 12) hq_773 hm_703 (hz_706 j9))
  have hm_797 : q_26 ∈ hL S_775 := by rw [eS_776]; exact (mem_old hm_707)
  have hk_798 : Kd S_775 q_26 2 := by rw [eS_776]; exact (kd_nA (k := 14) (n := 12) hq_773 hm_707 hk_708)
  have hm_799 : q_292 ∈ hL S_775 := by rw [eS_776]; exact (mem_old hm_709)
  have hk_800 : Kd S_775 q_292 13 := by rw [eS_776]; exact (kd_nA (k := 14) (n := 12) hq_773 hm_709 hk_710)
  have hn_801 : Ln S_775 q_292 24000 := by rw [eS_776]; exact (ln_nA (k := 14) hq_773 hm_709 hn_711)
  have hz_802 : ∀ j, aI S_775 q_292 j = 0 := by rw [eS_776]; exact (fun j9 => rd_nAI (k := 14) (n := 12) hq_773 hm_709 (hz_712 j9))
  have hm_803 : q_31 ∈ hL S_775 := by rw [eS_776]; exact (mem_old hm_713)
  have hk_804 : Kd S_775 q_31 8 := by rw [eS_776]; exact (kd_nA (k := 14) (n := 12) hq_773 hm_713 hk_714)
  have hm_805 : q_32 ∈ hL S_775 := by rw [eS_776]; exact (mem_old hm_715)
  have hk_806 : Kd S_775 q_32 14 := by rw [eS_776]; exact (kd_nA (k := 14) (n := 12) hq_773 hm_715 hk_716)
  have hn_807 : Ln S_775 q_32 16 := by rw [eS_776]; exact (ln_nA (k := 14) hq_773 hm_715 hn_717)
  have hz_808 : ∀ j, aI S_775 q_32 j = 0 := by rw [eS_776]; exact (fun j9 => rd_nAI (k := 14) (n := 12) hq_773 hm_715 (hz_718 j9))
  have hm_809 : q_362 ∈ hL S_775 := by rw [eS_776]; exact (mem_old hm_719)
  have hk_810 : Kd S_775 q_362 14 := by rw [eS_776]; exact (kd_nA (k := 14) (n := 12) hq_773 hm_719 hk_720)
  have hn_811 : Ln S_775 q_362 16 := by rw [eS_776]; exact (ln_nA (k := 14) hq_773 hm_719 hn_721)
  have hz_812 : ∀ j, aI S_775 q_362 j = 0 := by rw [eS_776]; exact (fun j9 => rd_nAI (k := 14) (n := 12) hq_773 hm_719 (hz_722 j9))
  have hm_813 : q_436 ∈ hL S_775 := by rw [eS_776]; exact (mem_old hm_723)
  have hk_814 : Kd S_775 q_436 1 := by rw [eS_776]; exact (kd_nA (k := 14) (n := 12) hq_773 hm_723 hk_724)
  have hm_815 : q_5 ∈ hL S_775 := by rw [eS_776]; exact (mem_old hm_725)
  have hk_816 : Kd S_775 q_5 14 := by rw [eS_776]; exact (kd_nA (k := 14) (n := 12) hq_773 hm_725 hk_726)
  have hn_817 : Ln S_775 q_5 20000 := by rw [eS_776]; exact (ln_nA (k := 14) hq_773 hm_725 hn_727)
  have hz_818 : ∀ j, aI S_775 q_5 j = 0 := by rw [eS_776]; exact (fun j9 => rd_nAI (k := 14) (n := 12) hq_773 hm_725 (hz_728 j9))
  have hm_819 : q_514 ∈ hL S_775 := by rw [eS_776]; exact (mem_old hm_729)
  have hk_820 : Kd S_775 q_514 1 := by rw [eS_776]; exact (kd_nA (k := 14) (n := 12) hq_773 hm_729 hk_730)
  have hm_821 : q_596 ∈ hL S_775 := by rw [eS_776]; exact (mem_old hm_731)
  have hk_822 : Kd S_775 q_596 18 := by rw [eS_776]; exact (kd_nA (k := 14) (n := 12) hq_773 hm_731 hk_732)
  have hn_823 : Ln S_775 q_596 3 := by rw [eS_776]; exact (ln_nA (k := 14) hq_773 hm_731 hn_733)
  have hz_824 : ∀ j, aI S_775 q_596 j = 0 := by rw [eS_776]; exact (fun j9 => rd_nAI (k := 14) (n := 12) hq_773 hm_731 (hz_734 j9))
  have hm_825 : q_68 ∈ hL S_775 := by rw [eS_776]; exact (mem_old hm_735)
  have hk_826 : Kd S_775 q_68 8 := by rw [eS_776]; exact (kd_nA (k := 14) (n := 12) hq_773 hm_735 hk_736)
  have hm_827 : q_682 ∈ hL S_775 := by rw [eS_776]; exact (mem_old hm_737)
  have hk_828 : Kd S_775 q_682 19 := by rw [eS_776]; exact (kd_nA (k := 14) (n := 12) hq_773 hm_737 hk_738)
  have hn_829 : Ln S_775 q_682 4 := by rw [eS_776]; exact (ln_nA (k := 14) hq_773 hm_737 hn_739)
  have hz_830 : ∀ j, aI S_775 q_682 j = 0 := by rw [eS_776]; exact (fun j9 => rd_nAI (k := 14) (n := 12) hq_773 hm_737 (hz_740 j9))
  have hm_831 : q_73 ∈ hL S_775 := by rw [eS_776]; exact (mem_old hm_741)
  have hk_832 : Kd S_775 q_73 14 := by rw [eS_776]; exact (kd_nA (k := 14) (n := 12) hq_773 hm_741 hk_742)
  have hn_833 : Ln S_775 q_73 16 := by rw [eS_776]; exact (ln_nA (k := 14) hq_773 hm_741 hn_743)
  have hz_834 : ∀ j, aI S_775 q_73 j = 0 := by rw [eS_776]; exact (fun j9 => rd_nAI (k := 14) (n := 12) hq_773 hm_741 (hz_744 j9))
  have hm_835 : q_772 ∈ hL S_775 := by rw [eS_776]; exact mem_new
  have hk_836 : Kd S_775 q_772 14 := by rw [eS_776]; exact (kd_nA' (k := 14) (n := 12))
  have hn_837 : Ln S_775 q_772 12 := by rw [eS_776]; exact (ln_nA' (k := 14))
  have hz_838 : ∀ j, aI S_775 q_772 j = 0 := by rw [eS_776]; exact (fun j9 => rd_nAI' (k := 14) (n := 12))
  have hv_839 : hI S_775 1000 q_163 = 1 := by rw [eS_776]; exact hv_745
  have hv_840 : hI S_775 1001 q_163 = 1 := by rw [eS_776]; exact hv_746
  have hv_841 : hI S_775 2 q_1 = 0 := by rw [eS_776]; exact hv_747
  have hv_842 : hI S_775 206 q_26 = 0 := by rw [eS_776]; exact hv_748
  have hv_843 : hI S_775 209 q_26 = 0 := by rw [eS_776]; exact hv_749
  have hv_844 : hI S_775 3 q_1 = 0 := by rw [eS_776]; exact hv_750
  have hv_845 : hI S_775 4 q_1 = 0 := by rw [eS_776]; exact hv_751
  have hv_846 : hI S_775 5 q_1 = 0 := by rw [eS_776]; exact hv_752
  have hv_847 : hR S_775 0 q_1 = (some q_5) := by rw [eS_776]; exact (rd_sRf (S := (sR (nA S_685 q_772 14 12) 917 h (some q_772))) (g := 900) (a := h) (v := (some s0)) (by decide) (rd_sRf (S := (nA S_685 q_772 14 12)) (g := 917) (a := h) (v := (some q_772)) (by decide) hv_753))
  have hv_848 : hR S_775 1003 q_163 = (some q_167) := by rw [eS_776]; exact (rd_sRf (S := (sR (nA S_685 q_772 14 12) 917 h (some q_772))) (g := 900) (a := h) (v := (some s0)) (by decide) (rd_sRf (S := (nA S_685 q_772 14 12)) (g := 917) (a := h) (v := (some q_772)) (by decide) hv_754))
  have hv_849 : hR S_775 200 q_26 = (some q_31) := by rw [eS_776]; exact (rd_sRf (S := (sR (nA S_685 q_772 14 12) 917 h (some q_772))) (g := 900) (a := h) (v := (some s0)) (by decide) (rd_sRf (S := (nA S_685 q_772 14 12)) (g := 917) (a := h) (v := (some q_772)) (by decide) hv_755))
  have hv_850 : hR S_775 800 q_223 = (some q_228) := by rw [eS_776]; exact (rd_sRf (S := (sR (nA S_685 q_772 14 12) 917 h (some q_772))) (g := 900) (a := h) (v := (some s0)) (by decide) (rd_sRf (S := (nA S_685 q_772 14 12)) (g := 917) (a := h) (v := (some q_772)) (by decide) hv_756))
  have hv_851 : hR S_775 800 q_31 = (some q_32) := by rw [eS_776]; exact (rd_sRf (S := (sR (nA S_685 q_772 14 12) 917 h (some q_772))) (g := 900) (a := h) (v := (some s0)) (by decide) (rd_sRf (S := (nA S_685 q_772 14 12)) (g := 917) (a := h) (v := (some q_772)) (by decide) hv_757))
  have hv_852 : hR S_775 800 q_68 = (some q_73) := by rw [eS_776]; exact (rd_sRf (S := (sR (nA S_685 q_772 14 12) 917 h (some q_772))) (g := 900) (a := h) (v := (some s0)) (by decide) (rd_sRf (S := (nA S_685 q_772 14 12)) (g := 917) (a := h) (v := (some q_772)) (by decide) hv_758))
  have hv_853 : hR S_775 900 h = (some s0) := by rw [eS_776]; exact (rd_sR (S := (sR (nA S_685 q_772 14 12) 917 h (some q_772))) (g := 900) (a := h) (v := (some s0)))
  have hv_854 : hR S_775 901 h = (some q_1) := by rw [eS_776]; exact (rd_sRf (S := (sR (nA S_685 q_772 14 12) 917 h (some q_772))) (g := 900) (a := h) (v := (some s0)) (by decide) (rd_sRf (S := (nA S_685 q_772 14 12)) (g := 917) (a := h) (v := (some q_772)) (by decide) hv_759))
  have hv_855 : hR S_775 902 h = (some q_26) := by rw [eS_776]; exact (rd_sRf (S := (sR (nA S_685 q_772 14 12) 917 h (some q_772))) (g := 900) (a := h) (v := (some s0)) (by decide) (rd_sRf (S := (nA S_685 q_772 14 12)) (g := 917) (a := h) (v := (some q_772)) (by decide) hv_760))
  have hv_856 : hR S_775 903 h = (some q_68) := by rw [eS_776]; exact (rd_sRf (S := (sR (nA S_685 q_772 14 12) 917 h (some q_772))) (g := 900) (a := h) (v := (some s0)) (by decide) (rd_sRf (S := (nA S_685 q_772 14 12)) (g := 917) (a := h) (v := (some q_772)) (by decide) hv_761))
  have hv_857 : hR S_775 904 h = (some q_115) := by rw [eS_776]; exact (rd_sRf (S := (sR (nA S_685 q_772 14 12) 917 h (some q_772))) (g := 900) (a := h) (v := (some s0)) (by decide) (rd_sRf (S := (nA S_685 q_772 14 12)) (g := 917) (a := h) (v := (some q_772)) (by decide) hv_762))
  have hv_858 : hR S_775 905 h = (some q_163) := by rw [eS_776]; exact (rd_sRf (S := (sR (nA S_685 q_772 14 12) 917 h (some q_772))) (g := 900) (a := h) (v := (some s0)) (by decide) (rd_sRf (S := (nA S_685 q_772 14 12)) (g := 917) (a := h) (v := (some q_772)) (by decide) hv_763))
  have hv_859 : hR S_775 906 h = (some q_223) := by rw [eS_776]; exact (rd_sRf (S := (sR (nA S_685 q_772 14 12) 917 h (some q_772))) (g := 900) (a := h) (v := (some s0)) (by decide) (rd_sRf (S := (nA S_685 q_772 14 12)) (g := 917) (a := h) (v := (some q_772)) (by decide) hv_764))
  have hv_860 : hR S_775 907 h = (some q_292) := by rw [eS_776]; exact (rd_sRf (S := (sR (nA S_685 q_772 14 12) 917 h (some q_772))) (g := 900) (a := h) (v := (some s0)) (by decide) (rd_sRf (S := (nA S_685 q_772 14 12)) (g := 917) (a := h) (v := (some q_772)) (by decide) hv_765))
  have hv_861 : hR S_775 908 h = (some q_362) := by rw [eS_776]; exact (rd_sRf (S := (sR (nA S_685 q_772 14 12) 917 h (some q_772))) (g := 900) (a := h) (v := (some s0)) (by decide) (rd_sRf (S := (nA S_685 q_772 14 12)) (g := 917) (a := h) (v := (some q_772)) (by decide) hv_766))
  have hv_862 : hR S_775 909 h = (some q_436) := by rw [eS_776]; exact (rd_sRf (S := (sR (nA S_685 q_772 14 12) 917 h (some q_772))) (g := 900) (a := h) (v := (some s0)) (by decide) (rd_sRf (S := (nA S_685 q_772 14 12)) (g := 917) (a := h) (v := (some q_772)) (by decide) hv_767))
  have hv_863 : hR S_775 910 h = (some q_514) := by rw [eS_776]; exact (rd_sRf (S := (sR (nA S_685 q_772 14 12) 917 h (some q_772))) (g := 900) (a := h) (v := (some s0)) (by decide) (rd_sRf (S := (nA S_685 q_772 14 12)) (g := 917) (a := h) (v := (some q_772)) (by decide) hv_768))
  have hv_864 : hR S_775 911 h = (some q_596) := by rw [eS_776]; exact (rd_sRf (S := (sR (nA S_685 q_772 14 12) 917 h (some q_772))) (g := 900) (a := h) (v := (some s0)) (by decide) (rd_sRf (S := (nA S_685 q_772 14 12)) (g := 917) (a := h) (v := (some q_772)) (by decide) hv_769))
  have hv_865 : hR S_775 912 h = (some q_682) := by rw [eS_776]; exact (rd_sRf (S := (sR (nA S_685 q_772 14 12) 917 h (some q_772))) (g := 900) (a := h) (v := (some s0)) (by decide) (rd_sRf (S := (nA S_685 q_772 14 12)) (g := 917) (a := h) (v := (some q_772)) (by decide) hv_770))
  have hv_866 : hR S_775 917 h = (some q_772) := by rw [eS_776]; exact (rd_sRf (S := (sR (nA S_685 q_772 14 12) 917 h (some q_772))) (g := 900) (a := h) (v := (some s0)) (by decide) (rd_sR (S := (nA S_685 q_772 14 12)) (g := 917) (a := h) (v := (some q_772))))
  have hf_867 : Fm (fun _ _ => False) (fun f9 b9 => b9 = h) (fun _ => False) S S_775 := by rw [eS_776]; exact hf_777
  have loop_872 : ∀ (m9 i1 : Nat) (S_869 : Hp), i1 + m9 = 16 → Fm (fun _ _ => False) (fun _ _ => False) (fun b9 => b9 = q_115) S_775 S_869 → J x (0 + 1 + 4 + 1 + 8 + 1 + 1 + 1 + 1 + 1 + 1 + 1 + 1 + 1 + 1 + 8 + 1 + 8 + 1 + 1 + 1 + 2 * i1) (0 + 15 + 20045 + 10 + 23174 + 1 + 16 + 16 + 4 + 16 + 1 + 16 + 24000 + 16 + 21 + 117 + 21 + 117 + 3 + 4 + 12 + 20 * i1) S_869 [(2, .int (nI i1)), (0, .ref h), (1, .ref s0)] 138 [] := by
    intro m9
    induction m9 with
    | zero =>
      intro i1 S_869 hi_873 hl_870 
      have hz_874 : ∀ j, aI S_869 q_228 j = 0 := fun j9 => (hl_870.ai hm_793 (fun q9 => (fun e9 => absurd ((hk_794).symm.trans ((congrArg (hK _) e9).trans hk_783)) (by decide)) q9) j9).trans (hz_796 j9)
      have hz_875 : ∀ j, aI S_869 q_292 j = 0 := fun j9 => (hl_870.ai hm_799 (fun q9 => (fun e9 => absurd ((hk_800).symm.trans ((congrArg (hK _) e9).trans hk_783)) (by decide)) q9) j9).trans (hz_802 j9)
      have hz_876 : ∀ j, aI S_869 q_32 j = 0 := fun j9 => (hl_870.ai hm_805 (fun q9 => (fun e9 => absurd ((hk_806).symm.trans ((congrArg (hK _) e9).trans hk_783)) (by decide)) q9) j9).trans (hz_808 j9)
      have hz_877 : ∀ j, aI S_869 q_362 j = 0 := fun j9 => (hl_870.ai hm_809 (fun q9 => (fun e9 => absurd ((hk_810).symm.trans ((congrArg (hK _) e9).trans hk_783)) (by decide)) q9) j9).trans (hz_812 j9)
      have hz_878 : ∀ j, aI S_869 q_5 j = 0 := fun j9 => (hl_870.ai hm_815 (fun q9 => (fun e9 => absurd ((hk_816).symm.trans ((congrArg (hK _) e9).trans hk_783)) (by decide)) q9) j9).trans (hz_818 j9)
      have hz_879 : ∀ j, aI S_869 q_596 j = 0 := fun j9 => (hl_870.ai hm_821 (fun q9 => (fun e9 => absurd ((hk_822).symm.trans ((congrArg (hK _) e9).trans hk_783)) (by decide)) q9) j9).trans (hz_824 j9)
      have hz_880 : ∀ j, aI S_869 q_682 j = 0 := fun j9 => (hl_870.ai hm_827 (fun q9 => (fun e9 => absurd ((hk_828).symm.trans ((congrArg (hK _) e9).trans hk_783)) (by decide)) q9) j9).trans (hz_830 j9)
      have hz_881 : ∀ j, aI S_869 q_73 j = 0 := fun j9 => (hl_870.ai hm_831 (fun q9 => (fun e9 => absurd ((hk_832).symm.trans ((congrArg (hK _) e9).trans hk_783)) (by decide)) q9) j9).trans (hz_834 j9)
      have hz_882 : ∀ j, aI S_869 q_772 j = 0 := fun j9 => (hl_870.ai hm_835 (fun q9 => (fun e9 => absurd ((hk_836).symm.trans ((congrArg (hK _) e9).trans hk_783)) (by decide)) q9) j9).trans (hz_838 j9)
      have hm_883 : h ∈ hL S_869 := hl_870.mem hm_778
      have hk_884 : Kd S_869 h 9 := hl_870.kd hm_778 hk_779
      have hm_885 : q_1 ∈ hL S_869 := hl_870.mem hm_780
      have hk_886 : Kd S_869 q_1 0 := hl_870.kd hm_780 hk_781
      have hm_887 : q_115 ∈ hL S_869 := hl_870.mem hm_782
      have hk_888 : Kd S_869 q_115 20 := hl_870.kd hm_782 hk_783
      have hn_889 : Ln S_869 q_115 16 := hl_870.ln hm_782 hn_784
      have hm_890 : q_163 ∈ hL S_869 := hl_870.mem hm_786
      have hk_891 : Kd S_869 q_163 10 := hl_870.kd hm_786 hk_787
      have hm_892 : q_167 ∈ hL S_869 := hl_870.mem hm_788
      have hk_893 : Kd S_869 q_167 15 := hl_870.kd hm_788 hk_789
      have hn_894 : Ln S_869 q_167 16 := hl_870.ln hm_788 hn_790
      have hm_895 : q_223 ∈ hL S_869 := hl_870.mem hm_791
      have hk_896 : Kd S_869 q_223 8 := hl_870.kd hm_791 hk_792
      have hm_897 : q_228 ∈ hL S_869 := hl_870.mem hm_793
      have hk_898 : Kd S_869 q_228 14 := hl_870.kd hm_793 hk_794
      have hn_899 : Ln S_869 q_228 16 := hl_870.ln hm_793 hn_795
      have hm_900 : q_26 ∈ hL S_869 := hl_870.mem hm_797
      have hk_901 : Kd S_869 q_26 2 := hl_870.kd hm_797 hk_798
      have hm_902 : q_292 ∈ hL S_869 := hl_870.mem hm_799
      have hk_903 : Kd S_869 q_292 13 := hl_870.kd hm_799 hk_800
      have hn_904 : Ln S_869 q_292 24000 := hl_870.ln hm_799 hn_801
      have hm_905 : q_31 ∈ hL S_869 := hl_870.mem hm_803
      have hk_906 : Kd S_869 q_31 8 := hl_870.kd hm_803 hk_804
      have hm_907 : q_32 ∈ hL S_869 := hl_870.mem hm_805
      have hk_908 : Kd S_869 q_32 14 := hl_870.kd hm_805 hk_806
      have hn_909 : Ln S_869 q_32 16 := hl_870.ln hm_805 hn_807
      have hm_910 : q_362 ∈ hL S_869 := hl_870.mem hm_809
      have hk_911 : Kd S_869 q_362 14 := hl_870.kd hm_809 hk_810
      have hn_912 : Ln S_869 q_362 16 := hl_870.ln hm_809 hn_811
      have hm_913 : q_436 ∈ hL S_869 := hl_870.mem hm_813
      have hk_914 : Kd S_869 q_436 1 := hl_870.kd hm_813 hk_814
      have hm_915 : q_5 ∈ hL S_869 := hl_870.mem hm_815
      have hk_916 : Kd S_869 q_5 14 := hl_870.kd hm_815 hk_816
      have hn_917 : Ln S_869 q_5 20000 := hl_870.ln hm_815 hn_817
      have hm_918 : q_514 ∈ hL S_869 := hl_870.mem hm_819
      have hk_919 : Kd S_869 q_514 1 := hl_870.kd hm_819 hk_820
      have hm_920 : q_596 ∈ hL S_869 := hl_870.mem hm_821
      have hk_921 : Kd S_869 q_596 18 := hl_870.kd hm_821 hk_822
      have hn_922 : Ln S_869 q_596 3 := hl_870.ln hm_821 hn_823
      have hm_923 : q_68 ∈ hL S_869 := hl_870.mem hm_825
      have hk_924 : Kd S_869 q_68 8 := hl_870.kd hm_825 hk_826
      have hm_925 : q_682 ∈ hL S_869 := hl_870.mem hm_827
      have hk_926 : Kd S_869 q_682 19 := hl_870.kd hm_827 hk_828
      have hn_927 : Ln S_869 q_682 4 := hl_870.ln hm_827 hn_829
      have hm_928 : q_73 ∈ hL S_869 := hl_870.mem hm_831
      have hk_929 : Kd S_869 q_73 14 := hl_870.kd hm_831 hk_832
      have hn_930 : Ln S_869 q_73 16 := hl_870.ln hm_831 hn_833
      have hm_931 : q_772 ∈ hL S_869 := hl_870.mem hm_835
      have hk_932 : Kd S_869 q_772 14 := hl_870.kd hm_835 hk_836
      have hn_933 : Ln S_869 q_772 12 := hl_870.ln hm_835 hn_837
      have hv_934 : hI S_869 1000 q_163 = 1 := hl_870.fi hm_786 (fun h9 => h9) hv_839
      have hv_935 : hI S_869 1001 q_163 = 1 := hl_870.fi hm_786 (fun h9 => h9) hv_840
      have hv_936 : hI S_869 2 q_1 = 0 := hl_870.fi hm_780 (fun h9 => h9) hv_841
      have hv_937 : hI S_869 206 q_26 = 0 := hl_870.fi hm_797 (fun h9 => h9) hv_842
      have hv_938 : hI S_869 209 q_26 = 0 := hl_870.fi hm_797 (fun h9 => h9) hv_843
      have hv_939 : hI S_869 3 q_1 = 0 := hl_870.fi hm_780 (fun h9 => h9) hv_844
      have hv_940 : hI S_869 4 q_1 = 0 := hl_870.fi hm_780 (fun h9 => h9) hv_845
      have hv_941 : hI S_869 5 q_1 = 0 := hl_870.fi hm_780 (fun h9 => h9) hv_846
      have hv_942 : hR S_869 0 q_1 = (some q_5) := hl_870.fr hm_780 (fun h9 => h9) hv_847
      have hv_943 : hR S_869 1003 q_163 = (some q_167) := hl_870.fr hm_786 (fun h9 => h9) hv_848
      have hv_944 : hR S_869 200 q_26 = (some q_31) := hl_870.fr hm_797 (fun h9 => h9) hv_849
      have hv_945 : hR S_869 800 q_223 = (some q_228) := hl_870.fr hm_791 (fun h9 => h9) hv_850
      have hv_946 : hR S_869 800 q_31 = (some q_32) := hl_870.fr hm_803 (fun h9 => h9) hv_851
      have hv_947 : hR S_869 800 q_68 = (some q_73) := hl_870.fr hm_825 (fun h9 => h9) hv_852
      have hv_948 : hR S_869 900 h = (some s0) := hl_870.fr hm_778 (fun h9 => h9) hv_853
      have hv_949 : hR S_869 901 h = (some q_1) := hl_870.fr hm_778 (fun h9 => h9) hv_854
      have hv_950 : hR S_869 902 h = (some q_26) := hl_870.fr hm_778 (fun h9 => h9) hv_855
      have hv_951 : hR S_869 903 h = (some q_68) := hl_870.fr hm_778 (fun h9 => h9) hv_856
      have hv_952 : hR S_869 904 h = (some q_115) := hl_870.fr hm_778 (fun h9 => h9) hv_857
      have hv_953 : hR S_869 905 h = (some q_163) := hl_870.fr hm_778 (fun h9 => h9) hv_858
      have hv_954 : hR S_869 906 h = (some q_223) := hl_870.fr hm_778 (fun h9 => h9) hv_859
      have hv_955 : hR S_869 907 h = (some q_292) := hl_870.fr hm_778 (fun h9 => h9) hv_860
      have hv_956 : hR S_869 908 h = (some q_362) := hl_870.fr hm_778 (fun h9 => h9) hv_861
      have hv_957 : hR S_869 909 h = (some q_436) := hl_870.fr hm_778 (fun h9 => h9) hv_862
      have hv_958 : hR S_869 910 h = (some q_514) := hl_870.fr hm_778 (fun h9 => h9) hv_863
      have hv_959 : hR S_869 911 h = (some q_596) := hl_870.fr hm_778 (fun h9 => h9) hv_864
      have hv_960 : hR S_869 912 h = (some q_682) := hl_870.fr hm_778 (fun h9 => h9) hv_865
      have hv_961 : hR S_869 917 h = (some q_772) := hl_870.fr hm_778 (fun h9 => h9) hv_866
      have hf_962 : Fm (fun _ _ => False) (fun f9 b9 => b9 = h) (fun _ => False) S S_869 := hf_867.then hl_870 (fun a9 ha9 => ⟨(fun f9 h9 => h9.elim), (fun f9 h9 => h9.elim), (fun h9 => (fun h8 => absurd (h8 ▸ ha9) hz_118) h9)⟩)
      refine j_iload_n C dX9_init_138 rfl 0 rfl ?_
      refine j_aload_n C dX9_init_139 rfl 1 rfl ?_
      refine j_getr (f := 904) (v := q_115) C flX9_34 dX9_init_140 hm_883 hk_884 (by decide) rfl hv_952 ?_
      refine j_alen (v := 16) C dX9_init_143 hm_887 hk_888 (by decide) (by decide) (len_of (n := 16) hn_889 (by decide)) ?_
      refine j_ic_ge (tgt := 166) C dX9_init_144 (by decide) (fun c_144 => ?_) (fun c_144 => absurd (nI_le (a := 16) (by omega) (by omega)) c_144)
      refine j_iconst (v := 0) C dX9_init_166 (by decide) ?_
      refine j_istore_n (lv' := [(2, .int 0), (0, .ref h), (1, .ref s0)]) C dX9_init_167 rfl (by rw [hn9]; decide) rfl ?_
      show J _ _ _ _ _ 168 _
      have loop_967 : ∀ (m9 i2 : Nat) (S_964 : Hp), i2 + m9 = 3 → Fm (fun _ _ => False) (fun _ _ => False) (fun b9 => b9 = q_596) S_869 S_964 → J x ((0 + 1 + 4 + 1 + 8 + 1 + 1 + 1 + 1 + 1 + 1 + 1 + 1 + 1 + 1 + 8 + 1 + 8 + 1 + 1 + 1 + 2 * i1) + 9 * i2) ((0 + 15 + 20045 + 10 + 23174 + 1 + 16 + 16 + 4 + 16 + 1 + 16 + 24000 + 16 + 21 + 117 + 21 + 117 + 3 + 4 + 12 + 20 * i1) + 138 * i2) S_964 [(2, .int (nI i2)), (0, .ref h), (1, .ref s0)] 168 [] := by
        intro m9
        induction m9 with
        | zero =>
          intro i2 S_964 hi_968 hl_965 
          have hz_969 : ∀ j, aI S_964 q_228 j = 0 := fun j9 => (hl_965.ai hm_897 (fun q9 => (fun e9 => absurd ((hk_898).symm.trans ((congrArg (hK _) e9).trans hk_921)) (by decide)) q9) j9).trans (hz_874 j9)
          have hz_970 : ∀ j, aI S_964 q_292 j = 0 := fun j9 => (hl_965.ai hm_902 (fun q9 => (fun e9 => absurd ((hk_903).symm.trans ((congrArg (hK _) e9).trans hk_921)) (by decide)) q9) j9).trans (hz_875 j9)
          have hz_971 : ∀ j, aI S_964 q_32 j = 0 := fun j9 => (hl_965.ai hm_907 (fun q9 => (fun e9 => absurd ((hk_908).symm.trans ((congrArg (hK _) e9).trans hk_921)) (by decide)) q9) j9).trans (hz_876 j9)
          have hz_972 : ∀ j, aI S_964 q_362 j = 0 := fun j9 => (hl_965.ai hm_910 (fun q9 => (fun e9 => absurd ((hk_911).symm.trans ((congrArg (hK _) e9).trans hk_921)) (by decide)) q9) j9).trans (hz_877 j9)
          have hz_973 : ∀ j, aI S_964 q_5 j = 0 := fun j9 => (hl_965.ai hm_915 (fun q9 => (fun e9 => absurd ((hk_916).symm.trans ((congrArg (hK _) e9).trans hk_921)) (by decide)) q9) j9).trans (hz_878 j9)
          have hz_974 : ∀ j, aI S_964 q_682 j = 0 := fun j9 => (hl_965.ai hm_925 (fun q9 => (fun e9 => absurd ((hk_926).symm.trans ((congrArg (hK _) e9).trans hk_921)) (by decide)) q9) j9).trans (hz_880 j9)
          have hz_975 : ∀ j, aI S_964 q_73 j = 0 := fun j9 => (hl_965.ai hm_928 (fun q9 => (fun e9 => absurd ((hk_929).symm.trans ((congrArg (hK _) e9).trans hk_921)) (by decide)) q9) j9).trans (hz_881 j9)
          have hz_976 : ∀ j, aI S_964 q_772 j = 0 := fun j9 => (hl_965.ai hm_931 (fun q9 => (fun e9 => absurd ((hk_932).symm.trans ((congrArg (hK _) e9).trans hk_921)) (by decide)) q9) j9).trans (hz_882 j9)
          have hm_977 : h ∈ hL S_964 := hl_965.mem hm_883
          have hk_978 : Kd S_964 h 9 := hl_965.kd hm_883 hk_884
          have hm_979 : q_1 ∈ hL S_964 := hl_965.mem hm_885
          have hk_980 : Kd S_964 q_1 0 := hl_965.kd hm_885 hk_886
          have hm_981 : q_115 ∈ hL S_964 := hl_965.mem hm_887
          have hk_982 : Kd S_964 q_115 20 := hl_965.kd hm_887 hk_888
          have hn_983 : Ln S_964 q_115 16 := hl_965.ln hm_887 hn_889
          have hm_984 : q_163 ∈ hL S_964 := hl_965.mem hm_890
          have hk_985 : Kd S_964 q_163 10 := hl_965.kd hm_890 hk_891
          have hm_986 : q_167 ∈ hL S_964 := hl_965.mem hm_892
          have hk_987 : Kd S_964 q_167 15 := hl_965.kd hm_892 hk_893
          have hn_988 : Ln S_964 q_167 16 := hl_965.ln hm_892 hn_894
          have hm_989 : q_223 ∈ hL S_964 := hl_965.mem hm_895
          have hk_990 : Kd S_964 q_223 8 := hl_965.kd hm_895 hk_896
          have hm_991 : q_228 ∈ hL S_964 := hl_965.mem hm_897
          have hk_992 : Kd S_964 q_228 14 := hl_965.kd hm_897 hk_898
          have hn_993 : Ln S_964 q_228 16 := hl_965.ln hm_897 hn_899
          have hm_994 : q_26 ∈ hL S_964 := hl_965.mem hm_900
          have hk_995 : Kd S_964 q_26 2 := hl_965.kd hm_900 hk_901
          have hm_996 : q_292 ∈ hL S_964 := hl_965.mem hm_902
          have hk_997 : Kd S_964 q_292 13 := hl_965.kd hm_902 hk_903
          have hn_998 : Ln S_964 q_292 24000 := hl_965.ln hm_902 hn_904
          have hm_999 : q_31 ∈ hL S_964 := hl_965.mem hm_905
          have hk_1000 : Kd S_964 q_31 8 := hl_965.kd hm_905 hk_906
          have hm_1001 : q_32 ∈ hL S_964 := hl_965.mem hm_907
          have hk_1002 : Kd S_964 q_32 14 := hl_965.kd hm_907 hk_908
          have hn_1003 : Ln S_964 q_32 16 := hl_965.ln hm_907 hn_909
          have hm_1004 : q_362 ∈ hL S_964 := hl_965.mem hm_910
          have hk_1005 : Kd S_964 q_362 14 := hl_965.kd hm_910 hk_911
          have hn_1006 : Ln S_964 q_362 16 := hl_965.ln hm_910 hn_912
          have hm_1007 : q_436 ∈ hL S_964 := hl_965.mem hm_913
          have hk_1008 : Kd S_964 q_436 1 := hl_965.kd hm_913 hk_914
          have hm_1009 : q_5 ∈ hL S_964 := hl_965.mem hm_915
          have hk_1010 : Kd S_964 q_5 14 := hl_965.kd hm_915 hk_916
          have hn_1011 : Ln S_964 q_5 20000 := hl_965.ln hm_915 hn_917
          have hm_1012 : q_514 ∈ hL S_964 := hl_965.mem hm_918
          have hk_1013 : Kd S_964 q_514 1 := hl_965.kd hm_918 hk_919
          have hm_1014 : q_596 ∈ hL S_964 := hl_965.mem hm_920
          have hk_1015 : Kd S_964 q_596 18 := hl_965.kd hm_920 hk_921
          have hn_1016 : Ln S_964 q_596 3 := hl_965.ln hm_920 hn_922
          have hm_1017 : q_68 ∈ hL S_964 := hl_965.mem hm_923
          have hk_1018 : Kd S_964 q_68 8 := hl_965.kd hm_923 hk_924
          have hm_1019 : q_682 ∈ hL S_964 := hl_965.mem hm_925
          have hk_1020 : Kd S_964 q_682 19 := hl_965.kd hm_925 hk_926
          have hn_1021 : Ln S_964 q_682 4 := hl_965.ln hm_925 hn_927
          have hm_1022 : q_73 ∈ hL S_964 := hl_965.mem hm_928
          have hk_1023 : Kd S_964 q_73 14 := hl_965.kd hm_928 hk_929
          have hn_1024 : Ln S_964 q_73 16 := hl_965.ln hm_928 hn_930
          have hm_1025 : q_772 ∈ hL S_964 := hl_965.mem hm_931
          have hk_1026 : Kd S_964 q_772 14 := hl_965.kd hm_931 hk_932
          have hn_1027 : Ln S_964 q_772 12 := hl_965.ln hm_931 hn_933
          have hv_1028 : hI S_964 1000 q_163 = 1 := hl_965.fi hm_890 (fun h9 => h9) hv_934
          have hv_1029 : hI S_964 1001 q_163 = 1 := hl_965.fi hm_890 (fun h9 => h9) hv_935
          have hv_1030 : hI S_964 2 q_1 = 0 := hl_965.fi hm_885 (fun h9 => h9) hv_936
          have hv_1031 : hI S_964 206 q_26 = 0 := hl_965.fi hm_900 (fun h9 => h9) hv_937
          have hv_1032 : hI S_964 209 q_26 = 0 := hl_965.fi hm_900 (fun h9 => h9) hv_938
          have hv_1033 : hI S_964 3 q_1 = 0 := hl_965.fi hm_885 (fun h9 => h9) hv_939
          have hv_1034 : hI S_964 4 q_1 = 0 := hl_965.fi hm_885 (fun h9 => h9) hv_940
          have hv_1035 : hI S_964 5 q_1 = 0 := hl_965.fi hm_885 (fun h9 => h9) hv_941
          have hv_1036 : hR S_964 0 q_1 = (some q_5) := hl_965.fr hm_885 (fun h9 => h9) hv_942
          have hv_1037 : hR S_964 1003 q_163 = (some q_167) := hl_965.fr hm_890 (fun h9 => h9) hv_943
          have hv_1038 : hR S_964 200 q_26 = (some q_31) := hl_965.fr hm_900 (fun h9 => h9) hv_944
          have hv_1039 : hR S_964 800 q_223 = (some q_228) := hl_965.fr hm_895 (fun h9 => h9) hv_945
          have hv_1040 : hR S_964 800 q_31 = (some q_32) := hl_965.fr hm_905 (fun h9 => h9) hv_946
          have hv_1041 : hR S_964 800 q_68 = (some q_73) := hl_965.fr hm_923 (fun h9 => h9) hv_947
          have hv_1042 : hR S_964 900 h = (some s0) := hl_965.fr hm_883 (fun h9 => h9) hv_948
          have hv_1043 : hR S_964 901 h = (some q_1) := hl_965.fr hm_883 (fun h9 => h9) hv_949
          have hv_1044 : hR S_964 902 h = (some q_26) := hl_965.fr hm_883 (fun h9 => h9) hv_950
          have hv_1045 : hR S_964 903 h = (some q_68) := hl_965.fr hm_883 (fun h9 => h9) hv_951
          have hv_1046 : hR S_964 904 h = (some q_115) := hl_965.fr hm_883 (fun h9 => h9) hv_952
          have hv_1047 : hR S_964 905 h = (some q_163) := hl_965.fr hm_883 (fun h9 => h9) hv_953
          have hv_1048 : hR S_964 906 h = (some q_223) := hl_965.fr hm_883 (fun h9 => h9) hv_954
          have hv_1049 : hR S_964 907 h = (some q_292) := hl_965.fr hm_883 (fun h9 => h9) hv_955
          have hv_1050 : hR S_964 908 h = (some q_362) := hl_965.fr hm_883 (fun h9 => h9) hv_956
          have hv_1051 : hR S_964 909 h = (some q_436) := hl_965.fr hm_883 (fun h9 => h9) hv_957
          have hv_1052 : hR S_964 910 h = (some q_514) := hl_965.fr hm_883 (fun h9 => h9) hv_958
          have hv_1053 : hR S_964 911 h = (some q_596) := hl_965.fr hm_883 (fun h9 => h9) hv_959
          have hv_1054 : hR S_964 912 h = (some q_682) := hl_965.fr hm_883 (fun h9 => h9) hv_960
          have hv_1055 : hR S_964 917 h = (some q_772) := hl_965.fr hm_883 (fun h9 => h9) hv_961
          have hf_1056 : Fm (fun _ _ => False) (fun f9 b9 => b9 = h) (fun _ => False) S S_964 := hf_962.then hl_965 (fun a9 ha9 => ⟨(fun f9 h9 => h9.elim), (fun f9 h9 => h9.elim), (fun h9 => (fun h8 => absurd (h8 ▸ ha9) hz_599) h9)⟩)
          refine j_iload_n C dX9_init_168 rfl 0 rfl ?_
          refine j_aload_n C dX9_init_169 rfl 1 rfl ?_
          refine j_getr (f := 911) (v := q_596) C flX9_64 dX9_init_170 hm_977 hk_978 (by decide) rfl hv_1053 ?_
          refine j_alen (v := 3) C dX9_init_173 hm_1014 hk_1015 (by decide) (by decide) (len_of (n := 3) hn_1016 (by decide)) ?_
          refine j_ic_ge (tgt := 196) C dX9_init_174 (by decide) (fun c_174 => ?_) (fun c_174 => absurd (nI_le (a := 3) (by omega) (by omega)) c_174)
          refine j_iconst (v := 0) C dX9_init_196 (by decide) ?_
          refine j_istore_n (lv' := [(2, .int 0), (0, .ref h), (1, .ref s0)]) C dX9_init_197 rfl (by rw [hn9]; decide) rfl ?_
          have loop_1061 : ∀ (m9 i3 : Nat) (S_1058 : Hp), i3 + m9 = 4 → Fm (fun _ _ => False) (fun _ _ => False) (fun b9 => b9 = q_682) S_964 S_1058 → J x (((0 + 1 + 4 + 1 + 8 + 1 + 1 + 1 + 1 + 1 + 1 + 1 + 1 + 1 + 1 + 8 + 1 + 8 + 1 + 1 + 1 + 2 * i1) + 9 * i2) + 2 * i3) (((0 + 15 + 20045 + 10 + 23174 + 1 + 16 + 16 + 4 + 16 + 1 + 16 + 24000 + 16 + 21 + 117 + 21 + 117 + 3 + 4 + 12 + 20 * i1) + 138 * i2) + 13 * i3) S_1058 [(2, .int (nI i3)), (0, .ref h), (1, .ref s0)] 198 [] := by
            intro m9
            induction m9 with
            | zero =>
              intro i3 S_1058 hi_1062 hl_1059 
              have hz_1063 : ∀ j, aI S_1058 q_228 j = 0 := fun j9 => (hl_1059.ai hm_991 (fun q9 => (fun e9 => absurd ((hk_992).symm.trans ((congrArg (hK _) e9).trans hk_1020)) (by decide)) q9) j9).trans (hz_969 j9)
              have hz_1064 : ∀ j, aI S_1058 q_292 j = 0 := fun j9 => (hl_1059.ai hm_996 (fun q9 => (fun e9 => absurd ((hk_997).symm.trans ((congrArg (hK _) e9).trans hk_1020)) (by decide)) q9) j9).trans (hz_970 j9)
              have hz_1065 : ∀ j, aI S_1058 q_32 j = 0 := fun j9 => (hl_1059.ai hm_1001 (fun q9 => (fun e9 => absurd ((hk_1002).symm.trans ((congrArg (hK _) e9).trans hk_1020)) (by decide)) q9) j9).trans (hz_971 j9)
              have hz_1066 : ∀ j, aI S_1058 q_362 j = 0 := fun j9 => (hl_1059.ai hm_1004 (fun q9 => (fun e9 => absurd ((hk_1005).symm.trans ((congrArg (hK _) e9).trans hk_1020)) (by decide)) q9) j9).trans (hz_972 j9)
              have hz_1067 : ∀ j, aI S_1058 q_5 j = 0 := fun j9 => (hl_1059.ai hm_1009 (fun q9 => (fun e9 => absurd ((hk_1010).symm.trans ((congrArg (hK _) e9).trans hk_1020)) (by decide)) q9) j9).trans (hz_973 j9)
              have hz_1068 : ∀ j, aI S_1058 q_73 j = 0 := fun j9 => (hl_1059.ai hm_1022 (fun q9 => (fun e9 => absurd ((hk_1023).symm.trans ((congrArg (hK _) e9).trans hk_1020)) (by decide)) q9) j9).trans (hz_975 j9)
              have hz_1069 : ∀ j, aI S_1058 q_772 j = 0 := fun j9 => (hl_1059.ai hm_1025 (fun q9 => (fun e9 => absurd ((hk_1026).symm.trans ((congrArg (hK _) e9).trans hk_1020)) (by decide)) q9) j9).trans (hz_976 j9)
              have hm_1070 : h ∈ hL S_1058 := hl_1059.mem hm_977
              have hk_1071 : Kd S_1058 h 9 := hl_1059.kd hm_977 hk_978
              have hm_1072 : q_1 ∈ hL S_1058 := hl_1059.mem hm_979
              have hk_1073 : Kd S_1058 q_1 0 := hl_1059.kd hm_979 hk_980
              have hm_1074 : q_115 ∈ hL S_1058 := hl_1059.mem hm_981
              have hk_1075 : Kd S_1058 q_115 20 := hl_1059.kd hm_981 hk_982
              have hn_1076 : Ln S_1058 q_115 16 := hl_1059.ln hm_981 hn_983
              have hm_1077 : q_163 ∈ hL S_1058 := hl_1059.mem hm_984
              have hk_1078 : Kd S_1058 q_163 10 := hl_1059.kd hm_984 hk_985
              have hm_1079 : q_167 ∈ hL S_1058 := hl_1059.mem hm_986
              have hk_1080 : Kd S_1058 q_167 15 := hl_1059.kd hm_986 hk_987
              have hn_1081 : Ln S_1058 q_167 16 := hl_1059.ln hm_986 hn_988
              have hm_1082 : q_223 ∈ hL S_1058 := hl_1059.mem hm_989
              have hk_1083 : Kd S_1058 q_223 8 := hl_1059.kd hm_989 hk_990
              have hm_1084 : q_228 ∈ hL S_1058 := hl_1059.mem hm_991
              have hk_1085 : Kd S_1058 q_228 14 := hl_1059.kd hm_991 hk_992
              have hn_1086 : Ln S_1058 q_228 16 := hl_1059.ln hm_991 hn_993
              have hm_1087 : q_26 ∈ hL S_1058 := hl_1059.mem hm_994
              have hk_1088 : Kd S_1058 q_26 2 := hl_1059.kd hm_994 hk_995
              have hm_1089 : q_292 ∈ hL S_1058 := hl_1059.mem hm_996
              have hk_1090 : Kd S_1058 q_292 13 := hl_1059.kd hm_996 hk_997
              have hn_1091 : Ln S_1058 q_292 24000 := hl_1059.ln hm_996 hn_998
              have hm_1092 : q_31 ∈ hL S_1058 := hl_1059.mem hm_999
              have hk_1093 : Kd S_1058 q_31 8 := hl_1059.kd hm_999 hk_1000
              have hm_1094 : q_32 ∈ hL S_1058 := hl_1059.mem hm_1001
              have hk_1095 : Kd S_1058 q_32 14 := hl_1059.kd hm_1001 hk_1002
              have hn_1096 : Ln S_1058 q_32 16 := hl_1059.ln hm_1001 hn_1003
              have hm_1097 : q_362 ∈ hL S_1058 := hl_1059.mem hm_1004
              have hk_1098 : Kd S_1058 q_362 14 := hl_1059.kd hm_1004 hk_1005
              have hn_1099 : Ln S_1058 q_362 16 := hl_1059.ln hm_1004 hn_1006
              have hm_1100 : q_436 ∈ hL S_1058 := hl_1059.mem hm_1007
              have hk_1101 : Kd S_1058 q_436 1 := hl_1059.kd hm_1007 hk_1008
              have hm_1102 : q_5 ∈ hL S_1058 := hl_1059.mem hm_1009
              have hk_1103 : Kd S_1058 q_5 14 := hl_1059.kd hm_1009 hk_1010
              have hn_1104 : Ln S_1058 q_5 20000 := hl_1059.ln hm_1009 hn_1011
              have hm_1105 : q_514 ∈ hL S_1058 := hl_1059.mem hm_1012
              have hk_1106 : Kd S_1058 q_514 1 := hl_1059.kd hm_1012 hk_1013
              have hm_1107 : q_596 ∈ hL S_1058 := hl_1059.mem hm_1014
              have hk_1108 : Kd S_1058 q_596 18 := hl_1059.kd hm_1014 hk_1015
              have hn_1109 : Ln S_1058 q_596 3 := hl_1059.ln hm_1014 hn_1016
              have hm_1110 : q_68 ∈ hL S_1058 := hl_1059.mem hm_1017
              have hk_1111 : Kd S_1058 q_68 8 := hl_1059.kd hm_1017 hk_1018
              have hm_1112 : q_682 ∈ hL S_1058 := hl_1059.mem hm_1019
              have hk_1113 : Kd S_1058 q_682 19 := hl_1059.kd hm_1019 hk_1020
              have hn_1114 : Ln S_1058 q_682 4 := hl_1059.ln hm_1019 hn_1021
              have hm_1115 : q_73 ∈ hL S_1058 := hl_1059.mem hm_1022
              have hk_1116 : Kd S_1058 q_73 14 := hl_1059.kd hm_1022 hk_1023
              have hn_1117 : Ln S_1058 q_73 16 := hl_1059.ln hm_1022 hn_1024
              have hm_1118 : q_772 ∈ hL S_1058 := hl_1059.mem hm_1025
              have hk_1119 : Kd S_1058 q_772 14 := hl_1059.kd hm_1025 hk_1026
              have hn_1120 : Ln S_1058 q_772 12 := hl_1059.ln hm_1025 hn_1027
              have hv_1121 : hI S_1058 1000 q_163 = 1 := hl_1059.fi hm_984 (fun h9 => h9) hv_1028
              have hv_1122 : hI S_1058 1001 q_163 = 1 := hl_1059.fi hm_984 (fun h9 => h9) hv_1029
              have hv_1123 : hI S_1058 2 q_1 = 0 := hl_1059.fi hm_979 (fun h9 => h9) hv_1030
              have hv_1124 : hI S_1058 206 q_26 = 0 := hl_1059.fi hm_994 (fun h9 => h9) hv_1031
              have hv_1125 : hI S_1058 209 q_26 = 0 := hl_1059.fi hm_994 (fun h9 => h9) hv_1032
              have hv_1126 : hI S_1058 3 q_1 = 0 := hl_1059.fi hm_979 (fun h9 => h9) hv_1033
              have hv_1127 : hI S_1058 4 q_1 = 0 := hl_1059.fi hm_979 (fun h9 => h9) hv_1034
              have hv_1128 : hI S_1058 5 q_1 = 0 := hl_1059.fi hm_979 (fun h9 => h9) hv_1035
              have hv_1129 : hR S_1058 0 q_1 = (some q_5) := hl_1059.fr hm_979 (fun h9 => h9) hv_1036
              have hv_1130 : hR S_1058 1003 q_163 = (some q_167) := hl_1059.fr hm_984 (fun h9 => h9) hv_1037
              have hv_1131 : hR S_1058 200 q_26 = (some q_31) := hl_1059.fr hm_994 (fun h9 => h9) hv_1038
              have hv_1132 : hR S_1058 800 q_223 = (some q_228) := hl_1059.fr hm_989 (fun h9 => h9) hv_1039
              have hv_1133 : hR S_1058 800 q_31 = (some q_32) := hl_1059.fr hm_999 (fun h9 => h9) hv_1040
              have hv_1134 : hR S_1058 800 q_68 = (some q_73) := hl_1059.fr hm_1017 (fun h9 => h9) hv_1041
              have hv_1135 : hR S_1058 900 h = (some s0) := hl_1059.fr hm_977 (fun h9 => h9) hv_1042
              have hv_1136 : hR S_1058 901 h = (some q_1) := hl_1059.fr hm_977 (fun h9 => h9) hv_1043
              have hv_1137 : hR S_1058 902 h = (some q_26) := hl_1059.fr hm_977 (fun h9 => h9) hv_1044
              have hv_1138 : hR S_1058 903 h = (some q_68) := hl_1059.fr hm_977 (fun h9 => h9) hv_1045
              have hv_1139 : hR S_1058 904 h = (some q_115) := hl_1059.fr hm_977 (fun h9 => h9) hv_1046
              have hv_1140 : hR S_1058 905 h = (some q_163) := hl_1059.fr hm_977 (fun h9 => h9) hv_1047
              have hv_1141 : hR S_1058 906 h = (some q_223) := hl_1059.fr hm_977 (fun h9 => h9) hv_1048
              have hv_1142 : hR S_1058 907 h = (some q_292) := hl_1059.fr hm_977 (fun h9 => h9) hv_1049
              have hv_1143 : hR S_1058 908 h = (some q_362) := hl_1059.fr hm_977 (fun h9 => h9) hv_1050
              have hv_1144 : hR S_1058 909 h = (some q_436) := hl_1059.fr hm_977 (fun h9 => h9) hv_1051
              have hv_1145 : hR S_1058 910 h = (some q_514) := hl_1059.fr hm_977 (fun h9 => h9) hv_1052
              have hv_1146 : hR S_1058 911 h = (some q_596) := hl_1059.fr hm_977 (fun h9 => h9) hv_1053
              have hv_1147 : hR S_1058 912 h = (some q_682) := hl_1059.fr hm_977 (fun h9 => h9) hv_1054
              have hv_1148 : hR S_1058 917 h = (some q_772) := hl_1059.fr hm_977 (fun h9 => h9) hv_1055
              have hf_1149 : Fm (fun _ _ => False) (fun f9 b9 => b9 = h) (fun _ => False) S S_1058 := hf_1056.then hl_1059 (fun a9 ha9 => ⟨(fun f9 h9 => h9.elim), (fun f9 h9 => h9.elim), (fun h9 => (fun h8 => absurd (h8 ▸ ha9) hz_684) h9)⟩)
              refine j_iload_n C dX9_init_198 rfl 0 rfl ?_
              refine j_aload_n C dX9_init_199 rfl 1 rfl ?_
              refine j_getr (f := 912) (v := q_682) C flX9_70 dX9_init_200 hm_1070 hk_1071 (by decide) rfl hv_1147 ?_
              show J _ _ _ _ _ 203 _
              refine j_alen (v := 4) C dX9_init_203 hm_1112 hk_1113 (by decide) (by decide) (len_of (n := 4) hn_1114 (by decide)) ?_
              refine j_ic_ge (tgt := 226) C dX9_init_204 (by decide) (fun c_204 => ?_) (fun c_204 => absurd (nI_le (a := 4) (by omega) (by omega)) c_204)
              refine j_aload_n C dX9_init_226 rfl 1 rfl ?_
              refine j_new (N := 13) C (ci := 5) rfl rfl klX9_68 knX5 kiX5 (M.cells (by omega)) (M.slots (by omega)) dX9_init_227 (fun q_1150 hq_1151 => ?_)
              have hz_1152 : q_1150 ∉ hL S := fun h9 => hq_1151 (hf_1149.mem h9)
              refine j_dup C dX9_init_230 rfl ?_
              have hf_1153 : Fm (fun _ _ => False) (fun f9 b9 => b9 = h) (fun _ => False) S (nO S_1058 q_1150 5) := (hf_1149.nO _ hq_1151)
              refine j_callI C [] [.ref q_1150, .ref h] mlX9_81 mcX5_init (c_X5_init (nO S_1058 q_1150 5) q_1150 mem_new (kd_nO' (k := 5))) (M.rm (by decide) (by decide) (by omega) (by omega)) rfl rfl (Nat.le_of_ble_eq_true rfl) dX9_init_231 (fun r_1161 S_1162 hp_1163 => ?_)
              obtain ⟨rfl, hf_1164, q_1154, e_1155, e_1156, e_1157, e_1158, e_1159, e_1160⟩ := hp_1163
              refine J.eq (st' := [.ref q_1150, .ref h]) rfl rfl rfl ?_
              have hz_1165 : ∀ j, aI S_1162 q_228 j = 0 := fun j9 => (hf_1164.ai (mem_old hm_1084) (fun h9 => h9) j9).trans (hz_1063 j9)
              have hz_1166 : ∀ j, aI S_1162 q_292 j = 0 := fun j9 => (hf_1164.ai (mem_old hm_1089) (fun h9 => h9) j9).trans (hz_1064 j9)
              have hz_1167 : ∀ j, aI S_1162 q_32 j = 0 := fun j9 => (hf_1164.ai (mem_old hm_1094) (fun h9 => h9) j9).trans (hz_1065 j9)
              have hz_1168 : ∀ j, aI S_1162 q_362 j = 0 := fun j9 => (hf_1164.ai (mem_old hm_1097) (fun h9 => h9) j9).trans (hz_1066 j9)
              have hz_1169 : ∀ j, aI S_1162 q_5 j = 0 := fun j9 => (hf_1164.ai (mem_old hm_1102) (fun h9 => h9) j9).trans (hz_1067 j9)
              have hz_1170 : ∀ j, aI S_1162 q_73 j = 0 := fun j9 => (hf_1164.ai (mem_old hm_1115) (fun h9 => h9) j9).trans (hz_1068 j9)
              have hz_1171 : ∀ j, aI S_1162 q_772 j = 0 := fun j9 => (hf_1164.ai (mem_old hm_1118) (fun h9 => h9) j9).trans (hz_1069 j9)
              have hm_1172 : h ∈ hL S_1162 := hf_1164.mem (mem_old hm_1070)
              have hk_1173 : Kd S_1162 h 9 := hf_1164.kd (mem_old hm_1070) (kd_nO (k := 5) hq_1151 hm_1070 hk_1071)
              have hm_1174 : q_1 ∈ hL S_1162 := hf_1164.mem (mem_old hm_1072)
              have hk_1175 : Kd S_1162 q_1 0 := hf_1164.kd (mem_old hm_1072) (kd_nO (k := 5) hq_1151 hm_1072 hk_1073)
              have hm_1176 : q_115 ∈ hL S_1162 := hf_1164.mem (mem_old hm_1074)
              have hk_1177 : Kd S_1162 q_115 20 := hf_1164.kd (mem_old hm_1074) (kd_nO (k := 5) hq_1151 hm_1074 hk_1075)
              have hn_1178 : Ln S_1162 q_115 16 := hf_1164.ln (mem_old hm_1074) hn_1076
              have hm_1179 : q_1150 ∈ hL S_1162 := hf_1164.mem mem_new
              have hk_1180 : Kd S_1162 q_1150 5 := hf_1164.kd mem_new (kd_nO' (k := 5))
              have hm_1181 : q_163 ∈ hL S_1162 := hf_1164.mem (mem_old hm_1077)
              have hk_1182 : Kd S_1162 q_163 10 := hf_1164.kd (mem_old hm_1077) (kd_nO (k := 5) hq_1151 hm_1077 hk_1078)
              have hm_1183 : q_167 ∈ hL S_1162 := hf_1164.mem (mem_old hm_1079)
              have hk_1184 : Kd S_1162 q_167 15 := hf_1164.kd (mem_old hm_1079) (kd_nO (k := 5) hq_1151 hm_1079 hk_1080)
              have hn_1185 : Ln S_1162 q_167 16 := hf_1164.ln (mem_old hm_1079) hn_1081
              have hm_1186 : q_223 ∈ hL S_1162 := hf_1164.mem (mem_old hm_1082)
              have hk_1187 : Kd S_1162 q_223 8 := hf_1164.kd (mem_old hm_1082) (kd_nO (k := 5) hq_1151 hm_1082 hk_1083)
              have hm_1188 : q_228 ∈ hL S_1162 := hf_1164.mem (mem_old hm_1084)
              have hk_1189 : Kd S_1162 q_228 14 := hf_1164.kd (mem_old hm_1084) (kd_nO (k := 5) hq_1151 hm_1084 hk_1085)
              have hn_1190 : Ln S_1162 q_228 16 := hf_1164.ln (mem_old hm_1084) hn_1086
              have hm_1191 : q_26 ∈ hL S_1162 := hf_1164.mem (mem_old hm_1087)
              have hk_1192 : Kd S_1162 q_26 2 := hf_1164.kd (mem_old hm_1087) (kd_nO (k := 5) hq_1151 hm_1087 hk_1088)
              have hm_1193 : q_292 ∈ hL S_1162 := hf_1164.mem (mem_old hm_1089)
              have hk_1194 : Kd S_1162 q_292 13 := hf_1164.kd (mem_old hm_1089) (kd_nO (k := 5) hq_1151 hm_1089 hk_1090)
              have hn_1195 : Ln S_1162 q_292 24000 := hf_1164.ln (mem_old hm_1089) hn_1091
              have hm_1196 : q_31 ∈ hL S_1162 := hf_1164.mem (mem_old hm_1092)
              have hk_1197 : Kd S_1162 q_31 8 := hf_1164.kd (mem_old hm_1092) (kd_nO (k := 5) hq_1151 hm_1092 hk_1093)
              have hm_1198 : q_32 ∈ hL S_1162 := hf_1164.mem (mem_old hm_1094)
              have hk_1199 : Kd S_1162 q_32 14 := hf_1164.kd (mem_old hm_1094) (kd_nO (k := 5) hq_1151 hm_1094 hk_1095)
              have hn_1200 : Ln S_1162 q_32 16 := hf_1164.ln (mem_old hm_1094) hn_1096
              have hm_1201 : q_362 ∈ hL S_1162 := hf_1164.mem (mem_old hm_1097)
              have hk_1202 : Kd S_1162 q_362 14 := hf_1164.kd (mem_old hm_1097) (kd_nO (k := 5) hq_1151 hm_1097 hk_1098)
              have hn_1203 : Ln S_1162 q_362 16 := hf_1164.ln (mem_old hm_1097) hn_1099
              have hm_1204 : q_436 ∈ hL S_1162 := hf_1164.mem (mem_old hm_1100)
              have hk_1205 : Kd S_1162 q_436 1 := hf_1164.kd (mem_old hm_1100) (kd_nO (k := 5) hq_1151 hm_1100 hk_1101)
              have hm_1206 : q_5 ∈ hL S_1162 := hf_1164.mem (mem_old hm_1102)
              have hk_1207 : Kd S_1162 q_5 14 := hf_1164.kd (mem_old hm_1102) (kd_nO (k := 5) hq_1151 hm_1102 hk_1103)
              have hn_1208 : Ln S_1162 q_5 20000 := hf_1164.ln (mem_old hm_1102) hn_1104
              have hm_1209 : q_514 ∈ hL S_1162 := hf_1164.mem (mem_old hm_1105)
              have hk_1210 : Kd S_1162 q_514 1 := hf_1164.kd (mem_old hm_1105) (kd_nO (k := 5) hq_1151 hm_1105 hk_1106)
              have hm_1211 : q_596 ∈ hL S_1162 := hf_1164.mem (mem_old hm_1107)
              have hk_1212 : Kd S_1162 q_596 18 := hf_1164.kd (mem_old hm_1107) (kd_nO (k := 5) hq_1151 hm_1107 hk_1108)
              have hn_1213 : Ln S_1162 q_596 3 := hf_1164.ln (mem_old hm_1107) hn_1109
              have hm_1214 : q_68 ∈ hL S_1162 := hf_1164.mem (mem_old hm_1110)
              have hk_1215 : Kd S_1162 q_68 8 := hf_1164.kd (mem_old hm_1110) (kd_nO (k := 5) hq_1151 hm_1110 hk_1111)
              have hm_1216 : q_682 ∈ hL S_1162 := hf_1164.mem (mem_old hm_1112)
              have hk_1217 : Kd S_1162 q_682 19 := hf_1164.kd (mem_old hm_1112) (kd_nO (k := 5) hq_1151 hm_1112 hk_1113)
              have hn_1218 : Ln S_1162 q_682 4 := hf_1164.ln (mem_old hm_1112) hn_1114
              have hm_1219 : q_73 ∈ hL S_1162 := hf_1164.mem (mem_old hm_1115)
              have hk_1220 : Kd S_1162 q_73 14 := hf_1164.kd (mem_old hm_1115) (kd_nO (k := 5) hq_1151 hm_1115 hk_1116)
              have hn_1221 : Ln S_1162 q_73 16 := hf_1164.ln (mem_old hm_1115) hn_1117
              have hm_1222 : q_772 ∈ hL S_1162 := hf_1164.mem (mem_old hm_1118)
              have hk_1223 : Kd S_1162 q_772 14 := hf_1164.kd (mem_old hm_1118) (kd_nO (k := 5) hq_1151 hm_1118 hk_1119)
              have hn_1224 : Ln S_1162 q_772 12 := hf_1164.ln (mem_old hm_1118) hn_1120
              have hv_1225 : hI S_1162 1000 q_163 = 1 := hf_1164.fi (mem_old hm_1077) (fun h9 => h9) (rd_nOI (k := 5) hq_1151 hm_1077 hv_1121)
              have hv_1226 : hI S_1162 1001 q_163 = 1 := hf_1164.fi (mem_old hm_1077) (fun h9 => h9) (rd_nOI (k := 5) hq_1151 hm_1077 hv_1122)
              have hv_1227 : hI S_1162 2 q_1 = 0 := hf_1164.fi (mem_old hm_1072) (fun h9 => h9) (rd_nOI (k := 5) hq_1151 hm_1072 hv_1123)
              have hv_1228 : hI S_1162 206 q_26 = 0 := hf_1164.fi (mem_old hm_1087) (fun h9 => h9) (rd_nOI (k := 5) hq_1151 hm_1087 hv_1124)
              have hv_1229 : hI S_1162 209 q_26 = 0 := hf_1164.fi (mem_old hm_1087) (fun h9 => h9) (rd_nOI (k := 5) hq_1151 hm_1087 hv_1125)
              have hv_1230 : hI S_1162 3 q_1 = 0 := hf_1164.fi (mem_old hm_1072) (fun h9 => h9) (rd_nOI (k := 5) hq_1151 hm_1072 hv_1126)
              have hv_1231 : hI S_1162 4 q_1 = 0 := hf_1164.fi (mem_old hm_1072) (fun h9 => h9) (rd_nOI (k := 5) hq_1151 hm_1072 hv_1127)
              have hv_1232 : hI S_1162 5 q_1 = 0 := hf_1164.fi (mem_old hm_1072) (fun h9 => h9) (rd_nOI (k := 5) hq_1151 hm_1072 hv_1128)
              have hv_1233 : hR S_1162 0 q_1 = (some q_5) := hf_1164.fr (mem_old hm_1072) (fun q9 => (fun e9 => absurd (((kd_nO (k := 5) hq_1151 hm_1072 hk_1073)).symm.trans ((congrArg (hK _) e9).trans (kd_nO' (k := 5)))) (by decide)) q9) (rd_nOR (k := 5) hq_1151 hm_1072 hv_1129)
              have hv_1234 : hR S_1162 1003 q_163 = (some q_167) := hf_1164.fr (mem_old hm_1077) (fun q9 => (fun e9 => absurd (((kd_nO (k := 5) hq_1151 hm_1077 hk_1078)).symm.trans ((congrArg (hK _) e9).trans (kd_nO' (k := 5)))) (by decide)) q9) (rd_nOR (k := 5) hq_1151 hm_1077 hv_1130)
              have hv_1235 : hR S_1162 200 q_26 = (some q_31) := hf_1164.fr (mem_old hm_1087) (fun q9 => (fun e9 => absurd (((kd_nO (k := 5) hq_1151 hm_1087 hk_1088)).symm.trans ((congrArg (hK _) e9).trans (kd_nO' (k := 5)))) (by decide)) q9) (rd_nOR (k := 5) hq_1151 hm_1087 hv_1131)
              have hv_1236 : hR S_1162 800 q_223 = (some q_228) := hf_1164.fr (mem_old hm_1082) (fun q9 => (fun e9 => absurd (((kd_nO (k := 5) hq_1151 hm_1082 hk_1083)).symm.trans ((congrArg (hK _) e9).trans (kd_nO' (k := 5)))) (by decide)) q9) (rd_nOR (k := 5) hq_1151 hm_1082 hv_1132)
              have hv_1237 : hR S_1162 800 q_31 = (some q_32) := hf_1164.fr (mem_old hm_1092) (fun q9 => (fun e9 => absurd (((kd_nO (k := 5) hq_1151 hm_1092 hk_1093)).symm.trans ((congrArg (hK _) e9).trans (kd_nO' (k := 5)))) (by decide)) q9) (rd_nOR (k := 5) hq_1151 hm_1092 hv_1133)
              have hv_1238 : hR S_1162 800 q_68 = (some q_73) := hf_1164.fr (mem_old hm_1110) (fun q9 => (fun e9 => absurd (((kd_nO (k := 5) hq_1151 hm_1110 hk_1111)).symm.trans ((congrArg (hK _) e9).trans (kd_nO' (k := 5)))) (by decide)) q9) (rd_nOR (k := 5) hq_1151 hm_1110 hv_1134)
              have hv_1239 : hR S_1162 900 h = (some s0) := hf_1164.fr (mem_old hm_1070) (fun q9 => (fun e9 => absurd (((kd_nO (k := 5) hq_1151 hm_1070 hk_1071)).symm.trans ((congrArg (hK _) e9).trans (kd_nO' (k := 5)))) (by decide)) q9) (rd_nOR (k := 5) hq_1151 hm_1070 hv_1135)
              have hv_1240 : hR S_1162 901 h = (some q_1) := hf_1164.fr (mem_old hm_1070) (fun q9 => (fun e9 => absurd (((kd_nO (k := 5) hq_1151 hm_1070 hk_1071)).symm.trans ((congrArg (hK _) e9).trans (kd_nO' (k := 5)))) (by decide)) q9) (rd_nOR (k := 5) hq_1151 hm_1070 hv_1136)
              have hv_1241 : hR S_1162 902 h = (some q_26) := hf_1164.fr (mem_old hm_1070) (fun q9 => (fun e9 => absurd (((kd_nO (k := 5) hq_1151 hm_1070 hk_1071)).symm.trans ((congrArg (hK _) e9).trans (kd_nO' (k := 5)))) (by decide)) q9) (rd_nOR (k := 5) hq_1151 hm_1070 hv_1137)
              have hv_1242 : hR S_1162 903 h = (some q_68) := hf_1164.fr (mem_old hm_1070) (fun q9 => (fun e9 => absurd (((kd_nO (k := 5) hq_1151 hm_1070 hk_1071)).symm.trans ((congrArg (hK _) e9).trans (kd_nO' (k := 5)))) (by decide)) q9) (rd_nOR (k := 5) hq_1151 hm_1070 hv_1138)
              have hv_1243 : hR S_1162 904 h = (some q_115) := hf_1164.fr (mem_old hm_1070) (fun q9 => (fun e9 => absurd (((kd_nO (k := 5) hq_1151 hm_1070 hk_1071)).symm.trans ((congrArg (hK _) e9).trans (kd_nO' (k := 5)))) (by decide)) q9) (rd_nOR (k := 5) hq_1151 hm_1070 hv_1139)
              have hv_1244 : hR S_1162 905 h = (some q_163) := hf_1164.fr (mem_old hm_1070) (fun q9 => (fun e9 => absurd (((kd_nO (k := 5) hq_1151 hm_1070 hk_1071)).symm.trans ((congrArg (hK _) e9).trans (kd_nO' (k := 5)))) (by decide)) q9) (rd_nOR (k := 5) hq_1151 hm_1070 hv_1140)
              have hv_1245 : hR S_1162 906 h = (some q_223) := hf_1164.fr (mem_old hm_1070) (fun q9 => (fun e9 => absurd (((kd_nO (k := 5) hq_1151 hm_1070 hk_1071)).symm.trans ((congrArg (hK _) e9).trans (kd_nO' (k := 5)))) (by decide)) q9) (rd_nOR (k := 5) hq_1151 hm_1070 hv_1141)
              have hv_1246 : hR S_1162 907 h = (some q_292) := hf_1164.fr (mem_old hm_1070) (fun q9 => (fun e9 => absurd (((kd_nO (k := 5) hq_1151 hm_1070 hk_1071)).symm.trans ((congrArg (hK _) e9).trans (kd_nO' (k := 5)))) (by decide)) q9) (rd_nOR (k := 5) hq_1151 hm_1070 hv_1142)
              have hv_1247 : hR S_1162 908 h = (some q_362) := hf_1164.fr (mem_old hm_1070) (fun q9 => (fun e9 => absurd (((kd_nO (k := 5) hq_1151 hm_1070 hk_1071)).symm.trans ((congrArg (hK _) e9).trans (kd_nO' (k := 5)))) (by decide)) q9) (rd_nOR (k := 5) hq_1151 hm_1070 hv_1143)
              have hv_1248 : hR S_1162 909 h = (some q_436) := hf_1164.fr (mem_old hm_1070) (fun q9 => (fun e9 => absurd (((kd_nO (k := 5) hq_1151 hm_1070 hk_1071)).symm.trans ((congrArg (hK _) e9).trans (kd_nO' (k := 5)))) (by decide)) q9) (rd_nOR (k := 5) hq_1151 hm_1070 hv_1144)
              have hv_1249 : hR S_1162 910 h = (some q_514) := hf_1164.fr (mem_old hm_1070) (fun q9 => (fun e9 => absurd (((kd_nO (k := 5) hq_1151 hm_1070 hk_1071)).symm.trans ((congrArg (hK _) e9).trans (kd_nO' (k := 5)))) (by decide)) q9) (rd_nOR (k := 5) hq_1151 hm_1070 hv_1145)
              have hv_1250 : hR S_1162 911 h = (some q_596) := hf_1164.fr (mem_old hm_1070) (fun q9 => (fun e9 => absurd (((kd_nO (k := 5) hq_1151 hm_1070 hk_1071)).symm.trans ((congrArg (hK _) e9).trans (kd_nO' (k := 5)))) (by decide)) q9) (rd_nOR (k := 5) hq_1151 hm_1070 hv_1146)
              have hv_1251 : hR S_1162 912 h = (some q_682) := hf_1164.fr (mem_old hm_1070) (fun q9 => (fun e9 => absurd (((kd_nO (k := 5) hq_1151 hm_1070 hk_1071)).symm.trans ((congrArg (hK _) e9).trans (kd_nO' (k := 5)))) (by decide)) q9) (rd_nOR (k := 5) hq_1151 hm_1070 hv_1147)
              have hv_1252 : hR S_1162 917 h = (some q_772) := hf_1164.fr (mem_old hm_1070) (fun q9 => (fun e9 => absurd (((kd_nO (k := 5) hq_1151 hm_1070 hk_1071)).symm.trans ((congrArg (hK _) e9).trans (kd_nO' (k := 5)))) (by decide)) q9) (rd_nOR (k := 5) hq_1151 hm_1070 hv_1148)
              have hf_1253 : Fm (fun _ _ => False) (fun f9 b9 => b9 = h) (fun _ => False) S S_1162 := hf_1153.then hf_1164 (fun a9 ha9 => ⟨(fun f9 h9 => h9.elim), (fun f9 h9 => (fun h8 => absurd (h8 ▸ ha9) hz_1152) h9), (fun h9 => h9.elim)⟩)
              have hz_1254 : q_1154 ∉ hL S := fun h9 => e_1155 (hf_1153.mem h9)
              refine j_putr (f := 913) C flX9_82 (by decide) rfl rfl dX9_init_234 hm_1172 hk_1173 rfl ?_
              exact j_vret C M dX9_init_237 (by omega) (by omega) ⟨rfl, (hf_1253.sR _ (fun _ => rfl)), q_1, q_5, q_26, q_31, q_32, q_68, q_73, q_223, q_228, q_362, q_772, hz_3, hm_1174, hk_1175, (rd_sRf (S := S_1162) (g := 913) (a := h) (v := (some q_1150)) (by decide) hv_1240), hz_25, hm_1206, hk_1207, hn_1208, (rd_sRf (S := S_1162) (g := 913) (a := h) (v := (some q_1150)) (by decide) hv_1233), hz_1169, hz_29, hm_1191, hk_1192, (rd_sRf (S := S_1162) (g := 913) (a := h) (v := (some q_1150)) (by decide) hv_1241), hz_66, hm_1196, hk_1197, (rd_sRf (S := S_1162) (g := 913) (a := h) (v := (some q_1150)) (by decide) hv_1235), hz_67, hm_1198, hk_1199, hn_1200, (rd_sRf (S := S_1162) (g := 913) (a := h) (v := (some q_1150)) (by decide) hv_1237), hz_1167, hz_71, hm_1214, hk_1215, (rd_sRf (S := S_1162) (g := 913) (a := h) (v := (some q_1150)) (by decide) hv_1242), hz_114, hm_1219, hk_1220, hn_1221, (rd_sRf (S := S_1162) (g := 913) (a := h) (v := (some q_1150)) (by decide) hv_1238), hz_1170, hz_226, hm_1186, hk_1187, (rd_sRf (S := S_1162) (g := 913) (a := h) (v := (some q_1150)) (by decide) hv_1245), hz_291, hm_1188, hk_1189, hn_1190, (rd_sRf (S := S_1162) (g := 913) (a := h) (v := (some q_1150)) (by decide) hv_1236), hz_1165, hz_364, hm_1201, hk_1202, hn_1203, (rd_sRf (S := S_1162) (g := 913) (a := h) (v := (some q_1150)) (by decide) hv_1247), hz_1168, hz_774, hm_1222, hk_1223, hn_1224, (rd_sRf (S := S_1162) (g := 913) (a := h) (v := (some q_1150)) (by decide) hv_1252), hz_1171, hv_1230, hv_1228⟩
            | succ m9 ih_1060 =>
              intro i3 S_1058 hi_1062 hl_1059 
              have hz_1255 : ∀ j, aI S_1058 q_228 j = 0 := fun j9 => (hl_1059.ai hm_991 (fun q9 => (fun e9 => absurd ((hk_992).symm.trans ((congrArg (hK _) e9).trans hk_1020)) (by decide)) q9) j9).trans (hz_969 j9)
              have hz_1256 : ∀ j, aI S_1058 q_292 j = 0 := fun j9 => (hl_1059.ai hm_996 (fun q9 => (fun e9 => absurd ((hk_997).symm.trans ((congrArg (hK _) e9).trans hk_1020)) (by decide)) q9) j9).trans (hz_970 j9)
              have hz_1257 : ∀ j, aI S_1058 q_32 j = 0 := fun j9 => (hl_1059.ai hm_1001 (fun q9 => (fun e9 => absurd ((hk_1002).symm.trans ((congrArg (hK _) e9).trans hk_1020)) (by decide)) q9) j9).trans (hz_971 j9)
              have hz_1258 : ∀ j, aI S_1058 q_362 j = 0 := fun j9 => (hl_1059.ai hm_1004 (fun q9 => (fun e9 => absurd ((hk_1005).symm.trans ((congrArg (hK _) e9).trans hk_1020)) (by decide)) q9) j9).trans (hz_972 j9)
              have hz_1259 : ∀ j, aI S_1058 q_5 j = 0 := fun j9 => (hl_1059.ai hm_1009 (fun q9 => (fun e9 => absurd ((hk_1010).symm.trans ((congrArg (hK _) e9).trans hk_1020)) (by decide)) q9) j9).trans (hz_973 j9)
              have hz_1260 : ∀ j, aI S_1058 q_73 j = 0 := fun j9 => (hl_1059.ai hm_1022 (fun q9 => (fun e9 => absurd ((hk_1023).symm.trans ((congrArg (hK _) e9).trans hk_1020)) (by decide)) q9) j9).trans (hz_975 j9)
              have hz_1261 : ∀ j, aI S_1058 q_772 j = 0 := fun j9 => (hl_1059.ai hm_1025 (fun q9 => (fun e9 => absurd ((hk_1026).symm.trans ((congrArg (hK _) e9).trans hk_1020)) (by decide)) q9) j9).trans (hz_976 j9)
              have hm_1262 : h ∈ hL S_1058 := hl_1059.mem hm_977
              have hk_1263 : Kd S_1058 h 9 := hl_1059.kd hm_977 hk_978
              have hm_1264 : q_1 ∈ hL S_1058 := hl_1059.mem hm_979
              have hk_1265 : Kd S_1058 q_1 0 := hl_1059.kd hm_979 hk_980
              have hm_1266 : q_115 ∈ hL S_1058 := hl_1059.mem hm_981
              have hk_1267 : Kd S_1058 q_115 20 := hl_1059.kd hm_981 hk_982
              have hn_1268 : Ln S_1058 q_115 16 := hl_1059.ln hm_981 hn_983
              have hm_1269 : q_163 ∈ hL S_1058 := hl_1059.mem hm_984
              have hk_1270 : Kd S_1058 q_163 10 := hl_1059.kd hm_984 hk_985
              have hm_1271 : q_167 ∈ hL S_1058 := hl_1059.mem hm_986
              have hk_1272 : Kd S_1058 q_167 15 := hl_1059.kd hm_986 hk_987
              have hn_1273 : Ln S_1058 q_167 16 := hl_1059.ln hm_986 hn_988
              have hm_1274 : q_223 ∈ hL S_1058 := hl_1059.mem hm_989
              have hk_1275 : Kd S_1058 q_223 8 := hl_1059.kd hm_989 hk_990
              have hm_1276 : q_228 ∈ hL S_1058 := hl_1059.mem hm_991
              have hk_1277 : Kd S_1058 q_228 14 := hl_1059.kd hm_991 hk_992
              have hn_1278 : Ln S_1058 q_228 16 := hl_1059.ln hm_991 hn_993
              have hm_1279 : q_26 ∈ hL S_1058 := hl_1059.mem hm_994
              have hk_1280 : Kd S_1058 q_26 2 := hl_1059.kd hm_994 hk_995
              have hm_1281 : q_292 ∈ hL S_1058 := hl_1059.mem hm_996
              have hk_1282 : Kd S_1058 q_292 13 := hl_1059.kd hm_996 hk_997
              have hn_1283 : Ln S_1058 q_292 24000 := hl_1059.ln hm_996 hn_998
              have hm_1284 : q_31 ∈ hL S_1058 := hl_1059.mem hm_999
              have hk_1285 : Kd S_1058 q_31 8 := hl_1059.kd hm_999 hk_1000
              have hm_1286 : q_32 ∈ hL S_1058 := hl_1059.mem hm_1001
              have hk_1287 : Kd S_1058 q_32 14 := hl_1059.kd hm_1001 hk_1002
              have hn_1288 : Ln S_1058 q_32 16 := hl_1059.ln hm_1001 hn_1003
              have hm_1289 : q_362 ∈ hL S_1058 := hl_1059.mem hm_1004
              have hk_1290 : Kd S_1058 q_362 14 := hl_1059.kd hm_1004 hk_1005
              have hn_1291 : Ln S_1058 q_362 16 := hl_1059.ln hm_1004 hn_1006
              have hm_1292 : q_436 ∈ hL S_1058 := hl_1059.mem hm_1007
              have hk_1293 : Kd S_1058 q_436 1 := hl_1059.kd hm_1007 hk_1008
              have hm_1294 : q_5 ∈ hL S_1058 := hl_1059.mem hm_1009
              have hk_1295 : Kd S_1058 q_5 14 := hl_1059.kd hm_1009 hk_1010
              have hn_1296 : Ln S_1058 q_5 20000 := hl_1059.ln hm_1009 hn_1011
              have hm_1297 : q_514 ∈ hL S_1058 := hl_1059.mem hm_1012
              have hk_1298 : Kd S_1058 q_514 1 := hl_1059.kd hm_1012 hk_1013
              have hm_1299 : q_596 ∈ hL S_1058 := hl_1059.mem hm_1014
              have hk_1300 : Kd S_1058 q_596 18 := hl_1059.kd hm_1014 hk_1015
              have hn_1301 : Ln S_1058 q_596 3 := hl_1059.ln hm_1014 hn_1016
              have hm_1302 : q_68 ∈ hL S_1058 := hl_1059.mem hm_1017
              have hk_1303 : Kd S_1058 q_68 8 := hl_1059.kd hm_1017 hk_1018
              have hm_1304 : q_682 ∈ hL S_1058 := hl_1059.mem hm_1019
              have hk_1305 : Kd S_1058 q_682 19 := hl_1059.kd hm_1019 hk_1020
              have hn_1306 : Ln S_1058 q_682 4 := hl_1059.ln hm_1019 hn_1021
              have hm_1307 : q_73 ∈ hL S_1058 := hl_1059.mem hm_1022
              have hk_1308 : Kd S_1058 q_73 14 := hl_1059.kd hm_1022 hk_1023
              have hn_1309 : Ln S_1058 q_73 16 := hl_1059.ln hm_1022 hn_1024
              have hm_1310 : q_772 ∈ hL S_1058 := hl_1059.mem hm_1025
              have hk_1311 : Kd S_1058 q_772 14 := hl_1059.kd hm_1025 hk_1026
              have hn_1312 : Ln S_1058 q_772 12 := hl_1059.ln hm_1025 hn_1027
              have hv_1313 : hI S_1058 1000 q_163 = 1 := hl_1059.fi hm_984 (fun h9 => h9) hv_1028
              have hv_1314 : hI S_1058 1001 q_163 = 1 := hl_1059.fi hm_984 (fun h9 => h9) hv_1029
              have hv_1315 : hI S_1058 2 q_1 = 0 := hl_1059.fi hm_979 (fun h9 => h9) hv_1030
              have hv_1316 : hI S_1058 206 q_26 = 0 := hl_1059.fi hm_994 (fun h9 => h9) hv_1031
              have hv_1317 : hI S_1058 209 q_26 = 0 := hl_1059.fi hm_994 (fun h9 => h9) hv_1032
              have hv_1318 : hI S_1058 3 q_1 = 0 := hl_1059.fi hm_979 (fun h9 => h9) hv_1033
              have hv_1319 : hI S_1058 4 q_1 = 0 := hl_1059.fi hm_979 (fun h9 => h9) hv_1034
              have hv_1320 : hI S_1058 5 q_1 = 0 := hl_1059.fi hm_979 (fun h9 => h9) hv_1035
              have hv_1321 : hR S_1058 0 q_1 = (some q_5) := hl_1059.fr hm_979 (fun h9 => h9) hv_1036
              have hv_1322 : hR S_1058 1003 q_163 = (some q_167) := hl_1059.fr hm_984 (fun h9 => h9) hv_1037
              have hv_1323 : hR S_1058 200 q_26 = (some q_31) := hl_1059.fr hm_994 (fun h9 => h9) hv_1038
              have hv_1324 : hR S_1058 800 q_223 = (some q_228) := hl_1059.fr hm_989 (fun h9 => h9) hv_1039
              have hv_1325 : hR S_1058 800 q_31 = (some q_32) := hl_1059.fr hm_999 (fun h9 => h9) hv_1040
              have hv_1326 : hR S_1058 800 q_68 = (some q_73) := hl_1059.fr hm_1017 (fun h9 => h9) hv_1041
              have hv_1327 : hR S_1058 900 h = (some s0) := hl_1059.fr hm_977 (fun h9 => h9) hv_1042
              have hv_1328 : hR S_1058 901 h = (some q_1) := hl_1059.fr hm_977 (fun h9 => h9) hv_1043
              have hv_1329 : hR S_1058 902 h = (some q_26) := hl_1059.fr hm_977 (fun h9 => h9) hv_1044
              have hv_1330 : hR S_1058 903 h = (some q_68) := hl_1059.fr hm_977 (fun h9 => h9) hv_1045
              have hv_1331 : hR S_1058 904 h = (some q_115) := hl_1059.fr hm_977 (fun h9 => h9) hv_1046
              have hv_1332 : hR S_1058 905 h = (some q_163) := hl_1059.fr hm_977 (fun h9 => h9) hv_1047
              have hv_1333 : hR S_1058 906 h = (some q_223) := hl_1059.fr hm_977 (fun h9 => h9) hv_1048
              have hv_1334 : hR S_1058 907 h = (some q_292) := hl_1059.fr hm_977 (fun h9 => h9) hv_1049
              have hv_1335 : hR S_1058 908 h = (some q_362) := hl_1059.fr hm_977 (fun h9 => h9) hv_1050
              have hv_1336 : hR S_1058 909 h = (some q_436) := hl_1059.fr hm_977 (fun h9 => h9) hv_1051
              have hv_1337 : hR S_1058 910 h = (some q_514) := hl_1059.fr hm_977 (fun h9 => h9) hv_1052
              have hv_1338 : hR S_1058 911 h = (some q_596) := hl_1059.fr hm_977 (fun h9 => h9) hv_1053
              have hv_1339 : hR S_1058 912 h = (some q_682) := hl_1059.fr hm_977 (fun h9 => h9) hv_1054
              have hv_1340 : hR S_1058 917 h = (some q_772) := hl_1059.fr hm_977 (fun h9 => h9) hv_1055
              have hf_1341 : Fm (fun _ _ => False) (fun f9 b9 => b9 = h) (fun _ => False) S S_1058 := hf_1056.then hl_1059 (fun a9 ha9 => ⟨(fun f9 h9 => h9.elim), (fun f9 h9 => h9.elim), (fun h9 => (fun h8 => absurd (h8 ▸ ha9) hz_684) h9)⟩)
              refine j_iload_n C dX9_init_198 rfl 0 rfl ?_
              refine j_aload_n C dX9_init_199 rfl 1 rfl ?_
              show J _ _ _ _ _ 200 _
              refine j_getr (f := 912) (v := q_682) C flX9_70 dX9_init_200 hm_1262 hk_1263 (by decide) rfl hv_1339 ?_
              refine j_alen (v := 4) C dX9_init_203 hm_1304 hk_1305 (by decide) (by decide) (len_of (n := 4) hn_1306 (by decide)) ?_
              refine j_ic_ge (tgt := 226) C dX9_init_204 (by decide) (fun c_204 => absurd c_204 (nI_ge (b := 4) (by omega) (by omega))) (fun c_204 => ?_)
              refine j_aload_n C dX9_init_207 rfl 1 rfl ?_
              refine j_getr (f := 912) (v := q_682) C flX9_70 dX9_init_208 hm_1262 hk_1263 (by decide) rfl hv_1339 ?_
              refine j_iload_n C dX9_init_211 rfl 0 rfl ?_
              refine j_new (N := 13) C (ci := 5) rfl rfl klX9_68 knX5 kiX5 (M.cells (by omega)) (M.slots (by omega)) dX9_init_212 (fun q_1342 hq_1343 => ?_)
              have hz_1344 : q_1342 ∉ hL S := fun h9 => hq_1343 (hf_1341.mem h9)
              have hz_1345 : q_1342 ∉ hL S_964 := fun h9 => hq_1343 (hl_1059.mem h9)
              refine j_dup C dX9_init_215 rfl ?_
              show J _ _ _ _ _ 216 _
              have hf_1346 : Fm (fun _ _ => False) (fun f9 b9 => b9 = h) (fun _ => False) S (nO S_1058 q_1342 5) := (hf_1341.nO _ hq_1343)
              have hf_1347 : Fm (fun _ _ => False) (fun _ _ => False) (fun b9 => b9 = q_682) S_964 (nO S_1058 q_1342 5) := (hl_1059.nO _ hq_1343)
              refine j_callI C [] [.ref q_1342, .int (nI i3), .ref q_682] mlX9_81 mcX5_init (c_X5_init (nO S_1058 q_1342 5) q_1342 mem_new (kd_nO' (k := 5))) (M.rm (by decide) (by decide) (by omega) (by omega)) rfl rfl (Nat.le_of_ble_eq_true rfl) dX9_init_216 (fun r_1355 S_1356 hp_1357 => ?_)
              obtain ⟨rfl, hf_1358, q_1348, e_1349, e_1350, e_1351, e_1352, e_1353, e_1354⟩ := hp_1357
              refine J.eq (st' := [.ref q_1342, .int (nI i3), .ref q_682]) rfl rfl rfl ?_
              have hz_1359 : ∀ j, aI S_1356 q_228 j = 0 := fun j9 => (hf_1358.ai (mem_old hm_1276) (fun h9 => h9) j9).trans (hz_1255 j9)
              have hz_1360 : ∀ j, aI S_1356 q_292 j = 0 := fun j9 => (hf_1358.ai (mem_old hm_1281) (fun h9 => h9) j9).trans (hz_1256 j9)
              have hz_1361 : ∀ j, aI S_1356 q_32 j = 0 := fun j9 => (hf_1358.ai (mem_old hm_1286) (fun h9 => h9) j9).trans (hz_1257 j9)
              have hz_1362 : ∀ j, aI S_1356 q_362 j = 0 := fun j9 => (hf_1358.ai (mem_old hm_1289) (fun h9 => h9) j9).trans (hz_1258 j9)
              have hz_1363 : ∀ j, aI S_1356 q_5 j = 0 := fun j9 => (hf_1358.ai (mem_old hm_1294) (fun h9 => h9) j9).trans (hz_1259 j9)
              have hz_1364 : ∀ j, aI S_1356 q_73 j = 0 := fun j9 => (hf_1358.ai (mem_old hm_1307) (fun h9 => h9) j9).trans (hz_1260 j9)
              have hz_1365 : ∀ j, aI S_1356 q_772 j = 0 := fun j9 => (hf_1358.ai (mem_old hm_1310) (fun h9 => h9) j9).trans (hz_1261 j9)
              have hm_1366 : h ∈ hL S_1356 := hf_1358.mem (mem_old hm_1262)
              have hk_1367 : Kd S_1356 h 9 := hf_1358.kd (mem_old hm_1262) (kd_nO (k := 5) hq_1343 hm_1262 hk_1263)
              have hm_1368 : q_1 ∈ hL S_1356 := hf_1358.mem (mem_old hm_1264)
              have hk_1369 : Kd S_1356 q_1 0 := hf_1358.kd (mem_old hm_1264) (kd_nO (k := 5) hq_1343 hm_1264 hk_1265)
              have hm_1370 : q_115 ∈ hL S_1356 := hf_1358.mem (mem_old hm_1266)
              have hk_1371 : Kd S_1356 q_115 20 := hf_1358.kd (mem_old hm_1266) (kd_nO (k := 5) hq_1343 hm_1266 hk_1267)
              have hn_1372 : Ln S_1356 q_115 16 := hf_1358.ln (mem_old hm_1266) hn_1268
              have hm_1373 : q_1342 ∈ hL S_1356 := hf_1358.mem mem_new
              have hk_1374 : Kd S_1356 q_1342 5 := hf_1358.kd mem_new (kd_nO' (k := 5))
              have hm_1375 : q_163 ∈ hL S_1356 := hf_1358.mem (mem_old hm_1269)
              have hk_1376 : Kd S_1356 q_163 10 := hf_1358.kd (mem_old hm_1269) (kd_nO (k := 5) hq_1343 hm_1269 hk_1270)
              have hm_1377 : q_167 ∈ hL S_1356 := hf_1358.mem (mem_old hm_1271)
              have hk_1378 : Kd S_1356 q_167 15 := hf_1358.kd (mem_old hm_1271) (kd_nO (k := 5) hq_1343 hm_1271 hk_1272)
              have hn_1379 : Ln S_1356 q_167 16 := hf_1358.ln (mem_old hm_1271) hn_1273
              have hm_1380 : q_223 ∈ hL S_1356 := hf_1358.mem (mem_old hm_1274)
              have hk_1381 : Kd S_1356 q_223 8 := hf_1358.kd (mem_old hm_1274) (kd_nO (k := 5) hq_1343 hm_1274 hk_1275)
              have hm_1382 : q_228 ∈ hL S_1356 := hf_1358.mem (mem_old hm_1276)
              have hk_1383 : Kd S_1356 q_228 14 := hf_1358.kd (mem_old hm_1276) (kd_nO (k := 5) hq_1343 hm_1276 hk_1277)
              have hn_1384 : Ln S_1356 q_228 16 := hf_1358.ln (mem_old hm_1276) hn_1278
              have hm_1385 : q_26 ∈ hL S_1356 := hf_1358.mem (mem_old hm_1279)
              have hk_1386 : Kd S_1356 q_26 2 := hf_1358.kd (mem_old hm_1279) (kd_nO (k := 5) hq_1343 hm_1279 hk_1280)
              have hm_1387 : q_292 ∈ hL S_1356 := hf_1358.mem (mem_old hm_1281)
              have hk_1388 : Kd S_1356 q_292 13 := hf_1358.kd (mem_old hm_1281) (kd_nO (k := 5) hq_1343 hm_1281 hk_1282)
              have hn_1389 : Ln S_1356 q_292 24000 := hf_1358.ln (mem_old hm_1281) hn_1283
              have hm_1390 : q_31 ∈ hL S_1356 := hf_1358.mem (mem_old hm_1284)
              have hk_1391 : Kd S_1356 q_31 8 := hf_1358.kd (mem_old hm_1284) (kd_nO (k := 5) hq_1343 hm_1284 hk_1285)
              have hm_1392 : q_32 ∈ hL S_1356 := hf_1358.mem (mem_old hm_1286)
              have hk_1393 : Kd S_1356 q_32 14 := hf_1358.kd (mem_old hm_1286) (kd_nO (k := 5) hq_1343 hm_1286 hk_1287)
              have hn_1394 : Ln S_1356 q_32 16 := hf_1358.ln (mem_old hm_1286) hn_1288
              have hm_1395 : q_362 ∈ hL S_1356 := hf_1358.mem (mem_old hm_1289)
              have hk_1396 : Kd S_1356 q_362 14 := hf_1358.kd (mem_old hm_1289) (kd_nO (k := 5) hq_1343 hm_1289 hk_1290)
              have hn_1397 : Ln S_1356 q_362 16 := hf_1358.ln (mem_old hm_1289) hn_1291
              have hm_1398 : q_436 ∈ hL S_1356 := hf_1358.mem (mem_old hm_1292)
              have hk_1399 : Kd S_1356 q_436 1 := hf_1358.kd (mem_old hm_1292) (kd_nO (k := 5) hq_1343 hm_1292 hk_1293)
              have hm_1400 : q_5 ∈ hL S_1356 := hf_1358.mem (mem_old hm_1294)
              have hk_1401 : Kd S_1356 q_5 14 := hf_1358.kd (mem_old hm_1294) (kd_nO (k := 5) hq_1343 hm_1294 hk_1295)
              have hn_1402 : Ln S_1356 q_5 20000 := hf_1358.ln (mem_old hm_1294) hn_1296
              have hm_1403 : q_514 ∈ hL S_1356 := hf_1358.mem (mem_old hm_1297)
              have hk_1404 : Kd S_1356 q_514 1 := hf_1358.kd (mem_old hm_1297) (kd_nO (k := 5) hq_1343 hm_1297 hk_1298)
              have hm_1405 : q_596 ∈ hL S_1356 := hf_1358.mem (mem_old hm_1299)
              have hk_1406 : Kd S_1356 q_596 18 := hf_1358.kd (mem_old hm_1299) (kd_nO (k := 5) hq_1343 hm_1299 hk_1300)
              have hn_1407 : Ln S_1356 q_596 3 := hf_1358.ln (mem_old hm_1299) hn_1301
              have hm_1408 : q_68 ∈ hL S_1356 := hf_1358.mem (mem_old hm_1302)
              have hk_1409 : Kd S_1356 q_68 8 := hf_1358.kd (mem_old hm_1302) (kd_nO (k := 5) hq_1343 hm_1302 hk_1303)
              have hm_1410 : q_682 ∈ hL S_1356 := hf_1358.mem (mem_old hm_1304)
              have hk_1411 : Kd S_1356 q_682 19 := hf_1358.kd (mem_old hm_1304) (kd_nO (k := 5) hq_1343 hm_1304 hk_1305)
              have hn_1412 : Ln S_1356 q_682 4 := hf_1358.ln (mem_old hm_1304) hn_1306
              have hm_1413 : q_73 ∈ hL S_1356 := hf_1358.mem (mem_old hm_1307)
              have hk_1414 : Kd S_1356 q_73 14 := hf_1358.kd (mem_old hm_1307) (kd_nO (k := 5) hq_1343 hm_1307 hk_1308)
              have hn_1415 : Ln S_1356 q_73 16 := hf_1358.ln (mem_old hm_1307) hn_1309
              have hm_1416 : q_772 ∈ hL S_1356 := hf_1358.mem (mem_old hm_1310)
              have hk_1417 : Kd S_1356 q_772 14 := hf_1358.kd (mem_old hm_1310) (kd_nO (k := 5) hq_1343 hm_1310 hk_1311)
              have hn_1418 : Ln S_1356 q_772 12 := hf_1358.ln (mem_old hm_1310) hn_1312
              have hv_1419 : hI S_1356 1000 q_163 = 1 := hf_1358.fi (mem_old hm_1269) (fun h9 => h9) (rd_nOI (k := 5) hq_1343 hm_1269 hv_1313)
              have hv_1420 : hI S_1356 1001 q_163 = 1 := hf_1358.fi (mem_old hm_1269) (fun h9 => h9) (rd_nOI (k := 5) hq_1343 hm_1269 hv_1314)
              have hv_1421 : hI S_1356 2 q_1 = 0 := hf_1358.fi (mem_old hm_1264) (fun h9 => h9) (rd_nOI (k := 5) hq_1343 hm_1264 hv_1315)
              have hv_1422 : hI S_1356 206 q_26 = 0 := hf_1358.fi (mem_old hm_1279) (fun h9 => h9) (rd_nOI (k := 5) hq_1343 hm_1279 hv_1316)
              have hv_1423 : hI S_1356 209 q_26 = 0 := hf_1358.fi (mem_old hm_1279) (fun h9 => h9) (rd_nOI (k := 5) hq_1343 hm_1279 hv_1317)
              have hv_1424 : hI S_1356 3 q_1 = 0 := hf_1358.fi (mem_old hm_1264) (fun h9 => h9) (rd_nOI (k := 5) hq_1343 hm_1264 hv_1318)
              have hv_1425 : hI S_1356 4 q_1 = 0 := hf_1358.fi (mem_old hm_1264) (fun h9 => h9) (rd_nOI (k := 5) hq_1343 hm_1264 hv_1319)
              have hv_1426 : hI S_1356 5 q_1 = 0 := hf_1358.fi (mem_old hm_1264) (fun h9 => h9) (rd_nOI (k := 5) hq_1343 hm_1264 hv_1320)
              have hv_1427 : hR S_1356 0 q_1 = (some q_5) := hf_1358.fr (mem_old hm_1264) (fun q9 => (fun e9 => absurd (((kd_nO (k := 5) hq_1343 hm_1264 hk_1265)).symm.trans ((congrArg (hK _) e9).trans (kd_nO' (k := 5)))) (by decide)) q9) (rd_nOR (k := 5) hq_1343 hm_1264 hv_1321)
              have hv_1428 : hR S_1356 1003 q_163 = (some q_167) := hf_1358.fr (mem_old hm_1269) (fun q9 => (fun e9 => absurd (((kd_nO (k := 5) hq_1343 hm_1269 hk_1270)).symm.trans ((congrArg (hK _) e9).trans (kd_nO' (k := 5)))) (by decide)) q9) (rd_nOR (k := 5) hq_1343 hm_1269 hv_1322)
              have hv_1429 : hR S_1356 200 q_26 = (some q_31) := hf_1358.fr (mem_old hm_1279) (fun q9 => (fun e9 => absurd (((kd_nO (k := 5) hq_1343 hm_1279 hk_1280)).symm.trans ((congrArg (hK _) e9).trans (kd_nO' (k := 5)))) (by decide)) q9) (rd_nOR (k := 5) hq_1343 hm_1279 hv_1323)
              have hv_1430 : hR S_1356 800 q_223 = (some q_228) := hf_1358.fr (mem_old hm_1274) (fun q9 => (fun e9 => absurd (((kd_nO (k := 5) hq_1343 hm_1274 hk_1275)).symm.trans ((congrArg (hK _) e9).trans (kd_nO' (k := 5)))) (by decide)) q9) (rd_nOR (k := 5) hq_1343 hm_1274 hv_1324)
              have hv_1431 : hR S_1356 800 q_31 = (some q_32) := hf_1358.fr (mem_old hm_1284) (fun q9 => (fun e9 => absurd (((kd_nO (k := 5) hq_1343 hm_1284 hk_1285)).symm.trans ((congrArg (hK _) e9).trans (kd_nO' (k := 5)))) (by decide)) q9) (rd_nOR (k := 5) hq_1343 hm_1284 hv_1325)
              have hv_1432 : hR S_1356 800 q_68 = (some q_73) := hf_1358.fr (mem_old hm_1302) (fun q9 => (fun e9 => absurd (((kd_nO (k := 5) hq_1343 hm_1302 hk_1303)).symm.trans ((congrArg (hK _) e9).trans (kd_nO' (k := 5)))) (by decide)) q9) (rd_nOR (k := 5) hq_1343 hm_1302 hv_1326)
              have hv_1433 : hR S_1356 900 h = (some s0) := hf_1358.fr (mem_old hm_1262) (fun q9 => (fun e9 => absurd (((kd_nO (k := 5) hq_1343 hm_1262 hk_1263)).symm.trans ((congrArg (hK _) e9).trans (kd_nO' (k := 5)))) (by decide)) q9) (rd_nOR (k := 5) hq_1343 hm_1262 hv_1327)
              have hv_1434 : hR S_1356 901 h = (some q_1) := hf_1358.fr (mem_old hm_1262) (fun q9 => (fun e9 => absurd (((kd_nO (k := 5) hq_1343 hm_1262 hk_1263)).symm.trans ((congrArg (hK _) e9).trans (kd_nO' (k := 5)))) (by decide)) q9) (rd_nOR (k := 5) hq_1343 hm_1262 hv_1328)
              have hv_1435 : hR S_1356 902 h = (some q_26) := hf_1358.fr (mem_old hm_1262) (fun q9 => (fun e9 => absurd (((kd_nO (k := 5) hq_1343 hm_1262 hk_1263)).symm.trans ((congrArg (hK _) e9).trans (kd_nO' (k := 5)))) (by decide)) q9) (rd_nOR (k := 5) hq_1343 hm_1262 hv_1329)
              have hv_1436 : hR S_1356 903 h = (some q_68) := hf_1358.fr (mem_old hm_1262) (fun q9 => (fun e9 => absurd (((kd_nO (k := 5) hq_1343 hm_1262 hk_1263)).symm.trans ((congrArg (hK _) e9).trans (kd_nO' (k := 5)))) (by decide)) q9) (rd_nOR (k := 5) hq_1343 hm_1262 hv_1330)
              have hv_1437 : hR S_1356 904 h = (some q_115) := hf_1358.fr (mem_old hm_1262) (fun q9 => (fun e9 => absurd (((kd_nO (k := 5) hq_1343 hm_1262 hk_1263)).symm.trans ((congrArg (hK _) e9).trans (kd_nO' (k := 5)))) (by decide)) q9) (rd_nOR (k := 5) hq_1343 hm_1262 hv_1331)
              have hv_1438 : hR S_1356 905 h = (some q_163) := hf_1358.fr (mem_old hm_1262) (fun q9 => (fun e9 => absurd (((kd_nO (k := 5) hq_1343 hm_1262 hk_1263)).symm.trans ((congrArg (hK _) e9).trans (kd_nO' (k := 5)))) (by decide)) q9) (rd_nOR (k := 5) hq_1343 hm_1262 hv_1332)
              have hv_1439 : hR S_1356 906 h = (some q_223) := hf_1358.fr (mem_old hm_1262) (fun q9 => (fun e9 => absurd (((kd_nO (k := 5) hq_1343 hm_1262 hk_1263)).symm.trans ((congrArg (hK _) e9).trans (kd_nO' (k := 5)))) (by decide)) q9) (rd_nOR (k := 5) hq_1343 hm_1262 hv_1333)
              have hv_1440 : hR S_1356 907 h = (some q_292) := hf_1358.fr (mem_old hm_1262) (fun q9 => (fun e9 => absurd (((kd_nO (k := 5) hq_1343 hm_1262 hk_1263)).symm.trans ((congrArg (hK _) e9).trans (kd_nO' (k := 5)))) (by decide)) q9) (rd_nOR (k := 5) hq_1343 hm_1262 hv_1334)
              have hv_1441 : hR S_1356 908 h = (some q_362) := hf_1358.fr (mem_old hm_1262) (fun q9 => (fun e9 => absurd (((kd_nO (k := 5) hq_1343 hm_1262 hk_1263)).symm.trans ((congrArg (hK _) e9).trans (kd_nO' (k := 5)))) (by decide)) q9) (rd_nOR (k := 5) hq_1343 hm_1262 hv_1335)
              have hv_1442 : hR S_1356 909 h = (some q_436) := hf_1358.fr (mem_old hm_1262) (fun q9 => (fun e9 => absurd (((kd_nO (k := 5) hq_1343 hm_1262 hk_1263)).symm.trans ((congrArg (hK _) e9).trans (kd_nO' (k := 5)))) (by decide)) q9) (rd_nOR (k := 5) hq_1343 hm_1262 hv_1336)
              have hv_1443 : hR S_1356 910 h = (some q_514) := hf_1358.fr (mem_old hm_1262) (fun q9 => (fun e9 => absurd (((kd_nO (k := 5) hq_1343 hm_1262 hk_1263)).symm.trans ((congrArg (hK _) e9).trans (kd_nO' (k := 5)))) (by decide)) q9) (rd_nOR (k := 5) hq_1343 hm_1262 hv_1337)
              have hv_1444 : hR S_1356 911 h = (some q_596) := hf_1358.fr (mem_old hm_1262) (fun q9 => (fun e9 => absurd (((kd_nO (k := 5) hq_1343 hm_1262 hk_1263)).symm.trans ((congrArg (hK _) e9).trans (kd_nO' (k := 5)))) (by decide)) q9) (rd_nOR (k := 5) hq_1343 hm_1262 hv_1338)
              have hv_1445 : hR S_1356 912 h = (some q_682) := hf_1358.fr (mem_old hm_1262) (fun q9 => (fun e9 => absurd (((kd_nO (k := 5) hq_1343 hm_1262 hk_1263)).symm.trans ((congrArg (hK _) e9).trans (kd_nO' (k := 5)))) (by decide)) q9) (rd_nOR (k := 5) hq_1343 hm_1262 hv_1339)
              have hv_1446 : hR S_1356 917 h = (some q_772) := hf_1358.fr (mem_old hm_1262) (fun q9 => (fun e9 => absurd (((kd_nO (k := 5) hq_1343 hm_1262 hk_1263)).symm.trans ((congrArg (hK _) e9).trans (kd_nO' (k := 5)))) (by decide)) q9) (rd_nOR (k := 5) hq_1343 hm_1262 hv_1340)
              have hf_1447 : Fm (fun _ _ => False) (fun f9 b9 => b9 = h) (fun _ => False) S S_1356 := hf_1346.then hf_1358 (fun a9 ha9 => ⟨(fun f9 h9 => h9.elim), (fun f9 h9 => (fun h8 => absurd (h8 ▸ ha9) hz_1344) h9), (fun h9 => h9.elim)⟩)
              have hf_1448 : Fm (fun _ _ => False) (fun _ _ => False) (fun b9 => b9 = q_682) S_964 S_1356 := hf_1347.then hf_1358 (fun a9 ha9 => ⟨(fun f9 h9 => h9.elim), (fun f9 h9 => (fun h8 => absurd (h8 ▸ ha9) hz_1345) h9), (fun h9 => h9.elim)⟩)
              have hz_1449 : q_1348 ∉ hL S := fun h9 => e_1349 (hf_1346.mem h9)
              have hz_1450 : q_1348 ∉ hL S_964 := fun h9 => e_1349 (hf_1347.mem h9)
              refine j_aast (j := i3) (ci := 5) C 19  (by decide) rfl dX9_init_219 hm_1410 hk_1411 (inr_of (n := 4) hn_1412 (vp_in_nI (by omega) (by omega))) (nI_clamp (by omega)) hm_1373 hk_1374 rfl ?_
              refine j_iinc (q := 0) (v := nI (i3 + 1)) (lv' := [(2, .int (nI (i3 + 1))), (0, .ref h), (1, .ref s0)]) C dX9_init_220 rfl (by rw [show Int32.ofInt 1 = 1 by decide]; exact nI_add i3 1) (by rw [hn9]; decide) rfl ?_
              refine j_goto (tgt := 198) C dX9_init_223 (by decide) ?_
              refine J.sub [0, 1, 2] (lv' := [(2, .int (nI (i3 + 1))), (0, .ref h), (1, .ref s0)]) (by rfl) ?_
              refine J.widen (k' := ((0 + 1 + 4 + 1 + 8 + 1 + 1 + 1 + 1 + 1 + 1 + 1 + 1 + 1 + 1 + 8 + 1 + 8 + 1 + 1 + 1 + 2 * i1) + 9 * i2) + 2 * (i3 + 1)) (n' := ((0 + 15 + 20045 + 10 + 23174 + 1 + 16 + 16 + 4 + 16 + 1 + 16 + 24000 + 16 + 21 + 117 + 21 + 117 + 3 + 4 + 12 + 20 * i1) + 138 * i2) + 13 * (i3 + 1)) (by omega) (by omega) ?_
              exact ih_1060 (i3 + 1) _ (by omega) (hf_1448.tR _ _ (fun _ => rfl)) 
          refine J.sub [0, 1, 2] (lv' := [(2, .int (nI 0)), (0, .ref h), (1, .ref s0)]) (by rw [nI_0]; rfl) ?_
          refine J.widen (k' := ((0 + 1 + 4 + 1 + 8 + 1 + 1 + 1 + 1 + 1 + 1 + 1 + 1 + 1 + 1 + 8 + 1 + 8 + 1 + 1 + 1 + 2 * i1) + 9 * i2) + 2 * 0) (n' := ((0 + 15 + 20045 + 10 + 23174 + 1 + 16 + 16 + 4 + 16 + 1 + 16 + 24000 + 16 + 21 + 117 + 21 + 117 + 3 + 4 + 12 + 20 * i1) + 138 * i2) + 13 * 0) (by omega) (by omega) ?_
          exact loop_1061 4 0 _ (by omega) Fm.refl 
        | succ m9 ih_966 =>
          intro i2 S_964 hi_968 hl_965 
          have hz_1451 : ∀ j, aI S_964 q_228 j = 0 := fun j9 => (hl_965.ai hm_897 (fun q9 => (fun e9 => absurd ((hk_898).symm.trans ((congrArg (hK _) e9).trans hk_921)) (by decide)) q9) j9).trans (hz_874 j9)
          have hz_1452 : ∀ j, aI S_964 q_292 j = 0 := fun j9 => (hl_965.ai hm_902 (fun q9 => (fun e9 => absurd ((hk_903).symm.trans ((congrArg (hK _) e9).trans hk_921)) (by decide)) q9) j9).trans (hz_875 j9)
          have hz_1453 : ∀ j, aI S_964 q_32 j = 0 := fun j9 => (hl_965.ai hm_907 (fun q9 => (fun e9 => absurd ((hk_908).symm.trans ((congrArg (hK _) e9).trans hk_921)) (by decide)) q9) j9).trans (hz_876 j9)
          have hz_1454 : ∀ j, aI S_964 q_362 j = 0 := fun j9 => (hl_965.ai hm_910 (fun q9 => (fun e9 => absurd ((hk_911).symm.trans ((congrArg (hK _) e9).trans hk_921)) (by decide)) q9) j9).trans (hz_877 j9)
          have hz_1455 : ∀ j, aI S_964 q_5 j = 0 := fun j9 => (hl_965.ai hm_915 (fun q9 => (fun e9 => absurd ((hk_916).symm.trans ((congrArg (hK _) e9).trans hk_921)) (by decide)) q9) j9).trans (hz_878 j9)
          have hz_1456 : ∀ j, aI S_964 q_682 j = 0 := fun j9 => (hl_965.ai hm_925 (fun q9 => (fun e9 => absurd ((hk_926).symm.trans ((congrArg (hK _) e9).trans hk_921)) (by decide)) q9) j9).trans (hz_880 j9)
          have hz_1457 : ∀ j, aI S_964 q_73 j = 0 := fun j9 => (hl_965.ai hm_928 (fun q9 => (fun e9 => absurd ((hk_929).symm.trans ((congrArg (hK _) e9).trans hk_921)) (by decide)) q9) j9).trans (hz_881 j9)
          have hz_1458 : ∀ j, aI S_964 q_772 j = 0 := fun j9 => (hl_965.ai hm_931 (fun q9 => (fun e9 => absurd ((hk_932).symm.trans ((congrArg (hK _) e9).trans hk_921)) (by decide)) q9) j9).trans (hz_882 j9)
          have hm_1459 : h ∈ hL S_964 := hl_965.mem hm_883
          have hk_1460 : Kd S_964 h 9 := hl_965.kd hm_883 hk_884
          have hm_1461 : q_1 ∈ hL S_964 := hl_965.mem hm_885
          have hk_1462 : Kd S_964 q_1 0 := hl_965.kd hm_885 hk_886
          have hm_1463 : q_115 ∈ hL S_964 := hl_965.mem hm_887
          have hk_1464 : Kd S_964 q_115 20 := hl_965.kd hm_887 hk_888
          have hn_1465 : Ln S_964 q_115 16 := hl_965.ln hm_887 hn_889
          have hm_1466 : q_163 ∈ hL S_964 := hl_965.mem hm_890
          have hk_1467 : Kd S_964 q_163 10 := hl_965.kd hm_890 hk_891
          have hm_1468 : q_167 ∈ hL S_964 := hl_965.mem hm_892
          have hk_1469 : Kd S_964 q_167 15 := hl_965.kd hm_892 hk_893
          have hn_1470 : Ln S_964 q_167 16 := hl_965.ln hm_892 hn_894
          have hm_1471 : q_223 ∈ hL S_964 := hl_965.mem hm_895
          have hk_1472 : Kd S_964 q_223 8 := hl_965.kd hm_895 hk_896
          have hm_1473 : q_228 ∈ hL S_964 := hl_965.mem hm_897
          have hk_1474 : Kd S_964 q_228 14 := hl_965.kd hm_897 hk_898
          have hn_1475 : Ln S_964 q_228 16 := hl_965.ln hm_897 hn_899
          have hm_1476 : q_26 ∈ hL S_964 := hl_965.mem hm_900
          have hk_1477 : Kd S_964 q_26 2 := hl_965.kd hm_900 hk_901
          have hm_1478 : q_292 ∈ hL S_964 := hl_965.mem hm_902
          have hk_1479 : Kd S_964 q_292 13 := hl_965.kd hm_902 hk_903
          have hn_1480 : Ln S_964 q_292 24000 := hl_965.ln hm_902 hn_904
          have hm_1481 : q_31 ∈ hL S_964 := hl_965.mem hm_905
          have hk_1482 : Kd S_964 q_31 8 := hl_965.kd hm_905 hk_906
          have hm_1483 : q_32 ∈ hL S_964 := hl_965.mem hm_907
          have hk_1484 : Kd S_964 q_32 14 := hl_965.kd hm_907 hk_908
          have hn_1485 : Ln S_964 q_32 16 := hl_965.ln hm_907 hn_909
          have hm_1486 : q_362 ∈ hL S_964 := hl_965.mem hm_910
          have hk_1487 : Kd S_964 q_362 14 := hl_965.kd hm_910 hk_911
          have hn_1488 : Ln S_964 q_362 16 := hl_965.ln hm_910 hn_912
          have hm_1489 : q_436 ∈ hL S_964 := hl_965.mem hm_913
          have hk_1490 : Kd S_964 q_436 1 := hl_965.kd hm_913 hk_914
          have hm_1491 : q_5 ∈ hL S_964 := hl_965.mem hm_915
          have hk_1492 : Kd S_964 q_5 14 := hl_965.kd hm_915 hk_916
          have hn_1493 : Ln S_964 q_5 20000 := hl_965.ln hm_915 hn_917
          have hm_1494 : q_514 ∈ hL S_964 := hl_965.mem hm_918
          have hk_1495 : Kd S_964 q_514 1 := hl_965.kd hm_918 hk_919
          have hm_1496 : q_596 ∈ hL S_964 := hl_965.mem hm_920
          have hk_1497 : Kd S_964 q_596 18 := hl_965.kd hm_920 hk_921
          have hn_1498 : Ln S_964 q_596 3 := hl_965.ln hm_920 hn_922
          have hm_1499 : q_68 ∈ hL S_964 := hl_965.mem hm_923
          have hk_1500 : Kd S_964 q_68 8 := hl_965.kd hm_923 hk_924
          have hm_1501 : q_682 ∈ hL S_964 := hl_965.mem hm_925
          have hk_1502 : Kd S_964 q_682 19 := hl_965.kd hm_925 hk_926
          have hn_1503 : Ln S_964 q_682 4 := hl_965.ln hm_925 hn_927
          have hm_1504 : q_73 ∈ hL S_964 := hl_965.mem hm_928
          have hk_1505 : Kd S_964 q_73 14 := hl_965.kd hm_928 hk_929
          have hn_1506 : Ln S_964 q_73 16 := hl_965.ln hm_928 hn_930
          have hm_1507 : q_772 ∈ hL S_964 := hl_965.mem hm_931
          have hk_1508 : Kd S_964 q_772 14 := hl_965.kd hm_931 hk_932
          have hn_1509 : Ln S_964 q_772 12 := hl_965.ln hm_931 hn_933
          have hv_1510 : hI S_964 1000 q_163 = 1 := hl_965.fi hm_890 (fun h9 => h9) hv_934
          have hv_1511 : hI S_964 1001 q_163 = 1 := hl_965.fi hm_890 (fun h9 => h9) hv_935
          have hv_1512 : hI S_964 2 q_1 = 0 := hl_965.fi hm_885 (fun h9 => h9) hv_936
          have hv_1513 : hI S_964 206 q_26 = 0 := hl_965.fi hm_900 (fun h9 => h9) hv_937
          have hv_1514 : hI S_964 209 q_26 = 0 := hl_965.fi hm_900 (fun h9 => h9) hv_938
          have hv_1515 : hI S_964 3 q_1 = 0 := hl_965.fi hm_885 (fun h9 => h9) hv_939
          have hv_1516 : hI S_964 4 q_1 = 0 := hl_965.fi hm_885 (fun h9 => h9) hv_940
          have hv_1517 : hI S_964 5 q_1 = 0 := hl_965.fi hm_885 (fun h9 => h9) hv_941
          have hv_1518 : hR S_964 0 q_1 = (some q_5) := hl_965.fr hm_885 (fun h9 => h9) hv_942
          have hv_1519 : hR S_964 1003 q_163 = (some q_167) := hl_965.fr hm_890 (fun h9 => h9) hv_943
          have hv_1520 : hR S_964 200 q_26 = (some q_31) := hl_965.fr hm_900 (fun h9 => h9) hv_944
          have hv_1521 : hR S_964 800 q_223 = (some q_228) := hl_965.fr hm_895 (fun h9 => h9) hv_945
          have hv_1522 : hR S_964 800 q_31 = (some q_32) := hl_965.fr hm_905 (fun h9 => h9) hv_946
          have hv_1523 : hR S_964 800 q_68 = (some q_73) := hl_965.fr hm_923 (fun h9 => h9) hv_947
          have hv_1524 : hR S_964 900 h = (some s0) := hl_965.fr hm_883 (fun h9 => h9) hv_948
          have hv_1525 : hR S_964 901 h = (some q_1) := hl_965.fr hm_883 (fun h9 => h9) hv_949
          have hv_1526 : hR S_964 902 h = (some q_26) := hl_965.fr hm_883 (fun h9 => h9) hv_950
          have hv_1527 : hR S_964 903 h = (some q_68) := hl_965.fr hm_883 (fun h9 => h9) hv_951
          have hv_1528 : hR S_964 904 h = (some q_115) := hl_965.fr hm_883 (fun h9 => h9) hv_952
          have hv_1529 : hR S_964 905 h = (some q_163) := hl_965.fr hm_883 (fun h9 => h9) hv_953
          have hv_1530 : hR S_964 906 h = (some q_223) := hl_965.fr hm_883 (fun h9 => h9) hv_954
          have hv_1531 : hR S_964 907 h = (some q_292) := hl_965.fr hm_883 (fun h9 => h9) hv_955
          have hv_1532 : hR S_964 908 h = (some q_362) := hl_965.fr hm_883 (fun h9 => h9) hv_956
          have hv_1533 : hR S_964 909 h = (some q_436) := hl_965.fr hm_883 (fun h9 => h9) hv_957
          have hv_1534 : hR S_964 910 h = (some q_514) := hl_965.fr hm_883 (fun h9 => h9) hv_958
          have hv_1535 : hR S_964 911 h = (some q_596) := hl_965.fr hm_883 (fun h9 => h9) hv_959
          have hv_1536 : hR S_964 912 h = (some q_682) := hl_965.fr hm_883 (fun h9 => h9) hv_960
          have hv_1537 : hR S_964 917 h = (some q_772) := hl_965.fr hm_883 (fun h9 => h9) hv_961
          have hf_1538 : Fm (fun _ _ => False) (fun f9 b9 => b9 = h) (fun _ => False) S S_964 := hf_962.then hl_965 (fun a9 ha9 => ⟨(fun f9 h9 => h9.elim), (fun f9 h9 => h9.elim), (fun h9 => (fun h8 => absurd (h8 ▸ ha9) hz_599) h9)⟩)
          refine j_iload_n C dX9_init_168 rfl 0 rfl ?_
          refine j_aload_n C dX9_init_169 rfl 1 rfl ?_
          refine j_getr (f := 911) (v := q_596) C flX9_64 dX9_init_170 hm_1459 hk_1460 (by decide) rfl hv_1535 ?_
          refine j_alen (v := 3) C dX9_init_173 hm_1496 hk_1497 (by decide) (by decide) (len_of (n := 3) hn_1498 (by decide)) ?_
          refine j_ic_ge (tgt := 196) C dX9_init_174 (by decide) (fun c_174 => absurd c_174 (nI_ge (b := 3) (by omega) (by omega))) (fun c_174 => ?_)
          show J _ _ _ _ _ 177 _
          refine j_aload_n C dX9_init_177 rfl 1 rfl ?_
          refine j_getr (f := 911) (v := q_596) C flX9_64 dX9_init_178 hm_1459 hk_1460 (by decide) rfl hv_1535 ?_
          refine j_iload_n C dX9_init_181 rfl 0 rfl ?_
          refine j_new (N := 21) C (ci := 1) rfl rfl klX9_54 knX1 kiX1 (M.cells (by omega)) (M.slots (by omega)) dX9_init_182 (fun q_1539 hq_1540 => ?_)
          have hz_1541 : q_1539 ∉ hL S := fun h9 => hq_1540 (hf_1538.mem h9)
          have hz_1542 : q_1539 ∉ hL S_869 := fun h9 => hq_1540 (hl_965.mem h9)
          refine j_dup C dX9_init_185 rfl ?_
          have hf_1543 : Fm (fun _ _ => False) (fun f9 b9 => b9 = h) (fun _ => False) S (nO S_964 q_1539 1) := (hf_1538.nO _ hq_1540)
          have hf_1544 : Fm (fun _ _ => False) (fun _ _ => False) (fun b9 => b9 = q_596) S_869 (nO S_964 q_1539 1) := (hl_965.nO _ hq_1540)
          refine j_callI C [] [.ref q_1539, .int (nI i2), .ref q_596] mlX9_56 mcX1_init (c_X1_init (nO S_964 q_1539 1) q_1539 mem_new (kd_nO' (k := 1))) (M.rm (by decide) (by decide) (by omega) (by omega)) rfl rfl (Nat.le_of_ble_eq_true rfl) dX9_init_186 (fun r_1545 S_1546 hp_1547 => ?_)
          obtain ⟨rfl, hf_1548⟩ := hp_1547
          refine J.eq (st' := [.ref q_1539, .int (nI i2), .ref q_596]) rfl rfl rfl ?_
          have hz_1549 : ∀ j, aI S_1546 q_228 j = 0 := fun j9 => (hf_1548.ai (mem_old hm_1473) (fun h9 => h9) j9).trans (hz_1451 j9)
          have hz_1550 : ∀ j, aI S_1546 q_292 j = 0 := fun j9 => (hf_1548.ai (mem_old hm_1478) (fun h9 => h9) j9).trans (hz_1452 j9)
          have hz_1551 : ∀ j, aI S_1546 q_32 j = 0 := fun j9 => (hf_1548.ai (mem_old hm_1483) (fun h9 => h9) j9).trans (hz_1453 j9)
          have hz_1552 : ∀ j, aI S_1546 q_362 j = 0 := fun j9 => (hf_1548.ai (mem_old hm_1486) (fun h9 => h9) j9).trans (hz_1454 j9)
          have hz_1553 : ∀ j, aI S_1546 q_5 j = 0 := fun j9 => (hf_1548.ai (mem_old hm_1491) (fun h9 => h9) j9).trans (hz_1455 j9)
          have hz_1554 : ∀ j, aI S_1546 q_682 j = 0 := fun j9 => (hf_1548.ai (mem_old hm_1501) (fun h9 => h9) j9).trans (hz_1456 j9)
          have hz_1555 : ∀ j, aI S_1546 q_73 j = 0 := fun j9 => (hf_1548.ai (mem_old hm_1504) (fun h9 => h9) j9).trans (hz_1457 j9)
          have hz_1556 : ∀ j, aI S_1546 q_772 j = 0 := fun j9 => (hf_1548.ai (mem_old hm_1507) (fun h9 => h9) j9).trans (hz_1458 j9)
          have hm_1557 : h ∈ hL S_1546 := hf_1548.mem (mem_old hm_1459)
          have hk_1558 : Kd S_1546 h 9 := hf_1548.kd (mem_old hm_1459) (kd_nO (k := 1) hq_1540 hm_1459 hk_1460)
          have hm_1559 : q_1 ∈ hL S_1546 := hf_1548.mem (mem_old hm_1461)
          have hk_1560 : Kd S_1546 q_1 0 := hf_1548.kd (mem_old hm_1461) (kd_nO (k := 1) hq_1540 hm_1461 hk_1462)
          have hm_1561 : q_115 ∈ hL S_1546 := hf_1548.mem (mem_old hm_1463)
          have hk_1562 : Kd S_1546 q_115 20 := hf_1548.kd (mem_old hm_1463) (kd_nO (k := 1) hq_1540 hm_1463 hk_1464)
          have hn_1563 : Ln S_1546 q_115 16 := hf_1548.ln (mem_old hm_1463) hn_1465
          have hm_1564 : q_1539 ∈ hL S_1546 := hf_1548.mem mem_new
          have hk_1565 : Kd S_1546 q_1539 1 := hf_1548.kd mem_new (kd_nO' (k := 1))
          have hm_1566 : q_163 ∈ hL S_1546 := hf_1548.mem (mem_old hm_1466)
          have hk_1567 : Kd S_1546 q_163 10 := hf_1548.kd (mem_old hm_1466) (kd_nO (k := 1) hq_1540 hm_1466 hk_1467)
          have hm_1568 : q_167 ∈ hL S_1546 := hf_1548.mem (mem_old hm_1468)
          have hk_1569 : Kd S_1546 q_167 15 := hf_1548.kd (mem_old hm_1468) (kd_nO (k := 1) hq_1540 hm_1468 hk_1469)
          have hn_1570 : Ln S_1546 q_167 16 := hf_1548.ln (mem_old hm_1468) hn_1470
          have hm_1571 : q_223 ∈ hL S_1546 := hf_1548.mem (mem_old hm_1471)
          have hk_1572 : Kd S_1546 q_223 8 := hf_1548.kd (mem_old hm_1471) (kd_nO (k := 1) hq_1540 hm_1471 hk_1472)
          have hm_1573 : q_228 ∈ hL S_1546 := hf_1548.mem (mem_old hm_1473)
          have hk_1574 : Kd S_1546 q_228 14 := hf_1548.kd (mem_old hm_1473) (kd_nO (k := 1) hq_1540 hm_1473 hk_1474)
          have hn_1575 : Ln S_1546 q_228 16 := hf_1548.ln (mem_old hm_1473) hn_1475
          have hm_1576 : q_26 ∈ hL S_1546 := hf_1548.mem (mem_old hm_1476)
          have hk_1577 : Kd S_1546 q_26 2 := hf_1548.kd (mem_old hm_1476) (kd_nO (k := 1) hq_1540 hm_1476 hk_1477)
          have hm_1578 : q_292 ∈ hL S_1546 := hf_1548.mem (mem_old hm_1478)
          have hk_1579 : Kd S_1546 q_292 13 := hf_1548.kd (mem_old hm_1478) (kd_nO (k := 1) hq_1540 hm_1478 hk_1479)
          have hn_1580 : Ln S_1546 q_292 24000 := hf_1548.ln (mem_old hm_1478) hn_1480
          have hm_1581 : q_31 ∈ hL S_1546 := hf_1548.mem (mem_old hm_1481)
          have hk_1582 : Kd S_1546 q_31 8 := hf_1548.kd (mem_old hm_1481) (kd_nO (k := 1) hq_1540 hm_1481 hk_1482)
          have hm_1583 : q_32 ∈ hL S_1546 := hf_1548.mem (mem_old hm_1483)
          have hk_1584 : Kd S_1546 q_32 14 := hf_1548.kd (mem_old hm_1483) (kd_nO (k := 1) hq_1540 hm_1483 hk_1484)
          have hn_1585 : Ln S_1546 q_32 16 := hf_1548.ln (mem_old hm_1483) hn_1485
          have hm_1586 : q_362 ∈ hL S_1546 := hf_1548.mem (mem_old hm_1486)
          have hk_1587 : Kd S_1546 q_362 14 := hf_1548.kd (mem_old hm_1486) (kd_nO (k := 1) hq_1540 hm_1486 hk_1487)
          have hn_1588 : Ln S_1546 q_362 16 := hf_1548.ln (mem_old hm_1486) hn_1488
          have hm_1589 : q_436 ∈ hL S_1546 := hf_1548.mem (mem_old hm_1489)
          have hk_1590 : Kd S_1546 q_436 1 := hf_1548.kd (mem_old hm_1489) (kd_nO (k := 1) hq_1540 hm_1489 hk_1490)
          have hm_1591 : q_5 ∈ hL S_1546 := hf_1548.mem (mem_old hm_1491)
          have hk_1592 : Kd S_1546 q_5 14 := hf_1548.kd (mem_old hm_1491) (kd_nO (k := 1) hq_1540 hm_1491 hk_1492)
          have hn_1593 : Ln S_1546 q_5 20000 := hf_1548.ln (mem_old hm_1491) hn_1493
          have hm_1594 : q_514 ∈ hL S_1546 := hf_1548.mem (mem_old hm_1494)
          have hk_1595 : Kd S_1546 q_514 1 := hf_1548.kd (mem_old hm_1494) (kd_nO (k := 1) hq_1540 hm_1494 hk_1495)
          have hm_1596 : q_596 ∈ hL S_1546 := hf_1548.mem (mem_old hm_1496)
          have hk_1597 : Kd S_1546 q_596 18 := hf_1548.kd (mem_old hm_1496) (kd_nO (k := 1) hq_1540 hm_1496 hk_1497)
          have hn_1598 : Ln S_1546 q_596 3 := hf_1548.ln (mem_old hm_1496) hn_1498
          have hm_1599 : q_68 ∈ hL S_1546 := hf_1548.mem (mem_old hm_1499)
          have hk_1600 : Kd S_1546 q_68 8 := hf_1548.kd (mem_old hm_1499) (kd_nO (k := 1) hq_1540 hm_1499 hk_1500)
          have hm_1601 : q_682 ∈ hL S_1546 := hf_1548.mem (mem_old hm_1501)
          have hk_1602 : Kd S_1546 q_682 19 := hf_1548.kd (mem_old hm_1501) (kd_nO (k := 1) hq_1540 hm_1501 hk_1502)
          have hn_1603 : Ln S_1546 q_682 4 := hf_1548.ln (mem_old hm_1501) hn_1503
          have hm_1604 : q_73 ∈ hL S_1546 := hf_1548.mem (mem_old hm_1504)
          have hk_1605 : Kd S_1546 q_73 14 := hf_1548.kd (mem_old hm_1504) (kd_nO (k := 1) hq_1540 hm_1504 hk_1505)
          have hn_1606 : Ln S_1546 q_73 16 := hf_1548.ln (mem_old hm_1504) hn_1506
          have hm_1607 : q_772 ∈ hL S_1546 := hf_1548.mem (mem_old hm_1507)
          have hk_1608 : Kd S_1546 q_772 14 := hf_1548.kd (mem_old hm_1507) (kd_nO (k := 1) hq_1540 hm_1507 hk_1508)
          have hn_1609 : Ln S_1546 q_772 12 := hf_1548.ln (mem_old hm_1507) hn_1509
          have hv_1610 : hI S_1546 1000 q_163 = 1 := hf_1548.fi (mem_old hm_1466) (fun h9 => h9) (rd_nOI (k := 1) hq_1540 hm_1466 hv_1510)
          have hv_1611 : hI S_1546 1001 q_163 = 1 := hf_1548.fi (mem_old hm_1466) (fun h9 => h9) (rd_nOI (k := 1) hq_1540 hm_1466 hv_1511)
          have hv_1612 : hI S_1546 2 q_1 = 0 := hf_1548.fi (mem_old hm_1461) (fun h9 => h9) (rd_nOI (k := 1) hq_1540 hm_1461 hv_1512)
          have hv_1613 : hI S_1546 206 q_26 = 0 := hf_1548.fi (mem_old hm_1476) (fun h9 => h9) (rd_nOI (k := 1) hq_1540 hm_1476 hv_1513)
          have hv_1614 : hI S_1546 209 q_26 = 0 := hf_1548.fi (mem_old hm_1476) (fun h9 => h9) (rd_nOI (k := 1) hq_1540 hm_1476 hv_1514)
          have hv_1615 : hI S_1546 3 q_1 = 0 := hf_1548.fi (mem_old hm_1461) (fun h9 => h9) (rd_nOI (k := 1) hq_1540 hm_1461 hv_1515)
          have hv_1616 : hI S_1546 4 q_1 = 0 := hf_1548.fi (mem_old hm_1461) (fun h9 => h9) (rd_nOI (k := 1) hq_1540 hm_1461 hv_1516)
          have hv_1617 : hI S_1546 5 q_1 = 0 := hf_1548.fi (mem_old hm_1461) (fun h9 => h9) (rd_nOI (k := 1) hq_1540 hm_1461 hv_1517)
          have hv_1618 : hR S_1546 0 q_1 = (some q_5) := hf_1548.fr (mem_old hm_1461) (fun q9 => (fun e9 => absurd (((kd_nO (k := 1) hq_1540 hm_1461 hk_1462)).symm.trans ((congrArg (hK _) e9).trans (kd_nO' (k := 1)))) (by decide)) q9) (rd_nOR (k := 1) hq_1540 hm_1461 hv_1518)
          have hv_1619 : hR S_1546 1003 q_163 = (some q_167) := hf_1548.fr (mem_old hm_1466) (fun q9 => (fun e9 => absurd (((kd_nO (k := 1) hq_1540 hm_1466 hk_1467)).symm.trans ((congrArg (hK _) e9).trans (kd_nO' (k := 1)))) (by decide)) q9) (rd_nOR (k := 1) hq_1540 hm_1466 hv_1519)
          have hv_1620 : hR S_1546 200 q_26 = (some q_31) := hf_1548.fr (mem_old hm_1476) (fun q9 => (fun e9 => absurd (((kd_nO (k := 1) hq_1540 hm_1476 hk_1477)).symm.trans ((congrArg (hK _) e9).trans (kd_nO' (k := 1)))) (by decide)) q9) (rd_nOR (k := 1) hq_1540 hm_1476 hv_1520)
          have hv_1621 : hR S_1546 800 q_223 = (some q_228) := hf_1548.fr (mem_old hm_1471) (fun q9 => (fun e9 => absurd (((kd_nO (k := 1) hq_1540 hm_1471 hk_1472)).symm.trans ((congrArg (hK _) e9).trans (kd_nO' (k := 1)))) (by decide)) q9) (rd_nOR (k := 1) hq_1540 hm_1471 hv_1521)
          have hv_1622 : hR S_1546 800 q_31 = (some q_32) := hf_1548.fr (mem_old hm_1481) (fun q9 => (fun e9 => absurd (((kd_nO (k := 1) hq_1540 hm_1481 hk_1482)).symm.trans ((congrArg (hK _) e9).trans (kd_nO' (k := 1)))) (by decide)) q9) (rd_nOR (k := 1) hq_1540 hm_1481 hv_1522)
          have hv_1623 : hR S_1546 800 q_68 = (some q_73) := hf_1548.fr (mem_old hm_1499) (fun q9 => (fun e9 => absurd (((kd_nO (k := 1) hq_1540 hm_1499 hk_1500)).symm.trans ((congrArg (hK _) e9).trans (kd_nO' (k := 1)))) (by decide)) q9) (rd_nOR (k := 1) hq_1540 hm_1499 hv_1523)
          have hv_1624 : hR S_1546 900 h = (some s0) := hf_1548.fr (mem_old hm_1459) (fun q9 => (fun e9 => absurd (((kd_nO (k := 1) hq_1540 hm_1459 hk_1460)).symm.trans ((congrArg (hK _) e9).trans (kd_nO' (k := 1)))) (by decide)) q9) (rd_nOR (k := 1) hq_1540 hm_1459 hv_1524)
          have hv_1625 : hR S_1546 901 h = (some q_1) := hf_1548.fr (mem_old hm_1459) (fun q9 => (fun e9 => absurd (((kd_nO (k := 1) hq_1540 hm_1459 hk_1460)).symm.trans ((congrArg (hK _) e9).trans (kd_nO' (k := 1)))) (by decide)) q9) (rd_nOR (k := 1) hq_1540 hm_1459 hv_1525)
          have hv_1626 : hR S_1546 902 h = (some q_26) := hf_1548.fr (mem_old hm_1459) (fun q9 => (fun e9 => absurd (((kd_nO (k := 1) hq_1540 hm_1459 hk_1460)).symm.trans ((congrArg (hK _) e9).trans (kd_nO' (k := 1)))) (by decide)) q9) (rd_nOR (k := 1) hq_1540 hm_1459 hv_1526)
          have hv_1627 : hR S_1546 903 h = (some q_68) := hf_1548.fr (mem_old hm_1459) (fun q9 => (fun e9 => absurd (((kd_nO (k := 1) hq_1540 hm_1459 hk_1460)).symm.trans ((congrArg (hK _) e9).trans (kd_nO' (k := 1)))) (by decide)) q9) (rd_nOR (k := 1) hq_1540 hm_1459 hv_1527)
          have hv_1628 : hR S_1546 904 h = (some q_115) := hf_1548.fr (mem_old hm_1459) (fun q9 => (fun e9 => absurd (((kd_nO (k := 1) hq_1540 hm_1459 hk_1460)).symm.trans ((congrArg (hK _) e9).trans (kd_nO' (k := 1)))) (by decide)) q9) (rd_nOR (k := 1) hq_1540 hm_1459 hv_1528)
          have hv_1629 : hR S_1546 905 h = (some q_163) := hf_1548.fr (mem_old hm_1459) (fun q9 => (fun e9 => absurd (((kd_nO (k := 1) hq_1540 hm_1459 hk_1460)).symm.trans ((congrArg (hK _) e9).trans (kd_nO' (k := 1)))) (by decide)) q9) (rd_nOR (k := 1) hq_1540 hm_1459 hv_1529)
          have hv_1630 : hR S_1546 906 h = (some q_223) := hf_1548.fr (mem_old hm_1459) (fun q9 => (fun e9 => absurd (((kd_nO (k := 1) hq_1540 hm_1459 hk_1460)).symm.trans ((congrArg (hK _) e9).trans (kd_nO' (k := 1)))) (by decide)) q9) (rd_nOR (k := 1) hq_1540 hm_1459 hv_1530)
          have hv_1631 : hR S_1546 907 h = (some q_292) := hf_1548.fr (mem_old hm_1459) (fun q9 => (fun e9 => absurd (((kd_nO (k := 1) hq_1540 hm_1459 hk_1460)).symm.trans ((congrArg (hK _) e9).trans (kd_nO' (k := 1)))) (by decide)) q9) (rd_nOR (k := 1) hq_1540 hm_1459 hv_1531)
          have hv_1632 : hR S_1546 908 h = (some q_362) := hf_1548.fr (mem_old hm_1459) (fun q9 => (fun e9 => absurd (((kd_nO (k := 1) hq_1540 hm_1459 hk_1460)).symm.trans ((congrArg (hK _) e9).trans (kd_nO' (k := 1)))) (by decide)) q9) (rd_nOR (k := 1) hq_1540 hm_1459 hv_1532)
          have hv_1633 : hR S_1546 909 h = (some q_436) := hf_1548.fr (mem_old hm_1459) (fun q9 => (fun e9 => absurd (((kd_nO (k := 1) hq_1540 hm_1459 hk_1460)).symm.trans ((congrArg (hK _) e9).trans (kd_nO' (k := 1)))) (by decide)) q9) (rd_nOR (k := 1) hq_1540 hm_1459 hv_1533)
          have hv_1634 : hR S_1546 910 h = (some q_514) := hf_1548.fr (mem_old hm_1459) (fun q9 => (fun e9 => absurd (((kd_nO (k := 1) hq_1540 hm_1459 hk_1460)).symm.trans ((congrArg (hK _) e9).trans (kd_nO' (k := 1)))) (by decide)) q9) (rd_nOR (k := 1) hq_1540 hm_1459 hv_1534)
          have hv_1635 : hR S_1546 911 h = (some q_596) := hf_1548.fr (mem_old hm_1459) (fun q9 => (fun e9 => absurd (((kd_nO (k := 1) hq_1540 hm_1459 hk_1460)).symm.trans ((congrArg (hK _) e9).trans (kd_nO' (k := 1)))) (by decide)) q9) (rd_nOR (k := 1) hq_1540 hm_1459 hv_1535)
          have hv_1636 : hR S_1546 912 h = (some q_682) := hf_1548.fr (mem_old hm_1459) (fun q9 => (fun e9 => absurd (((kd_nO (k := 1) hq_1540 hm_1459 hk_1460)).symm.trans ((congrArg (hK _) e9).trans (kd_nO' (k := 1)))) (by decide)) q9) (rd_nOR (k := 1) hq_1540 hm_1459 hv_1536)
          have hv_1637 : hR S_1546 917 h = (some q_772) := hf_1548.fr (mem_old hm_1459) (fun q9 => (fun e9 => absurd (((kd_nO (k := 1) hq_1540 hm_1459 hk_1460)).symm.trans ((congrArg (hK _) e9).trans (kd_nO' (k := 1)))) (by decide)) q9) (rd_nOR (k := 1) hq_1540 hm_1459 hv_1537)
          have hf_1638 : Fm (fun _ _ => False) (fun f9 b9 => b9 = h) (fun _ => False) S S_1546 := hf_1543.then hf_1548 (fun a9 ha9 => ⟨(fun f9 h9 => h9.elim), (fun f9 h9 => (fun h8 => absurd (h8 ▸ ha9) hz_1541) h9), (fun h9 => h9.elim)⟩)
          have hf_1639 : Fm (fun _ _ => False) (fun _ _ => False) (fun b9 => b9 = q_596) S_869 S_1546 := hf_1544.then hf_1548 (fun a9 ha9 => ⟨(fun f9 h9 => h9.elim), (fun f9 h9 => (fun h8 => absurd (h8 ▸ ha9) hz_1542) h9), (fun h9 => h9.elim)⟩)
          refine j_aast (j := i2) (ci := 1) C 18  (by decide) rfl dX9_init_189 hm_1596 hk_1597 (inr_of (n := 3) hn_1598 (vp_in_nI (by omega) (by omega))) (nI_clamp (by omega)) hm_1564 hk_1565 rfl ?_
          refine j_iinc (q := 0) (v := nI (i2 + 1)) (lv' := [(2, .int (nI (i2 + 1))), (0, .ref h), (1, .ref s0)]) C dX9_init_190 rfl (by rw [show Int32.ofInt 1 = 1 by decide]; exact nI_add i2 1) (by rw [hn9]; decide) rfl ?_
          show J _ _ _ _ _ 193 _
          refine j_goto (tgt := 168) C dX9_init_193 (by decide) ?_
          refine J.sub [0, 1, 2] (lv' := [(2, .int (nI (i2 + 1))), (0, .ref h), (1, .ref s0)]) (by rfl) ?_
          refine J.widen (k' := (0 + 1 + 4 + 1 + 8 + 1 + 1 + 1 + 1 + 1 + 1 + 1 + 1 + 1 + 1 + 8 + 1 + 8 + 1 + 1 + 1 + 2 * i1) + 9 * (i2 + 1)) (n' := (0 + 15 + 20045 + 10 + 23174 + 1 + 16 + 16 + 4 + 16 + 1 + 16 + 24000 + 16 + 21 + 117 + 21 + 117 + 3 + 4 + 12 + 20 * i1) + 138 * (i2 + 1)) (by omega) (by omega) ?_
          exact ih_966 (i2 + 1) _ (by omega) (hf_1639.tR _ _ (fun _ => rfl)) 
      refine J.sub [0, 1, 2] (lv' := [(2, .int (nI 0)), (0, .ref h), (1, .ref s0)]) (by rw [nI_0]; rfl) ?_
      refine J.widen (k' := (0 + 1 + 4 + 1 + 8 + 1 + 1 + 1 + 1 + 1 + 1 + 1 + 1 + 1 + 1 + 8 + 1 + 8 + 1 + 1 + 1 + 2 * i1) + 9 * 0) (n' := (0 + 15 + 20045 + 10 + 23174 + 1 + 16 + 16 + 4 + 16 + 1 + 16 + 24000 + 16 + 21 + 117 + 21 + 117 + 3 + 4 + 12 + 20 * i1) + 138 * 0) (by omega) (by omega) ?_
      exact loop_967 3 0 _ (by omega) Fm.refl 
    | succ m9 ih_871 =>
      intro i1 S_869 hi_873 hl_870 
      have hz_1640 : ∀ j, aI S_869 q_228 j = 0 := fun j9 => (hl_870.ai hm_793 (fun q9 => (fun e9 => absurd ((hk_794).symm.trans ((congrArg (hK _) e9).trans hk_783)) (by decide)) q9) j9).trans (hz_796 j9)
      have hz_1641 : ∀ j, aI S_869 q_292 j = 0 := fun j9 => (hl_870.ai hm_799 (fun q9 => (fun e9 => absurd ((hk_800).symm.trans ((congrArg (hK _) e9).trans hk_783)) (by decide)) q9) j9).trans (hz_802 j9)
      have hz_1642 : ∀ j, aI S_869 q_32 j = 0 := fun j9 => (hl_870.ai hm_805 (fun q9 => (fun e9 => absurd ((hk_806).symm.trans ((congrArg (hK _) e9).trans hk_783)) (by decide)) q9) j9).trans (hz_808 j9)
      have hz_1643 : ∀ j, aI S_869 q_362 j = 0 := fun j9 => (hl_870.ai hm_809 (fun q9 => (fun e9 => absurd ((hk_810).symm.trans ((congrArg (hK _) e9).trans hk_783)) (by decide)) q9) j9).trans (hz_812 j9)
      have hz_1644 : ∀ j, aI S_869 q_5 j = 0 := fun j9 => (hl_870.ai hm_815 (fun q9 => (fun e9 => absurd ((hk_816).symm.trans ((congrArg (hK _) e9).trans hk_783)) (by decide)) q9) j9).trans (hz_818 j9)
      have hz_1645 : ∀ j, aI S_869 q_596 j = 0 := fun j9 => (hl_870.ai hm_821 (fun q9 => (fun e9 => absurd ((hk_822).symm.trans ((congrArg (hK _) e9).trans hk_783)) (by decide)) q9) j9).trans (hz_824 j9)
      have hz_1646 : ∀ j, aI S_869 q_682 j = 0 := fun j9 => (hl_870.ai hm_827 (fun q9 => (fun e9 => absurd ((hk_828).symm.trans ((congrArg (hK _) e9).trans hk_783)) (by decide)) q9) j9).trans (hz_830 j9)
      have hz_1647 : ∀ j, aI S_869 q_73 j = 0 := fun j9 => (hl_870.ai hm_831 (fun q9 => (fun e9 => absurd ((hk_832).symm.trans ((congrArg (hK _) e9).trans hk_783)) (by decide)) q9) j9).trans (hz_834 j9)
      have hz_1648 : ∀ j, aI S_869 q_772 j = 0 := fun j9 => (hl_870.ai hm_835 (fun q9 => (fun e9 => absurd ((hk_836).symm.trans ((congrArg (hK _) e9).trans hk_783)) (by decide)) q9) j9).trans (hz_838 j9)
      have hm_1649 : h ∈ hL S_869 := hl_870.mem hm_778
      have hk_1650 : Kd S_869 h 9 := hl_870.kd hm_778 hk_779
      have hm_1651 : q_1 ∈ hL S_869 := hl_870.mem hm_780
      have hk_1652 : Kd S_869 q_1 0 := hl_870.kd hm_780 hk_781
      have hm_1653 : q_115 ∈ hL S_869 := hl_870.mem hm_782
      have hk_1654 : Kd S_869 q_115 20 := hl_870.kd hm_782 hk_783
      have hn_1655 : Ln S_869 q_115 16 := hl_870.ln hm_782 hn_784
      have hm_1656 : q_163 ∈ hL S_869 := hl_870.mem hm_786
      have hk_1657 : Kd S_869 q_163 10 := hl_870.kd hm_786 hk_787
      have hm_1658 : q_167 ∈ hL S_869 := hl_870.mem hm_788
      have hk_1659 : Kd S_869 q_167 15 := hl_870.kd hm_788 hk_789
      have hn_1660 : Ln S_869 q_167 16 := hl_870.ln hm_788 hn_790
      have hm_1661 : q_223 ∈ hL S_869 := hl_870.mem hm_791
      have hk_1662 : Kd S_869 q_223 8 := hl_870.kd hm_791 hk_792
      have hm_1663 : q_228 ∈ hL S_869 := hl_870.mem hm_793
      have hk_1664 : Kd S_869 q_228 14 := hl_870.kd hm_793 hk_794
      have hn_1665 : Ln S_869 q_228 16 := hl_870.ln hm_793 hn_795
      have hm_1666 : q_26 ∈ hL S_869 := hl_870.mem hm_797
      have hk_1667 : Kd S_869 q_26 2 := hl_870.kd hm_797 hk_798
      have hm_1668 : q_292 ∈ hL S_869 := hl_870.mem hm_799
      have hk_1669 : Kd S_869 q_292 13 := hl_870.kd hm_799 hk_800
      have hn_1670 : Ln S_869 q_292 24000 := hl_870.ln hm_799 hn_801
      have hm_1671 : q_31 ∈ hL S_869 := hl_870.mem hm_803
      have hk_1672 : Kd S_869 q_31 8 := hl_870.kd hm_803 hk_804
      have hm_1673 : q_32 ∈ hL S_869 := hl_870.mem hm_805
      have hk_1674 : Kd S_869 q_32 14 := hl_870.kd hm_805 hk_806
      have hn_1675 : Ln S_869 q_32 16 := hl_870.ln hm_805 hn_807
      have hm_1676 : q_362 ∈ hL S_869 := hl_870.mem hm_809
      have hk_1677 : Kd S_869 q_362 14 := hl_870.kd hm_809 hk_810
      have hn_1678 : Ln S_869 q_362 16 := hl_870.ln hm_809 hn_811
      have hm_1679 : q_436 ∈ hL S_869 := hl_870.mem hm_813
      have hk_1680 : Kd S_869 q_436 1 := hl_870.kd hm_813 hk_814
      have hm_1681 : q_5 ∈ hL S_869 := hl_870.mem hm_815
      have hk_1682 : Kd S_869 q_5 14 := hl_870.kd hm_815 hk_816
      have hn_1683 : Ln S_869 q_5 20000 := hl_870.ln hm_815 hn_817
      have hm_1684 : q_514 ∈ hL S_869 := hl_870.mem hm_819
      have hk_1685 : Kd S_869 q_514 1 := hl_870.kd hm_819 hk_820
      have hm_1686 : q_596 ∈ hL S_869 := hl_870.mem hm_821
      have hk_1687 : Kd S_869 q_596 18 := hl_870.kd hm_821 hk_822
      have hn_1688 : Ln S_869 q_596 3 := hl_870.ln hm_821 hn_823
      have hm_1689 : q_68 ∈ hL S_869 := hl_870.mem hm_825
      have hk_1690 : Kd S_869 q_68 8 := hl_870.kd hm_825 hk_826
      have hm_1691 : q_682 ∈ hL S_869 := hl_870.mem hm_827
      have hk_1692 : Kd S_869 q_682 19 := hl_870.kd hm_827 hk_828
      have hn_1693 : Ln S_869 q_682 4 := hl_870.ln hm_827 hn_829
      have hm_1694 : q_73 ∈ hL S_869 := hl_870.mem hm_831
      have hk_1695 : Kd S_869 q_73 14 := hl_870.kd hm_831 hk_832
      have hn_1696 : Ln S_869 q_73 16 := hl_870.ln hm_831 hn_833
      have hm_1697 : q_772 ∈ hL S_869 := hl_870.mem hm_835
      have hk_1698 : Kd S_869 q_772 14 := hl_870.kd hm_835 hk_836
      have hn_1699 : Ln S_869 q_772 12 := hl_870.ln hm_835 hn_837
      have hv_1700 : hI S_869 1000 q_163 = 1 := hl_870.fi hm_786 (fun h9 => h9) hv_839
      have hv_1701 : hI S_869 1001 q_163 = 1 := hl_870.fi hm_786 (fun h9 => h9) hv_840
      have hv_1702 : hI S_869 2 q_1 = 0 := hl_870.fi hm_780 (fun h9 => h9) hv_841
      have hv_1703 : hI S_869 206 q_26 = 0 := hl_870.fi hm_797 (fun h9 => h9) hv_842
      have hv_1704 : hI S_869 209 q_26 = 0 := hl_870.fi hm_797 (fun h9 => h9) hv_843
      have hv_1705 : hI S_869 3 q_1 = 0 := hl_870.fi hm_780 (fun h9 => h9) hv_844
      have hv_1706 : hI S_869 4 q_1 = 0 := hl_870.fi hm_780 (fun h9 => h9) hv_845
      have hv_1707 : hI S_869 5 q_1 = 0 := hl_870.fi hm_780 (fun h9 => h9) hv_846
      have hv_1708 : hR S_869 0 q_1 = (some q_5) := hl_870.fr hm_780 (fun h9 => h9) hv_847
      have hv_1709 : hR S_869 1003 q_163 = (some q_167) := hl_870.fr hm_786 (fun h9 => h9) hv_848
      have hv_1710 : hR S_869 200 q_26 = (some q_31) := hl_870.fr hm_797 (fun h9 => h9) hv_849
      have hv_1711 : hR S_869 800 q_223 = (some q_228) := hl_870.fr hm_791 (fun h9 => h9) hv_850
      have hv_1712 : hR S_869 800 q_31 = (some q_32) := hl_870.fr hm_803 (fun h9 => h9) hv_851
      have hv_1713 : hR S_869 800 q_68 = (some q_73) := hl_870.fr hm_825 (fun h9 => h9) hv_852
      have hv_1714 : hR S_869 900 h = (some s0) := hl_870.fr hm_778 (fun h9 => h9) hv_853
      have hv_1715 : hR S_869 901 h = (some q_1) := hl_870.fr hm_778 (fun h9 => h9) hv_854
      have hv_1716 : hR S_869 902 h = (some q_26) := hl_870.fr hm_778 (fun h9 => h9) hv_855
      have hv_1717 : hR S_869 903 h = (some q_68) := hl_870.fr hm_778 (fun h9 => h9) hv_856
      have hv_1718 : hR S_869 904 h = (some q_115) := hl_870.fr hm_778 (fun h9 => h9) hv_857
      have hv_1719 : hR S_869 905 h = (some q_163) := hl_870.fr hm_778 (fun h9 => h9) hv_858
      have hv_1720 : hR S_869 906 h = (some q_223) := hl_870.fr hm_778 (fun h9 => h9) hv_859
      have hv_1721 : hR S_869 907 h = (some q_292) := hl_870.fr hm_778 (fun h9 => h9) hv_860
      have hv_1722 : hR S_869 908 h = (some q_362) := hl_870.fr hm_778 (fun h9 => h9) hv_861
      have hv_1723 : hR S_869 909 h = (some q_436) := hl_870.fr hm_778 (fun h9 => h9) hv_862
      have hv_1724 : hR S_869 910 h = (some q_514) := hl_870.fr hm_778 (fun h9 => h9) hv_863
      have hv_1725 : hR S_869 911 h = (some q_596) := hl_870.fr hm_778 (fun h9 => h9) hv_864
      have hv_1726 : hR S_869 912 h = (some q_682) := hl_870.fr hm_778 (fun h9 => h9) hv_865
      have hv_1727 : hR S_869 917 h = (some q_772) := hl_870.fr hm_778 (fun h9 => h9) hv_866
      have hf_1728 : Fm (fun _ _ => False) (fun f9 b9 => b9 = h) (fun _ => False) S S_869 := hf_867.then hl_870 (fun a9 ha9 => ⟨(fun f9 h9 => h9.elim), (fun f9 h9 => h9.elim), (fun h9 => (fun h8 => absurd (h8 ▸ ha9) hz_118) h9)⟩)
      refine j_iload_n C dX9_init_138 rfl 0 rfl ?_
      refine j_aload_n C dX9_init_139 rfl 1 rfl ?_
      refine j_getr (f := 904) (v := q_115) C flX9_34 dX9_init_140 hm_1649 hk_1650 (by decide) rfl hv_1718 ?_
      refine j_alen (v := 16) C dX9_init_143 hm_1653 hk_1654 (by decide) (by decide) (len_of (n := 16) hn_1655 (by decide)) ?_
      refine j_ic_ge (tgt := 166) C dX9_init_144 (by decide) (fun c_144 => absurd c_144 (nI_ge (b := 16) (by omega) (by omega))) (fun c_144 => ?_)
      refine j_aload_n C dX9_init_147 rfl 1 rfl ?_
      refine j_getr (f := 904) (v := q_115) C flX9_34 dX9_init_148 hm_1649 hk_1650 (by decide) rfl hv_1718 ?_
      refine j_iload_n C dX9_init_151 rfl 0 rfl ?_
      show J _ _ _ _ _ 152 _
      refine j_new (N := 4) C (ci := 10) rfl rfl klX9_32 knX10 kiX10 (M.cells (by omega)) (M.slots (by omega)) dX9_init_152 (fun q_1729 hq_1730 => ?_)
      have hz_1731 : q_1729 ∉ hL S := fun h9 => hq_1730 (hf_1728.mem h9)
      have hz_1732 : q_1729 ∉ hL S_775 := fun h9 => hq_1730 (hl_870.mem h9)
      refine j_dup C dX9_init_155 rfl ?_
      have hf_1733 : Fm (fun _ _ => False) (fun f9 b9 => b9 = h) (fun _ => False) S (nO S_869 q_1729 10) := (hf_1728.nO _ hq_1730)
      have hf_1734 : Fm (fun _ _ => False) (fun _ _ => False) (fun b9 => b9 = q_115) S_775 (nO S_869 q_1729 10) := (hl_870.nO _ hq_1730)
      refine j_callI C [] [.ref q_1729, .int (nI i1), .ref q_115] mlX9_38 mcX10_init (c_X10_init (nO S_869 q_1729 10) q_1729 mem_new (kd_nO' (k := 10))) (M.rm (by decide) (by decide) (by omega) (by omega)) rfl rfl (Nat.le_of_ble_eq_true rfl) dX9_init_156 (fun r_1743 S_1744 hp_1745 => ?_)
      obtain ⟨rfl, hf_1746, e_1736, e_1737, q_1735, e_1738, e_1739, e_1740, e_1741, e_1742⟩ := hp_1745
      refine J.eq (st' := [.ref q_1729, .int (nI i1), .ref q_115]) rfl rfl rfl ?_
      have hz_1747 : ∀ j, aI S_1744 q_228 j = 0 := fun j9 => (hf_1746.ai (mem_old hm_1663) (fun h9 => h9) j9).trans (hz_1640 j9)
      have hz_1748 : ∀ j, aI S_1744 q_292 j = 0 := fun j9 => (hf_1746.ai (mem_old hm_1668) (fun h9 => h9) j9).trans (hz_1641 j9)
      have hz_1749 : ∀ j, aI S_1744 q_32 j = 0 := fun j9 => (hf_1746.ai (mem_old hm_1673) (fun h9 => h9) j9).trans (hz_1642 j9)
      have hz_1750 : ∀ j, aI S_1744 q_362 j = 0 := fun j9 => (hf_1746.ai (mem_old hm_1676) (fun h9 => h9) j9).trans (hz_1643 j9)
      have hz_1751 : ∀ j, aI S_1744 q_5 j = 0 := fun j9 => (hf_1746.ai (mem_old hm_1681) (fun h9 => h9) j9).trans (hz_1644 j9)
      have hz_1752 : ∀ j, aI S_1744 q_596 j = 0 := fun j9 => (hf_1746.ai (mem_old hm_1686) (fun h9 => h9) j9).trans (hz_1645 j9)
      have hz_1753 : ∀ j, aI S_1744 q_682 j = 0 := fun j9 => (hf_1746.ai (mem_old hm_1691) (fun h9 => h9) j9).trans (hz_1646 j9)
      have hz_1754 : ∀ j, aI S_1744 q_73 j = 0 := fun j9 => (hf_1746.ai (mem_old hm_1694) (fun h9 => h9) j9).trans (hz_1647 j9)
      have hz_1755 : ∀ j, aI S_1744 q_772 j = 0 := fun j9 => (hf_1746.ai (mem_old hm_1697) (fun h9 => h9) j9).trans (hz_1648 j9)
      have hm_1756 : h ∈ hL S_1744 := hf_1746.mem (mem_old hm_1649)
      have hk_1757 : Kd S_1744 h 9 := hf_1746.kd (mem_old hm_1649) (kd_nO (k := 10) hq_1730 hm_1649 hk_1650)
      have hm_1758 : q_1 ∈ hL S_1744 := hf_1746.mem (mem_old hm_1651)
      have hk_1759 : Kd S_1744 q_1 0 := hf_1746.kd (mem_old hm_1651) (kd_nO (k := 10) hq_1730 hm_1651 hk_1652)
      have hm_1760 : q_115 ∈ hL S_1744 := hf_1746.mem (mem_old hm_1653)
      have hk_1761 : Kd S_1744 q_115 20 := hf_1746.kd (mem_old hm_1653) (kd_nO (k := 10) hq_1730 hm_1653 hk_1654)
      have hn_1762 : Ln S_1744 q_115 16 := hf_1746.ln (mem_old hm_1653) hn_1655
      have hm_1763 : q_163 ∈ hL S_1744 := hf_1746.mem (mem_old hm_1656)
      have hk_1764 : Kd S_1744 q_163 10 := hf_1746.kd (mem_old hm_1656) (kd_nO (k := 10) hq_1730 hm_1656 hk_1657)
      have hm_1765 : q_167 ∈ hL S_1744 := hf_1746.mem (mem_old hm_1658)
      have hk_1766 : Kd S_1744 q_167 15 := hf_1746.kd (mem_old hm_1658) (kd_nO (k := 10) hq_1730 hm_1658 hk_1659)
      have hn_1767 : Ln S_1744 q_167 16 := hf_1746.ln (mem_old hm_1658) hn_1660
      have hm_1768 : q_1729 ∈ hL S_1744 := hf_1746.mem mem_new
      have hk_1769 : Kd S_1744 q_1729 10 := hf_1746.kd mem_new (kd_nO' (k := 10))
      have hm_1770 : q_223 ∈ hL S_1744 := hf_1746.mem (mem_old hm_1661)
      have hk_1771 : Kd S_1744 q_223 8 := hf_1746.kd (mem_old hm_1661) (kd_nO (k := 10) hq_1730 hm_1661 hk_1662)
      have hm_1772 : q_228 ∈ hL S_1744 := hf_1746.mem (mem_old hm_1663)
      have hk_1773 : Kd S_1744 q_228 14 := hf_1746.kd (mem_old hm_1663) (kd_nO (k := 10) hq_1730 hm_1663 hk_1664)
      have hn_1774 : Ln S_1744 q_228 16 := hf_1746.ln (mem_old hm_1663) hn_1665
      have hm_1775 : q_26 ∈ hL S_1744 := hf_1746.mem (mem_old hm_1666)
      have hk_1776 : Kd S_1744 q_26 2 := hf_1746.kd (mem_old hm_1666) (kd_nO (k := 10) hq_1730 hm_1666 hk_1667)
      have hm_1777 : q_292 ∈ hL S_1744 := hf_1746.mem (mem_old hm_1668)
      have hk_1778 : Kd S_1744 q_292 13 := hf_1746.kd (mem_old hm_1668) (kd_nO (k := 10) hq_1730 hm_1668 hk_1669)
      have hn_1779 : Ln S_1744 q_292 24000 := hf_1746.ln (mem_old hm_1668) hn_1670
      have hm_1780 : q_31 ∈ hL S_1744 := hf_1746.mem (mem_old hm_1671)
      have hk_1781 : Kd S_1744 q_31 8 := hf_1746.kd (mem_old hm_1671) (kd_nO (k := 10) hq_1730 hm_1671 hk_1672)
      have hm_1782 : q_32 ∈ hL S_1744 := hf_1746.mem (mem_old hm_1673)
      have hk_1783 : Kd S_1744 q_32 14 := hf_1746.kd (mem_old hm_1673) (kd_nO (k := 10) hq_1730 hm_1673 hk_1674)
      have hn_1784 : Ln S_1744 q_32 16 := hf_1746.ln (mem_old hm_1673) hn_1675
      have hm_1785 : q_362 ∈ hL S_1744 := hf_1746.mem (mem_old hm_1676)
      have hk_1786 : Kd S_1744 q_362 14 := hf_1746.kd (mem_old hm_1676) (kd_nO (k := 10) hq_1730 hm_1676 hk_1677)
      have hn_1787 : Ln S_1744 q_362 16 := hf_1746.ln (mem_old hm_1676) hn_1678
      have hm_1788 : q_436 ∈ hL S_1744 := hf_1746.mem (mem_old hm_1679)
      have hk_1789 : Kd S_1744 q_436 1 := hf_1746.kd (mem_old hm_1679) (kd_nO (k := 10) hq_1730 hm_1679 hk_1680)
      have hm_1790 : q_5 ∈ hL S_1744 := hf_1746.mem (mem_old hm_1681)
      have hk_1791 : Kd S_1744 q_5 14 := hf_1746.kd (mem_old hm_1681) (kd_nO (k := 10) hq_1730 hm_1681 hk_1682)
      have hn_1792 : Ln S_1744 q_5 20000 := hf_1746.ln (mem_old hm_1681) hn_1683
      have hm_1793 : q_514 ∈ hL S_1744 := hf_1746.mem (mem_old hm_1684)
      have hk_1794 : Kd S_1744 q_514 1 := hf_1746.kd (mem_old hm_1684) (kd_nO (k := 10) hq_1730 hm_1684 hk_1685)
      have hm_1795 : q_596 ∈ hL S_1744 := hf_1746.mem (mem_old hm_1686)
      have hk_1796 : Kd S_1744 q_596 18 := hf_1746.kd (mem_old hm_1686) (kd_nO (k := 10) hq_1730 hm_1686 hk_1687)
      have hn_1797 : Ln S_1744 q_596 3 := hf_1746.ln (mem_old hm_1686) hn_1688
      have hm_1798 : q_68 ∈ hL S_1744 := hf_1746.mem (mem_old hm_1689)
      have hk_1799 : Kd S_1744 q_68 8 := hf_1746.kd (mem_old hm_1689) (kd_nO (k := 10) hq_1730 hm_1689 hk_1690)
      have hm_1800 : q_682 ∈ hL S_1744 := hf_1746.mem (mem_old hm_1691)
      have hk_1801 : Kd S_1744 q_682 19 := hf_1746.kd (mem_old hm_1691) (kd_nO (k := 10) hq_1730 hm_1691 hk_1692)
      have hn_1802 : Ln S_1744 q_682 4 := hf_1746.ln (mem_old hm_1691) hn_1693
      have hm_1803 : q_73 ∈ hL S_1744 := hf_1746.mem (mem_old hm_1694)
      have hk_1804 : Kd S_1744 q_73 14 := hf_1746.kd (mem_old hm_1694) (kd_nO (k := 10) hq_1730 hm_1694 hk_1695)
      have hn_1805 : Ln S_1744 q_73 16 := hf_1746.ln (mem_old hm_1694) hn_1696
      have hm_1806 : q_772 ∈ hL S_1744 := hf_1746.mem (mem_old hm_1697)
      have hk_1807 : Kd S_1744 q_772 14 := hf_1746.kd (mem_old hm_1697) (kd_nO (k := 10) hq_1730 hm_1697 hk_1698)
      have hn_1808 : Ln S_1744 q_772 12 := hf_1746.ln (mem_old hm_1697) hn_1699
      have hv_1809 : hI S_1744 1000 q_163 = 1 := hf_1746.fi (mem_old hm_1656) (fun h9 => h9.elim (fun q9 => (ne_of_nin hq_1730 hm_1656) q9.2) (fun q9 => absurd q9.1 (by decide))) (rd_nOI (k := 10) hq_1730 hm_1656 hv_1700)
      have hv_1810 : hI S_1744 1001 q_163 = 1 := hf_1746.fi (mem_old hm_1656) (fun h9 => h9.elim (fun q9 => absurd q9.1 (by decide)) (fun q9 => (ne_of_nin hq_1730 hm_1656) q9.2)) (rd_nOI (k := 10) hq_1730 hm_1656 hv_1701)
      have hv_1811 : hI S_1744 2 q_1 = 0 := hf_1746.fi (mem_old hm_1651) (fun h9 => h9.elim (fun q9 => absurd q9.1 (by decide)) (fun q9 => absurd q9.1 (by decide))) (rd_nOI (k := 10) hq_1730 hm_1651 hv_1702)
      have hv_1812 : hI S_1744 206 q_26 = 0 := hf_1746.fi (mem_old hm_1666) (fun h9 => h9.elim (fun q9 => absurd q9.1 (by decide)) (fun q9 => absurd q9.1 (by decide))) (rd_nOI (k := 10) hq_1730 hm_1666 hv_1703)
      have hv_1813 : hI S_1744 209 q_26 = 0 := hf_1746.fi (mem_old hm_1666) (fun h9 => h9.elim (fun q9 => absurd q9.1 (by decide)) (fun q9 => absurd q9.1 (by decide))) (rd_nOI (k := 10) hq_1730 hm_1666 hv_1704)
      have hv_1814 : hI S_1744 3 q_1 = 0 := hf_1746.fi (mem_old hm_1651) (fun h9 => h9.elim (fun q9 => absurd q9.1 (by decide)) (fun q9 => absurd q9.1 (by decide))) (rd_nOI (k := 10) hq_1730 hm_1651 hv_1705)
      have hv_1815 : hI S_1744 4 q_1 = 0 := hf_1746.fi (mem_old hm_1651) (fun h9 => h9.elim (fun q9 => absurd q9.1 (by decide)) (fun q9 => absurd q9.1 (by decide))) (rd_nOI (k := 10) hq_1730 hm_1651 hv_1706)
      have hv_1816 : hI S_1744 5 q_1 = 0 := hf_1746.fi (mem_old hm_1651) (fun h9 => h9.elim (fun q9 => absurd q9.1 (by decide)) (fun q9 => absurd q9.1 (by decide))) (rd_nOI (k := 10) hq_1730 hm_1651 hv_1707)
      have hv_1817 : hR S_1744 0 q_1 = (some q_5) := hf_1746.fr (mem_old hm_1651) (fun q9 => (fun e9 => absurd (((kd_nO (k := 10) hq_1730 hm_1651 hk_1652)).symm.trans ((congrArg (hK _) e9).trans (kd_nO' (k := 10)))) (by decide)) q9) (rd_nOR (k := 10) hq_1730 hm_1651 hv_1708)
      have hv_1818 : hR S_1744 1003 q_163 = (some q_167) := hf_1746.fr (mem_old hm_1656) (fun q9 => (ne_of_nin hq_1730 hm_1656) q9) (rd_nOR (k := 10) hq_1730 hm_1656 hv_1709)
      have hv_1819 : hR S_1744 200 q_26 = (some q_31) := hf_1746.fr (mem_old hm_1666) (fun q9 => (fun e9 => absurd (((kd_nO (k := 10) hq_1730 hm_1666 hk_1667)).symm.trans ((congrArg (hK _) e9).trans (kd_nO' (k := 10)))) (by decide)) q9) (rd_nOR (k := 10) hq_1730 hm_1666 hv_1710)
      have hv_1820 : hR S_1744 800 q_223 = (some q_228) := hf_1746.fr (mem_old hm_1661) (fun q9 => (fun e9 => absurd (((kd_nO (k := 10) hq_1730 hm_1661 hk_1662)).symm.trans ((congrArg (hK _) e9).trans (kd_nO' (k := 10)))) (by decide)) q9) (rd_nOR (k := 10) hq_1730 hm_1661 hv_1711)
      have hv_1821 : hR S_1744 800 q_31 = (some q_32) := hf_1746.fr (mem_old hm_1671) (fun q9 => (fun e9 => absurd (((kd_nO (k := 10) hq_1730 hm_1671 hk_1672)).symm.trans ((congrArg (hK _) e9).trans (kd_nO' (k := 10)))) (by decide)) q9) (rd_nOR (k := 10) hq_1730 hm_1671 hv_1712)
      have hv_1822 : hR S_1744 800 q_68 = (some q_73) := hf_1746.fr (mem_old hm_1689) (fun q9 => (fun e9 => absurd (((kd_nO (k := 10) hq_1730 hm_1689 hk_1690)).symm.trans ((congrArg (hK _) e9).trans (kd_nO' (k := 10)))) (by decide)) q9) (rd_nOR (k := 10) hq_1730 hm_1689 hv_1713)
      have hv_1823 : hR S_1744 900 h = (some s0) := hf_1746.fr (mem_old hm_1649) (fun q9 => (fun e9 => absurd (((kd_nO (k := 10) hq_1730 hm_1649 hk_1650)).symm.trans ((congrArg (hK _) e9).trans (kd_nO' (k := 10)))) (by decide)) q9) (rd_nOR (k := 10) hq_1730 hm_1649 hv_1714)
      have hv_1824 : hR S_1744 901 h = (some q_1) := hf_1746.fr (mem_old hm_1649) (fun q9 => (fun e9 => absurd (((kd_nO (k := 10) hq_1730 hm_1649 hk_1650)).symm.trans ((congrArg (hK _) e9).trans (kd_nO' (k := 10)))) (by decide)) q9) (rd_nOR (k := 10) hq_1730 hm_1649 hv_1715)
      have hv_1825 : hR S_1744 902 h = (some q_26) := hf_1746.fr (mem_old hm_1649) (fun q9 => (fun e9 => absurd (((kd_nO (k := 10) hq_1730 hm_1649 hk_1650)).symm.trans ((congrArg (hK _) e9).trans (kd_nO' (k := 10)))) (by decide)) q9) (rd_nOR (k := 10) hq_1730 hm_1649 hv_1716)
      have hv_1826 : hR S_1744 903 h = (some q_68) := hf_1746.fr (mem_old hm_1649) (fun q9 => (fun e9 => absurd (((kd_nO (k := 10) hq_1730 hm_1649 hk_1650)).symm.trans ((congrArg (hK _) e9).trans (kd_nO' (k := 10)))) (by decide)) q9) (rd_nOR (k := 10) hq_1730 hm_1649 hv_1717)
      have hv_1827 : hR S_1744 904 h = (some q_115) := hf_1746.fr (mem_old hm_1649) (fun q9 => (fun e9 => absurd (((kd_nO (k := 10) hq_1730 hm_1649 hk_1650)).symm.trans ((congrArg (hK _) e9).trans (kd_nO' (k := 10)))) (by decide)) q9) (rd_nOR (k := 10) hq_1730 hm_1649 hv_1718)
      have hv_1828 : hR S_1744 905 h = (some q_163) := hf_1746.fr (mem_old hm_1649) (fun q9 => (fun e9 => absurd (((kd_nO (k := 10) hq_1730 hm_1649 hk_1650)).symm.trans ((congrArg (hK _) e9).trans (kd_nO' (k := 10)))) (by decide)) q9) (rd_nOR (k := 10) hq_1730 hm_1649 hv_1719)
      have hv_1829 : hR S_1744 906 h = (some q_223) := hf_1746.fr (mem_old hm_1649) (fun q9 => (fun e9 => absurd (((kd_nO (k := 10) hq_1730 hm_1649 hk_1650)).symm.trans ((congrArg (hK _) e9).trans (kd_nO' (k := 10)))) (by decide)) q9) (rd_nOR (k := 10) hq_1730 hm_1649 hv_1720)
      have hv_1830 : hR S_1744 907 h = (some q_292) := hf_1746.fr (mem_old hm_1649) (fun q9 => (fun e9 => absurd (((kd_nO (k := 10) hq_1730 hm_1649 hk_1650)).symm.trans ((congrArg (hK _) e9).trans (kd_nO' (k := 10)))) (by decide)) q9) (rd_nOR (k := 10) hq_1730 hm_1649 hv_1721)
      have hv_1831 : hR S_1744 908 h = (some q_362) := hf_1746.fr (mem_old hm_1649) (fun q9 => (fun e9 => absurd (((kd_nO (k := 10) hq_1730 hm_1649 hk_1650)).symm.trans ((congrArg (hK _) e9).trans (kd_nO' (k := 10)))) (by decide)) q9) (rd_nOR (k := 10) hq_1730 hm_1649 hv_1722)
      have hv_1832 : hR S_1744 909 h = (some q_436) := hf_1746.fr (mem_old hm_1649) (fun q9 => (fun e9 => absurd (((kd_nO (k := 10) hq_1730 hm_1649 hk_1650)).symm.trans ((congrArg (hK _) e9).trans (kd_nO' (k := 10)))) (by decide)) q9) (rd_nOR (k := 10) hq_1730 hm_1649 hv_1723)
      have hv_1833 : hR S_1744 910 h = (some q_514) := hf_1746.fr (mem_old hm_1649) (fun q9 => (fun e9 => absurd (((kd_nO (k := 10) hq_1730 hm_1649 hk_1650)).symm.trans ((congrArg (hK _) e9).trans (kd_nO' (k := 10)))) (by decide)) q9) (rd_nOR (k := 10) hq_1730 hm_1649 hv_1724)
      have hv_1834 : hR S_1744 911 h = (some q_596) := hf_1746.fr (mem_old hm_1649) (fun q9 => (fun e9 => absurd (((kd_nO (k := 10) hq_1730 hm_1649 hk_1650)).symm.trans ((congrArg (hK _) e9).trans (kd_nO' (k := 10)))) (by decide)) q9) (rd_nOR (k := 10) hq_1730 hm_1649 hv_1725)
      have hv_1835 : hR S_1744 912 h = (some q_682) := hf_1746.fr (mem_old hm_1649) (fun q9 => (fun e9 => absurd (((kd_nO (k := 10) hq_1730 hm_1649 hk_1650)).symm.trans ((congrArg (hK _) e9).trans (kd_nO' (k := 10)))) (by decide)) q9) (rd_nOR (k := 10) hq_1730 hm_1649 hv_1726)
      have hv_1836 : hR S_1744 917 h = (some q_772) := hf_1746.fr (mem_old hm_1649) (fun q9 => (fun e9 => absurd (((kd_nO (k := 10) hq_1730 hm_1649 hk_1650)).symm.trans ((congrArg (hK _) e9).trans (kd_nO' (k := 10)))) (by decide)) q9) (rd_nOR (k := 10) hq_1730 hm_1649 hv_1727)
      have hf_1837 : Fm (fun _ _ => False) (fun f9 b9 => b9 = h) (fun _ => False) S S_1744 := hf_1733.then hf_1746 (fun a9 ha9 => ⟨(fun f9 h9 => (fun h9 => h9.elim (fun h8 => absurd (h8.2 ▸ ha9) hz_1731) (fun h8 => absurd (h8.2 ▸ ha9) hz_1731)) h9), (fun f9 h9 => (fun h8 => absurd (h8 ▸ ha9) hz_1731) h9), (fun h9 => h9.elim)⟩)
      have hf_1838 : Fm (fun _ _ => False) (fun _ _ => False) (fun b9 => b9 = q_115) S_775 S_1744 := hf_1734.then hf_1746 (fun a9 ha9 => ⟨(fun f9 h9 => (fun h9 => h9.elim (fun h8 => absurd (h8.2 ▸ ha9) hz_1732) (fun h8 => absurd (h8.2 ▸ ha9) hz_1732)) h9), (fun f9 h9 => (fun h8 => absurd (h8 ▸ ha9) hz_1732) h9), (fun h9 => h9.elim)⟩)
      have hz_1839 : q_1735 ∉ hL S := fun h9 => e_1738 (hf_1733.mem h9)
      have hz_1840 : q_1735 ∉ hL S_775 := fun h9 => e_1738 (hf_1734.mem h9)
      refine j_aast (j := i1) (ci := 10) C 20  (by decide) rfl dX9_init_159 hm_1760 hk_1761 (inr_of (n := 16) hn_1762 (vp_in_nI (by omega) (by omega))) (nI_clamp (by omega)) hm_1768 hk_1769 rfl ?_
      refine j_iinc (q := 0) (v := nI (i1 + 1)) (lv' := [(2, .int (nI (i1 + 1))), (0, .ref h), (1, .ref s0)]) C dX9_init_160 rfl (by rw [show Int32.ofInt 1 = 1 by decide]; exact nI_add i1 1) (by rw [hn9]; decide) rfl ?_
      refine j_goto (tgt := 138) C dX9_init_163 (by decide) ?_
      refine J.sub [0, 1, 2] (lv' := [(2, .int (nI (i1 + 1))), (0, .ref h), (1, .ref s0)]) (by rfl) ?_
      refine J.widen (k' := 0 + 1 + 4 + 1 + 8 + 1 + 1 + 1 + 1 + 1 + 1 + 1 + 1 + 1 + 1 + 8 + 1 + 8 + 1 + 1 + 1 + 2 * (i1 + 1)) (n' := 0 + 15 + 20045 + 10 + 23174 + 1 + 16 + 16 + 4 + 16 + 1 + 16 + 24000 + 16 + 21 + 117 + 21 + 117 + 3 + 4 + 12 + 20 * (i1 + 1)) (by omega) (by omega) ?_
      exact ih_871 (i1 + 1) _ (by omega) (hf_1838.tR _ _ (fun _ => rfl)) 
  refine J.sub [0, 1, 2] (lv' := [(2, .int (nI 0)), (0, .ref h), (1, .ref s0)]) (by rw [nI_0]; rfl) ?_
  refine J.widen (k' := 0 + 1 + 4 + 1 + 8 + 1 + 1 + 1 + 1 + 1 + 1 + 1 + 1 + 1 + 1 + 8 + 1 + 8 + 1 + 1 + 1 + 2 * 0) (n' := 0 + 15 + 20045 + 10 + 23174 + 1 + 16 + 16 + 4 + 16 + 1 + 16 + 24000 + 16 + 21 + 117 + 21 + 117 + 3 + 4 + 12 + 20 * 0) (by omega) (by omega) ?_
  exact loop_872 16 0 _ (by omega) Fm.refl 
end
section
theorem dX11_init_0 : decode cX11_init 0 = .ok (.aload_n 0, 1) := by decide +kernel
theorem dX11_init_1 : decode cX11_init 1 = .ok (.invokespecial 1, 3) := by decide +kernel
theorem dX11_init_4 : decode cX11_init 4 = .ok (.aload_n 0, 1) := by decide +kernel
theorem dX11_init_5 : decode cX11_init 5 = .ok (.sipush 8000, 3) := by decide +kernel
theorem dX11_init_8 : decode cX11_init 8 = .ok (.newarray .byte, 2) := by decide +kernel
theorem dX11_init_10 : decode cX11_init 10 = .ok (.putfield 9, 3) := by decide +kernel
theorem dX11_init_13 : decode cX11_init 13 = .ok (.aload_n 0, 1) := by decide +kernel
theorem dX11_init_14 : decode cX11_init 14 = .ok (.sipush 12000, 3) := by decide +kernel
theorem dX11_init_17 : decode cX11_init 17 = .ok (.newarray .byte, 2) := by decide +kernel
theorem dX11_init_19 : decode cX11_init 19 = .ok (.putfield 13, 3) := by decide +kernel
theorem dX11_init_22 : decode cX11_init 22 = .ok (.aload_n 0, 1) := by decide +kernel
theorem dX11_init_23 : decode cX11_init 23 = .ok (.bipush 6, 2) := by decide +kernel
theorem dX11_init_25 : decode cX11_init 25 = .ok (.newarray .int, 2) := by decide +kernel
theorem dX11_init_27 : decode cX11_init 27 = .ok (.putfield 16, 3) := by decide +kernel
theorem dX11_init_30 : decode cX11_init 30 = .ok (.aload_n 0, 1) := by decide +kernel
theorem dX11_init_31 : decode cX11_init 31 = .ok (.bipush 7, 2) := by decide +kernel
theorem dX11_init_33 : decode cX11_init 33 = .ok (.newarray .int, 2) := by decide +kernel
theorem dX11_init_35 : decode cX11_init 35 = .ok (.putfield 20, 3) := by decide +kernel
theorem dX11_init_38 : decode cX11_init 38 = .ok (.aload_n 0, 1) := by decide +kernel
theorem dX11_init_39 : decode cX11_init 39 = .ok (.iconst (-1), 1) := by decide +kernel
theorem dX11_init_40 : decode cX11_init 40 = .ok (.putfield 23, 3) := by decide +kernel
theorem dX11_init_43 : decode cX11_init 43 = .ok (.aload_n 0, 1) := by decide +kernel
theorem dX11_init_44 : decode cX11_init 44 = .ok (.iconst (-1), 1) := by decide +kernel
theorem dX11_init_45 : decode cX11_init 45 = .ok (.putfield 27, 3) := by decide +kernel
theorem dX11_init_48 : decode cX11_init 48 = .ok (.aload_n 0, 1) := by decide +kernel
theorem dX11_init_49 : decode cX11_init 49 = .ok (.new 30, 3) := by decide +kernel
theorem dX11_init_52 : decode cX11_init 52 = .ok (.dup, 1) := by decide +kernel
theorem dX11_init_53 : decode cX11_init 53 = .ok (.invokespecial 32, 3) := by decide +kernel
theorem dX11_init_56 : decode cX11_init 56 = .ok (.putfield 33, 3) := by decide +kernel
theorem dX11_init_59 : decode cX11_init 59 = .ok (.aload_n 0, 1) := by decide +kernel
theorem dX11_init_60 : decode cX11_init 60 = .ok (.new 37, 3) := by decide +kernel
theorem dX11_init_63 : decode cX11_init 63 = .ok (.dup, 1) := by decide +kernel
theorem dX11_init_64 : decode cX11_init 64 = .ok (.aload_n 0, 1) := by decide +kernel
theorem dX11_init_65 : decode cX11_init 65 = .ok (.getfield 33, 3) := by decide +kernel
theorem dX11_init_68 : decode cX11_init 68 = .ok (.invokespecial 39, 3) := by decide +kernel
theorem dX11_init_71 : decode cX11_init 71 = .ok (.putfield 42, 3) := by decide +kernel
theorem dX11_init_74 : decode cX11_init 74 = .ok (.aload_n 0, 1) := by decide +kernel
theorem dX11_init_75 : decode cX11_init 75 = .ok (.new 46, 3) := by decide +kernel
theorem dX11_init_78 : decode cX11_init 78 = .ok (.dup, 1) := by decide +kernel
theorem dX11_init_79 : decode cX11_init 79 = .ok (.aload_n 0, 1) := by decide +kernel
theorem dX11_init_80 : decode cX11_init 80 = .ok (.getfield 33, 3) := by decide +kernel
theorem dX11_init_83 : decode cX11_init 83 = .ok (.invokespecial 48, 3) := by decide +kernel
theorem dX11_init_86 : decode cX11_init 86 = .ok (.putfield 49, 3) := by decide +kernel
theorem dX11_init_89 : decode cX11_init 89 = .ok (.return_, 1) := by decide +kernel
set_option maxRecDepth 100000 in
set_option maxHeartbeats 4000000 in
theorem c_X11_init (S : Hp) (h : Nat) (hm : h ∈ hL S) (hk : hK S h = 11) : Ct 5 yX11_init cX11_init 1 none 141 384920 [.ref h] S (fun r S' => r = none ∧ Fm (fun f9 b9 => (f9 = 1110 ∧ b9 = h) ∨ (f9 = 1111 ∧ b9 = h)) (fun f9 b9 => b9 = h) (fun _ => False) S S' ∧ hI S' 1110 h = (-1) ∧ hI S' 1111 h = (-1) ∧ ∃ t0 t1 t2 t3 t4 t5 t6 u0 u1 u2 u3 u4 u5 u6 u7 u8 u9 u10 : Nat, t0 ∉ hL S ∧ t0 ∈ hL S' ∧ Kd S' t0 13 ∧ Ln S' t0 8000 ∧ hR S' 1100 h = some t0 ∧ (∀ j, aI S' t0 j = 0) ∧ t1 ∉ hL S ∧ t1 ∈ hL S' ∧ Kd S' t1 13 ∧ Ln S' t1 12000 ∧ hR S' 1102 h = some t1 ∧ (∀ j, aI S' t1 j = 0) ∧ t2 ∉ hL S ∧ t2 ∈ hL S' ∧ Kd S' t2 14 ∧ Ln S' t2 6 ∧ hR S' 1103 h = some t2 ∧ (∀ j, aI S' t2 j = 0) ∧ t3 ∉ hL S ∧ t3 ∈ hL S' ∧ Kd S' t3 14 ∧ Ln S' t3 7 ∧ hR S' 1104 h = some t3 ∧ (∀ j, aI S' t3 j = 0) ∧ t4 ∉ hL S ∧ t4 ∈ hL S' ∧ Kd S' t4 6 ∧ hR S' 1106 h = some t4 ∧ t5 ∉ hL S ∧ t5 ∈ hL S' ∧ Kd S' t5 13 ∧ Ln S' t5 60000 ∧ hR S' 600 t4 = some t5 ∧ (∀ j, aI S' t5 j = 0) ∧ t6 ∉ hL S ∧ t6 ∈ hL S' ∧ Kd S' t6 9 ∧ hR S' 1107 h = some t6 ∧ u0 ∉ hL S ∧ u0 ∈ hL S' ∧ Kd S' u0 0 ∧ hR S' 901 t6 = some u0 ∧ u1 ∉ hL S ∧ u1 ∈ hL S' ∧ Kd S' u1 14 ∧ Ln S' u1 20000 ∧ hR S' 0 u0 = some u1 ∧ (∀ j, aI S' u1 j = 0) ∧ u2 ∉ hL S ∧ u2 ∈ hL S' ∧ Kd S' u2 2 ∧ hR S' 902 t6 = some u2 ∧ u3 ∉ hL S ∧ u3 ∈ hL S' ∧ Kd S' u3 8 ∧ hR S' 200 u2 = some u3 ∧ u4 ∉ hL S ∧ u4 ∈ hL S' ∧ Kd S' u4 14 ∧ Ln S' u4 16 ∧ hR S' 800 u3 = some u4 ∧ (∀ j, aI S' u4 j = 0) ∧ u5 ∉ hL S ∧ u5 ∈ hL S' ∧ Kd S' u5 8 ∧ hR S' 903 t6 = some u5 ∧ u6 ∉ hL S ∧ u6 ∈ hL S' ∧ Kd S' u6 14 ∧ Ln S' u6 16 ∧ hR S' 800 u5 = some u6 ∧ (∀ j, aI S' u6 j = 0) ∧ u7 ∉ hL S ∧ u7 ∈ hL S' ∧ Kd S' u7 8 ∧ hR S' 906 t6 = some u7 ∧ u8 ∉ hL S ∧ u8 ∈ hL S' ∧ Kd S' u8 14 ∧ Ln S' u8 16 ∧ hR S' 800 u7 = some u8 ∧ (∀ j, aI S' u8 j = 0) ∧ u9 ∉ hL S ∧ u9 ∈ hL S' ∧ Kd S' u9 14 ∧ Ln S' u9 16 ∧ hR S' 908 t6 = some u9 ∧ (∀ j, aI S' u9 j = 0) ∧ u10 ∉ hL S ∧ u10 ∈ hL S' ∧ Kd S' u10 14 ∧ Ln S' u10 12 ∧ hR S' 917 t6 = some u10 ∧ (∀ j, aI S' u10 j = 0) ∧ hI S' 601 t4 = 0 ∧ hI S' 602 t4 = 0 ∧ hI S' 603 t4 = 0 ∧ hI S' 916 t6 = 0 ∧ hI S' 918 t6 = 0 ∧ hI S' 3 u0 = 0 ∧ hI S' 206 u2 = 0) := by
  refine ct_of (by decide) (Nat.le_of_ble_eq_true rfl) fun x hn9 C M hm9 => ?_
  have C : CB x RX11 cX11_init := C
  refine J.eq (lv' := [(0, .ref h)]) rfl rfl rfl ?_
  refine j_aload_n C dX11_init_0 rfl 0 rfl ?_
  refine j_objInit C mlX11_1 nst_oi (M.fl (by decide)) dX11_init_1 ?_
  refine j_aload_n C dX11_init_4 rfl 0 rfl ?_
  refine j_sipush (v := 8000) C dX11_init_5 (by decide) ?_
  refine j_newB (N := 8000) C ka_byte (by decide) (by decide) (Nat.le_of_ble_eq_true rfl) (M.cells (by decide)) (M.slots (Nat.le_of_ble_eq_true rfl)) dX11_init_8 (fun q_1 hq_2 => ?_)
  have hz_3 : q_1 ∉ hL S := hq_2
  refine j_putrF (f := 1100) C hm9 flX11_9o (by decide) rfl rfl dX11_init_10 (mem_old hm) (kd_nA (k := 13) (n := 8000) hq_2 hm hk) rfl ?_
  refine j_aload_n C dX11_init_13 rfl 0 rfl ?_
  refine j_sipush (v := 12000) C dX11_init_14 (by decide) ?_
  show J _ _ _ _ _ 17 _
  have hf_6 : Fm (fun f9 b9 => (f9 = 1110 ∧ b9 = h) ∨ (f9 = 1111 ∧ b9 = h)) (fun f9 b9 => b9 = h) (fun _ => False) S (sR (nA S q_1 13 8000) 1100 h (some q_1)) := (((Fm.refl (WI := (fun f9 b9 => (f9 = 1110 ∧ b9 = h) ∨ (f9 = 1111 ∧ b9 = h))) (WR := (fun f9 b9 => b9 = h)) (WA := (fun _ => False))).nA _ _ hq_2).sR _ (fun _ => rfl))
  obtain ⟨S_4, eS_5⟩ : ∃ S9 : Hp, S9 = (sR (nA S q_1 13 8000) 1100 h (some q_1)) := ⟨_, rfl⟩
  refine J.eq (S' := S_4) eS_5.symm rfl rfl ?_
  have hm_7 : h ∈ hL S_4 := by rw [eS_5]; exact (mem_old hm)
  have hk_8 : Kd S_4 h 11 := by rw [eS_5]; exact (kd_nA (k := 13) (n := 8000) hq_2 hm hk)
  have hm_9 : q_1 ∈ hL S_4 := by rw [eS_5]; exact mem_new
  have hk_10 : Kd S_4 q_1 13 := by rw [eS_5]; exact (kd_nA' (k := 13) (n := 8000))
  have hn_11 : Ln S_4 q_1 8000 := by rw [eS_5]; exact (ln_nA' (k := 13))
  have hz_12 : ∀ j, aI S_4 q_1 j = 0 := by rw [eS_5]; exact (fun j9 => rd_nAI' (k := 13) (n := 8000))
  have hv_13 : hR S_4 1100 h = (some q_1) := by rw [eS_5]; exact (rd_sR (S := (nA S q_1 13 8000)) (g := 1100) (a := h) (v := (some q_1)))
  have hf_14 : Fm (fun f9 b9 => (f9 = 1110 ∧ b9 = h) ∨ (f9 = 1111 ∧ b9 = h)) (fun f9 b9 => b9 = h) (fun _ => False) S S_4 := by rw [eS_5]; exact hf_6
  refine j_newB (N := 12000) C ka_byte (by decide) (by decide) (Nat.le_of_ble_eq_true rfl) (M.cells (by decide)) (M.slots (Nat.le_of_ble_eq_true rfl)) dX11_init_17 (fun q_15 hq_16 => ?_)
  have hz_17 : q_15 ∉ hL S := fun h9 => hq_16 (hf_14.mem h9)
  refine j_putrF (f := 1102) C hm9 flX11_13o (by decide) rfl rfl dX11_init_19 (mem_old hm_7) (kd_nA (k := 13) (n := 12000) hq_16 hm_7 hk_8) rfl ?_
  refine j_aload_n C dX11_init_22 rfl 0 rfl ?_
  refine j_bipush (v := 6) C dX11_init_23 (by decide) ?_
  have hf_20 : Fm (fun f9 b9 => (f9 = 1110 ∧ b9 = h) ∨ (f9 = 1111 ∧ b9 = h)) (fun f9 b9 => b9 = h) (fun _ => False) S (sR (nA S_4 q_15 13 12000) 1102 h (some q_15)) := ((hf_14.nA _ _ hq_16).sR _ (fun _ => rfl))
  obtain ⟨S_18, eS_19⟩ : ∃ S9 : Hp, S9 = (sR (nA S_4 q_15 13 12000) 1102 h (some q_15)) := ⟨_, rfl⟩
  refine J.eq (S' := S_18) eS_19.symm rfl rfl ?_
  have hm_21 : h ∈ hL S_18 := by rw [eS_19]; exact (mem_old hm_7)
  have hk_22 : Kd S_18 h 11 := by rw [eS_19]; exact (kd_nA (k := 13) (n := 12000) hq_16 hm_7 hk_8)
  have hm_23 : q_1 ∈ hL S_18 := by rw [eS_19]; exact (mem_old hm_9)
  have hk_24 : Kd S_18 q_1 13 := by rw [eS_19]; exact (kd_nA (k := 13) (n := 12000) hq_16 hm_9 hk_10)
  have hn_25 : Ln S_18 q_1 8000 := by rw [eS_19]; exact (ln_nA (k := 13) hq_16 hm_9 hn_11)
  have hz_26 : ∀ j, aI S_18 q_1 j = 0 := by rw [eS_19]; exact (fun j9 => rd_nAI (k := 13) (n := 12000) hq_16 hm_9 (hz_12 j9))
  have hm_27 : q_15 ∈ hL S_18 := by rw [eS_19]; exact mem_new
  have hk_28 : Kd S_18 q_15 13 := by rw [eS_19]; exact (kd_nA' (k := 13) (n := 12000))
  have hn_29 : Ln S_18 q_15 12000 := by rw [eS_19]; exact (ln_nA' (k := 13))
  have hz_30 : ∀ j, aI S_18 q_15 j = 0 := by rw [eS_19]; exact (fun j9 => rd_nAI' (k := 13) (n := 12000))
  have hv_31 : hR S_18 1100 h = (some q_1) := by rw [eS_19]; exact (rd_sRf (S := (nA S_4 q_15 13 12000)) (g := 1102) (a := h) (v := (some q_15)) (by decide) hv_13)
  have hv_32 : hR S_18 1102 h = (some q_15) := by rw [eS_19]; exact (rd_sR (S := (nA S_4 q_15 13 12000)) (g := 1102) (a := h) (v := (some q_15)))
  have hf_33 : Fm (fun f9 b9 => (f9 = 1110 ∧ b9 = h) ∨ (f9 = 1111 ∧ b9 = h)) (fun f9 b9 => b9 = h) (fun _ => False) S S_18 := by rw [eS_19]; exact hf_20
  refine j_newI (N := 6) C ka_int (by decide) (by decide) (Nat.le_of_ble_eq_true rfl) (M.cells (by decide)) (M.slots (Nat.le_of_ble_eq_true rfl)) dX11_init_25 (fun q_34 hq_35 => ?_)
  have hz_36 : q_34 ∉ hL S := fun h9 => hq_35 (hf_33.mem h9)
  refine j_putrF (f := 1103) C hm9 flX11_16o (by decide) rfl rfl dX11_init_27 (mem_old hm_21) (kd_nA (k := 14) (n := 6) hq_35 hm_21 hk_22) rfl ?_
  refine j_aload_n C dX11_init_30 rfl 0 rfl ?_
  refine j_bipush (v := 7) C dX11_init_31 (by decide) ?_
  show J _ _ _ _ _ 33 _
  have hf_39 : Fm (fun f9 b9 => (f9 = 1110 ∧ b9 = h) ∨ (f9 = 1111 ∧ b9 = h)) (fun f9 b9 => b9 = h) (fun _ => False) S (sR (nA S_18 q_34 14 6) 1103 h (some q_34)) := ((hf_33.nA _ _ hq_35).sR _ (fun _ => rfl))
  obtain ⟨S_37, eS_38⟩ : ∃ S9 : Hp, S9 = (sR (nA S_18 q_34 14 6) 1103 h (some q_34)) := ⟨_, rfl⟩
  refine J.eq (S' := S_37) eS_38.symm rfl rfl ?_
  have hm_40 : h ∈ hL S_37 := by rw [eS_38]; exact (mem_old hm_21)
  have hk_41 : Kd S_37 h 11 := by rw [eS_38]; exact (kd_nA (k := 14) (n := 6) hq_35 hm_21 hk_22)
  have hm_42 : q_1 ∈ hL S_37 := by rw [eS_38]; exact (mem_old hm_23)
  have hk_43 : Kd S_37 q_1 13 := by rw [eS_38]; exact (kd_nA (k := 14) (n := 6) hq_35 hm_23 hk_24)
  have hn_44 : Ln S_37 q_1 8000 := by rw [eS_38]; exact (ln_nA (k := 14) hq_35 hm_23 hn_25)
  have hz_45 : ∀ j, aI S_37 q_1 j = 0 := by rw [eS_38]; exact (fun j9 => rd_nAI (k := 14) (n := 6) hq_35 hm_23 (hz_26 j9))
  have hm_46 : q_15 ∈ hL S_37 := by rw [eS_38]; exact (mem_old hm_27)
  have hk_47 : Kd S_37 q_15 13 := by rw [eS_38]; exact (kd_nA (k := 14) (n := 6) hq_35 hm_27 hk_28)
  have hn_48 : Ln S_37 q_15 12000 := by rw [eS_38]; exact (ln_nA (k := 14) hq_35 hm_27 hn_29)
  have hz_49 : ∀ j, aI S_37 q_15 j = 0 := by rw [eS_38]; exact (fun j9 => rd_nAI (k := 14) (n := 6) hq_35 hm_27 (hz_30 j9))
  have hm_50 : q_34 ∈ hL S_37 := by rw [eS_38]; exact mem_new
  have hk_51 : Kd S_37 q_34 14 := by rw [eS_38]; exact (kd_nA' (k := 14) (n := 6))
  have hn_52 : Ln S_37 q_34 6 := by rw [eS_38]; exact (ln_nA' (k := 14))
  have hz_53 : ∀ j, aI S_37 q_34 j = 0 := by rw [eS_38]; exact (fun j9 => rd_nAI' (k := 14) (n := 6))
  have hv_54 : hR S_37 1100 h = (some q_1) := by rw [eS_38]; exact (rd_sRf (S := (nA S_18 q_34 14 6)) (g := 1103) (a := h) (v := (some q_34)) (by decide) hv_31)
  have hv_55 : hR S_37 1102 h = (some q_15) := by rw [eS_38]; exact (rd_sRf (S := (nA S_18 q_34 14 6)) (g := 1103) (a := h) (v := (some q_34)) (by decide) hv_32)
  have hv_56 : hR S_37 1103 h = (some q_34) := by rw [eS_38]; exact (rd_sR (S := (nA S_18 q_34 14 6)) (g := 1103) (a := h) (v := (some q_34)))
  have hf_57 : Fm (fun f9 b9 => (f9 = 1110 ∧ b9 = h) ∨ (f9 = 1111 ∧ b9 = h)) (fun f9 b9 => b9 = h) (fun _ => False) S S_37 := by rw [eS_38]; exact hf_39
  refine j_newI (N := 7) C ka_int (by decide) (by decide) (Nat.le_of_ble_eq_true rfl) (M.cells (by decide)) (M.slots (Nat.le_of_ble_eq_true rfl)) dX11_init_33 (fun q_58 hq_59 => ?_)
  have hz_60 : q_58 ∉ hL S := fun h9 => hq_59 (hf_57.mem h9)
  refine j_putrF (f := 1104) C hm9 flX11_20o (by decide) rfl rfl dX11_init_35 (mem_old hm_40) (kd_nA (k := 14) (n := 7) hq_59 hm_40 hk_41) rfl ?_
  refine j_aload_n C dX11_init_38 rfl 0 rfl ?_
  refine j_iconst (v := (-1)) C dX11_init_39 (by decide) ?_
  refine j_puti (f := 1110) C flX11_23 (by decide) rfl rfl dX11_init_40 (mem_old hm_40) (kd_nA (k := 14) (n := 7) hq_59 hm_40 hk_41) rfl ?_
  refine j_aload_n C dX11_init_43 rfl 0 rfl ?_
  refine j_iconst (v := (-1)) C dX11_init_44 (by decide) ?_
  refine j_puti (f := 1111) C flX11_27 (by decide) rfl rfl dX11_init_45 (mem_old hm_40) (kd_nA (k := 14) (n := 7) hq_59 hm_40 hk_41) rfl ?_
  show J _ _ _ _ _ 48 _
  refine j_aload_n C dX11_init_48 rfl 0 rfl ?_
  have hf_63 : Fm (fun f9 b9 => (f9 = 1110 ∧ b9 = h) ∨ (f9 = 1111 ∧ b9 = h)) (fun f9 b9 => b9 = h) (fun _ => False) S (sI (sI (sR (nA S_37 q_58 14 7) 1104 h (some q_58)) 1110 h (-1)) 1111 h (-1)) := ((((hf_57.nA _ _ hq_59).sR _ (fun _ => rfl)).sI _ (fun _ => (Or.inl ⟨rfl, rfl⟩))).sI _ (fun _ => (Or.inr ⟨rfl, rfl⟩)))
  obtain ⟨S_61, eS_62⟩ : ∃ S9 : Hp, S9 = (sI (sI (sR (nA S_37 q_58 14 7) 1104 h (some q_58)) 1110 h (-1)) 1111 h (-1)) := ⟨_, rfl⟩
  refine J.eq (S' := S_61) eS_62.symm rfl rfl ?_
  have hm_64 : h ∈ hL S_61 := by rw [eS_62]; exact (mem_old hm_40)
  have hk_65 : Kd S_61 h 11 := by rw [eS_62]; exact (kd_nA (k := 14) (n := 7) hq_59 hm_40 hk_41)
  have hm_66 : q_1 ∈ hL S_61 := by rw [eS_62]; exact (mem_old hm_42)
  have hk_67 : Kd S_61 q_1 13 := by rw [eS_62]; exact (kd_nA (k := 14) (n := 7) hq_59 hm_42 hk_43)
  have hn_68 : Ln S_61 q_1 8000 := by rw [eS_62]; exact (ln_nA (k := 14) hq_59 hm_42 hn_44)
  have hz_69 : ∀ j, aI S_61 q_1 j = 0 := by rw [eS_62]; exact (fun j9 => rd_nAI (k := 14) (n := 7) hq_59 hm_42 (hz_45 j9))
  have hm_70 : q_15 ∈ hL S_61 := by rw [eS_62]; exact (mem_old hm_46)
  have hk_71 : Kd S_61 q_15 13 := by rw [eS_62]; exact (kd_nA (k := 14) (n := 7) hq_59 hm_46 hk_47)
  have hn_72 : Ln S_61 q_15 12000 := by rw [eS_62]; exact (ln_nA (k := 14) hq_59 hm_46 hn_48)
  have hz_73 : ∀ j, aI S_61 q_15 j = 0 := by rw [eS_62]; exact (fun j9 => rd_nAI (k := 14) (n := 7) hq_59 hm_46 (hz_49 j9))
  have hm_74 : q_34 ∈ hL S_61 := by rw [eS_62]; exact (mem_old hm_50)
  have hk_75 : Kd S_61 q_34 14 := by rw [eS_62]; exact (kd_nA (k := 14) (n := 7) hq_59 hm_50 hk_51)
  have hn_76 : Ln S_61 q_34 6 := by rw [eS_62]; exact (ln_nA (k := 14) hq_59 hm_50 hn_52)
  have hz_77 : ∀ j, aI S_61 q_34 j = 0 := by rw [eS_62]; exact (fun j9 => rd_nAI (k := 14) (n := 7) hq_59 hm_50 (hz_53 j9))
  have hm_78 : q_58 ∈ hL S_61 := by rw [eS_62]; exact mem_new
  have hk_79 : Kd S_61 q_58 14 := by rw [eS_62]; exact (kd_nA' (k := 14) (n := 7))
  have hn_80 : Ln S_61 q_58 7 := by rw [eS_62]; exact (ln_nA' (k := 14))
  have hz_81 : ∀ j, aI S_61 q_58 j = 0 := by rw [eS_62]; exact (fun j9 => rd_nAI' (k := 14) (n := 7))
  have hv_82 : hI S_61 1110 h = (-1) := by rw [eS_62]; exact (rd_sIf (S := (sI (sR (nA S_37 q_58 14 7) 1104 h (some q_58)) 1110 h (-1))) (g := 1111) (a := h) (v := (-1)) (by decide) (rd_sI (S := (sR (nA S_37 q_58 14 7) 1104 h (some q_58))) (g := 1110) (a := h) (v := (-1))))
  have hv_83 : hI S_61 1111 h = (-1) := by rw [eS_62]; exact (rd_sI (S := (sI (sR (nA S_37 q_58 14 7) 1104 h (some q_58)) 1110 h (-1))) (g := 1111) (a := h) (v := (-1)))
  have hv_84 : hR S_61 1100 h = (some q_1) := by rw [eS_62]; exact (rd_sRf (S := (nA S_37 q_58 14 7)) (g := 1104) (a := h) (v := (some q_58)) (by decide) hv_54)
  have hv_85 : hR S_61 1102 h = (some q_15) := by rw [eS_62]; exact (rd_sRf (S := (nA S_37 q_58 14 7)) (g := 1104) (a := h) (v := (some q_58)) (by decide) hv_55)
  have hv_86 : hR S_61 1103 h = (some q_34) := by rw [eS_62]; exact (rd_sRf (S := (nA S_37 q_58 14 7)) (g := 1104) (a := h) (v := (some q_58)) (by decide) hv_56)
  have hv_87 : hR S_61 1104 h = (some q_58) := by rw [eS_62]; exact (rd_sR (S := (nA S_37 q_58 14 7)) (g := 1104) (a := h) (v := (some q_58)))
  have hf_88 : Fm (fun f9 b9 => (f9 = 1110 ∧ b9 = h) ∨ (f9 = 1111 ∧ b9 = h)) (fun f9 b9 => b9 = h) (fun _ => False) S S_61 := by rw [eS_62]; exact hf_63
  refine j_new (N := 10) C (ci := 6) rfl rfl klX11_30 knX6 kiX6 (M.cells (by decide)) (M.slots (by decide)) dX11_init_49 (fun q_89 hq_90 => ?_)
  have hz_91 : q_89 ∉ hL S := fun h9 => hq_90 (hf_88.mem h9)
  refine j_dup C dX11_init_52 rfl ?_
  have hf_92 : Fm (fun f9 b9 => (f9 = 1110 ∧ b9 = h) ∨ (f9 = 1111 ∧ b9 = h)) (fun f9 b9 => b9 = h) (fun _ => False) S (nO S_61 q_89 6) := (hf_88.nO _ hq_90)
  refine j_callI C [] [.ref q_89, .ref h] mlX11_32 mcX6_init (c_X6_init (nO S_61 q_89 6) q_89 mem_new (kd_nO' (k := 6))) (M.rm (by decide) (by decide) (Nat.le_of_ble_eq_true rfl) (Nat.le_of_ble_eq_true rfl)) rfl rfl (Nat.le_of_ble_eq_true rfl) dX11_init_53 (fun r_100 S_101 hp_102 => ?_)
  obtain ⟨rfl, hf_103, q_93, e_94, e_95, e_96, e_97, e_98, e_99⟩ := hp_102
  refine J.eq (st' := [.ref q_89, .ref h]) rfl rfl rfl ?_
  have hz_104 : ∀ j, aI S_101 q_1 j = 0 := fun j9 => (hf_103.ai (mem_old hm_66) (fun h9 => h9) j9).trans (hz_69 j9)
  have hz_105 : ∀ j, aI S_101 q_15 j = 0 := fun j9 => (hf_103.ai (mem_old hm_70) (fun h9 => h9) j9).trans (hz_73 j9)
  have hz_106 : ∀ j, aI S_101 q_34 j = 0 := fun j9 => (hf_103.ai (mem_old hm_74) (fun h9 => h9) j9).trans (hz_77 j9)
  have hz_107 : ∀ j, aI S_101 q_58 j = 0 := fun j9 => (hf_103.ai (mem_old hm_78) (fun h9 => h9) j9).trans (hz_81 j9)
  have hm_108 : h ∈ hL S_101 := hf_103.mem (mem_old hm_64)
  have hk_109 : Kd S_101 h 11 := hf_103.kd (mem_old hm_64) (kd_nO (k := 6) hq_90 hm_64 hk_65)
  have hm_110 : q_1 ∈ hL S_101 := hf_103.mem (mem_old hm_66)
  have hk_111 : Kd S_101 q_1 13 := hf_103.kd (mem_old hm_66) (kd_nO (k := 6) hq_90 hm_66 hk_67)
  have hn_112 : Ln S_101 q_1 8000 := hf_103.ln (mem_old hm_66) hn_68
  have hm_113 : q_15 ∈ hL S_101 := hf_103.mem (mem_old hm_70)
  have hk_114 : Kd S_101 q_15 13 := hf_103.kd (mem_old hm_70) (kd_nO (k := 6) hq_90 hm_70 hk_71)
  have hn_115 : Ln S_101 q_15 12000 := hf_103.ln (mem_old hm_70) hn_72
  have hm_116 : q_34 ∈ hL S_101 := hf_103.mem (mem_old hm_74)
  have hk_117 : Kd S_101 q_34 14 := hf_103.kd (mem_old hm_74) (kd_nO (k := 6) hq_90 hm_74 hk_75)
  have hn_118 : Ln S_101 q_34 6 := hf_103.ln (mem_old hm_74) hn_76
  have hm_119 : q_58 ∈ hL S_101 := hf_103.mem (mem_old hm_78)
  have hk_120 : Kd S_101 q_58 14 := hf_103.kd (mem_old hm_78) (kd_nO (k := 6) hq_90 hm_78 hk_79)
  have hn_121 : Ln S_101 q_58 7 := hf_103.ln (mem_old hm_78) hn_80
  have hm_122 : q_89 ∈ hL S_101 := hf_103.mem mem_new
  have hk_123 : Kd S_101 q_89 6 := hf_103.kd mem_new (kd_nO' (k := 6))
  have hv_124 : hI S_101 1110 h = (-1) := hf_103.fi (mem_old hm_64) (fun h9 => h9) (rd_nOI (k := 6) hq_90 hm_64 hv_82)
  have hv_125 : hI S_101 1111 h = (-1) := hf_103.fi (mem_old hm_64) (fun h9 => h9) (rd_nOI (k := 6) hq_90 hm_64 hv_83)
  have hv_126 : hI S_101 601 q_89 = 0 := hf_103.fi mem_new (fun h9 => h9) (rd_nOI' (k := 6))
  have hv_127 : hI S_101 602 q_89 = 0 := hf_103.fi mem_new (fun h9 => h9) (rd_nOI' (k := 6))
  have hv_128 : hI S_101 603 q_89 = 0 := hf_103.fi mem_new (fun h9 => h9) (rd_nOI' (k := 6))
  have hv_129 : hR S_101 1100 h = (some q_1) := hf_103.fr (mem_old hm_64) (fun q9 => (fun e9 => absurd (((kd_nO (k := 6) hq_90 hm_64 hk_65)).symm.trans ((congrArg (hK _) e9).trans (kd_nO' (k := 6)))) (by decide)) q9) (rd_nOR (k := 6) hq_90 hm_64 hv_84)
  have hv_130 : hR S_101 1102 h = (some q_15) := hf_103.fr (mem_old hm_64) (fun q9 => (fun e9 => absurd (((kd_nO (k := 6) hq_90 hm_64 hk_65)).symm.trans ((congrArg (hK _) e9).trans (kd_nO' (k := 6)))) (by decide)) q9) (rd_nOR (k := 6) hq_90 hm_64 hv_85)
  have hv_131 : hR S_101 1103 h = (some q_34) := hf_103.fr (mem_old hm_64) (fun q9 => (fun e9 => absurd (((kd_nO (k := 6) hq_90 hm_64 hk_65)).symm.trans ((congrArg (hK _) e9).trans (kd_nO' (k := 6)))) (by decide)) q9) (rd_nOR (k := 6) hq_90 hm_64 hv_86)
  have hv_132 : hR S_101 1104 h = (some q_58) := hf_103.fr (mem_old hm_64) (fun q9 => (fun e9 => absurd (((kd_nO (k := 6) hq_90 hm_64 hk_65)).symm.trans ((congrArg (hK _) e9).trans (kd_nO' (k := 6)))) (by decide)) q9) (rd_nOR (k := 6) hq_90 hm_64 hv_87)
  have hf_133 : Fm (fun f9 b9 => (f9 = 1110 ∧ b9 = h) ∨ (f9 = 1111 ∧ b9 = h)) (fun f9 b9 => b9 = h) (fun _ => False) S S_101 := hf_92.then hf_103 (fun a9 ha9 => ⟨(fun f9 h9 => h9.elim), (fun f9 h9 => (fun h8 => absurd (h8 ▸ ha9) hz_91) h9), (fun h9 => h9.elim)⟩)
  have hz_134 : q_93 ∉ hL S := fun h9 => e_94 (hf_92.mem h9)
  refine j_putrF (f := 1106) C hm9 flX11_33o (by decide) rfl rfl dX11_init_56 hm_108 hk_109 rfl ?_
  refine j_aload_n C dX11_init_59 rfl 0 rfl ?_
  have hf_137 : Fm (fun f9 b9 => (f9 = 1110 ∧ b9 = h) ∨ (f9 = 1111 ∧ b9 = h)) (fun f9 b9 => b9 = h) (fun _ => False) S (sR S_101 1106 h (some q_89)) := (hf_133.sR _ (fun _ => rfl))
  refine j_new (N := 19) C (ci := 9) rfl rfl klX11_37 knX9 kiX9 (M.cells (by decide)) (M.slots (by decide)) dX11_init_60 (fun q_135 hq_136 => ?_)
  have hz_138 : q_135 ∉ hL S := fun h9 => hq_136 (hf_137.mem h9)
  refine j_dup C dX11_init_63 rfl ?_
  show J _ _ _ _ _ 64 _
  refine j_aload_n C dX11_init_64 rfl 0 rfl ?_
  refine j_getr (f := 1106) (v := q_89) C flX11_33 dX11_init_65 (mem_old hm_108) (kd_nO (k := 9) hq_136 hm_108 hk_109) (by decide) rfl (rd_nOR (k := 9) hq_136 hm_108 (rd_sR (S := S_101) (g := 1106) (a := h) (v := (some q_89)))) ?_
  have hf_139 : Fm (fun f9 b9 => (f9 = 1110 ∧ b9 = h) ∨ (f9 = 1111 ∧ b9 = h)) (fun f9 b9 => b9 = h) (fun _ => False) S (nO (sR S_101 1106 h (some q_89)) q_135 9) := (hf_137.nO _ hq_136)
  refine j_callI C [.ref q_89] [.ref q_135, .ref h] mlX11_39 mcX9_init (c_X9_init (nO (sR S_101 1106 h (some q_89)) q_135 9) q_135 mem_new (kd_nO' (k := 9)) q_89) (M.rm (by decide) (by decide) (Nat.le_of_ble_eq_true rfl) (Nat.le_of_ble_eq_true rfl)) rfl rfl (Nat.le_of_ble_eq_true rfl) dX11_init_68 (fun r_209 S_210 hp_211 => ?_)
  obtain ⟨rfl, hf_212, q_140, q_141, q_142, q_143, q_144, q_145, q_146, q_147, q_148, q_149, q_150, e_151, e_152, e_153, e_154, e_155, e_156, e_157, e_158, e_159, e_160, e_161, e_162, e_163, e_164, e_165, e_166, e_167, e_168, e_169, e_170, e_171, e_172, e_173, e_174, e_175, e_176, e_177, e_178, e_179, e_180, e_181, e_182, e_183, e_184, e_185, e_186, e_187, e_188, e_189, e_190, e_191, e_192, e_193, e_194, e_195, e_196, e_197, e_198, e_199, e_200, e_201, e_202, e_203, e_204, e_205, e_206, e_207, e_208⟩ := hp_211
  refine J.eq (st' := [.ref q_135, .ref h]) rfl rfl rfl ?_
  have hz_213 : ∀ j, aI S_210 q_1 j = 0 := fun j9 => (hf_212.ai (mem_old hm_110) (fun h9 => h9) j9).trans (hz_104 j9)
  have hz_214 : ∀ j, aI S_210 q_15 j = 0 := fun j9 => (hf_212.ai (mem_old hm_113) (fun h9 => h9) j9).trans (hz_105 j9)
  have hz_215 : ∀ j, aI S_210 q_34 j = 0 := fun j9 => (hf_212.ai (mem_old hm_116) (fun h9 => h9) j9).trans (hz_106 j9)
  have hz_216 : ∀ j, aI S_210 q_58 j = 0 := fun j9 => (hf_212.ai (mem_old hm_119) (fun h9 => h9) j9).trans (hz_107 j9)
  have hz_217 : ∀ j, aI S_210 q_93 j = 0 := fun j9 => (hf_212.ai (mem_old e_95) (fun h9 => h9) j9).trans (e_99 j9)
  have hm_218 : h ∈ hL S_210 := hf_212.mem (mem_old hm_108)
  have hk_219 : Kd S_210 h 11 := hf_212.kd (mem_old hm_108) (kd_nO (k := 9) hq_136 hm_108 hk_109)
  have hm_220 : q_1 ∈ hL S_210 := hf_212.mem (mem_old hm_110)
  have hk_221 : Kd S_210 q_1 13 := hf_212.kd (mem_old hm_110) (kd_nO (k := 9) hq_136 hm_110 hk_111)
  have hn_222 : Ln S_210 q_1 8000 := hf_212.ln (mem_old hm_110) hn_112
  have hm_223 : q_135 ∈ hL S_210 := hf_212.mem mem_new
  have hk_224 : Kd S_210 q_135 9 := hf_212.kd mem_new (kd_nO' (k := 9))
  have hm_225 : q_15 ∈ hL S_210 := hf_212.mem (mem_old hm_113)
  have hk_226 : Kd S_210 q_15 13 := hf_212.kd (mem_old hm_113) (kd_nO (k := 9) hq_136 hm_113 hk_114)
  have hn_227 : Ln S_210 q_15 12000 := hf_212.ln (mem_old hm_113) hn_115
  have hm_228 : q_34 ∈ hL S_210 := hf_212.mem (mem_old hm_116)
  have hk_229 : Kd S_210 q_34 14 := hf_212.kd (mem_old hm_116) (kd_nO (k := 9) hq_136 hm_116 hk_117)
  have hn_230 : Ln S_210 q_34 6 := hf_212.ln (mem_old hm_116) hn_118
  have hm_231 : q_58 ∈ hL S_210 := hf_212.mem (mem_old hm_119)
  have hk_232 : Kd S_210 q_58 14 := hf_212.kd (mem_old hm_119) (kd_nO (k := 9) hq_136 hm_119 hk_120)
  have hn_233 : Ln S_210 q_58 7 := hf_212.ln (mem_old hm_119) hn_121
  have hm_234 : q_89 ∈ hL S_210 := hf_212.mem (mem_old hm_122)
  have hk_235 : Kd S_210 q_89 6 := hf_212.kd (mem_old hm_122) (kd_nO (k := 9) hq_136 hm_122 hk_123)
  have hm_236 : q_93 ∈ hL S_210 := hf_212.mem (mem_old e_95)
  have hk_237 : Kd S_210 q_93 13 := hf_212.kd (mem_old e_95) (kd_nO (k := 9) hq_136 e_95 e_96)
  have hn_238 : Ln S_210 q_93 60000 := hf_212.ln (mem_old e_95) e_97
  have hv_239 : hI S_210 1110 h = (-1) := hf_212.fi (mem_old hm_108) (fun h9 => h9) (rd_nOI (k := 9) hq_136 hm_108 hv_124)
  have hv_240 : hI S_210 1111 h = (-1) := hf_212.fi (mem_old hm_108) (fun h9 => h9) (rd_nOI (k := 9) hq_136 hm_108 hv_125)
  have hv_241 : hI S_210 601 q_89 = 0 := hf_212.fi (mem_old hm_122) (fun h9 => h9) (rd_nOI (k := 9) hq_136 hm_122 hv_126)
  have hv_242 : hI S_210 602 q_89 = 0 := hf_212.fi (mem_old hm_122) (fun h9 => h9) (rd_nOI (k := 9) hq_136 hm_122 hv_127)
  have hv_243 : hI S_210 603 q_89 = 0 := hf_212.fi (mem_old hm_122) (fun h9 => h9) (rd_nOI (k := 9) hq_136 hm_122 hv_128)
  have hv_244 : hI S_210 914 q_135 = 0 := hf_212.fi mem_new (fun h9 => h9) (rd_nOI' (k := 9))
  have hv_245 : hI S_210 916 q_135 = 0 := hf_212.fi mem_new (fun h9 => h9) (rd_nOI' (k := 9))
  have hv_246 : hI S_210 918 q_135 = 0 := hf_212.fi mem_new (fun h9 => h9) (rd_nOI' (k := 9))
  have hv_247 : hR S_210 1100 h = (some q_1) := hf_212.fr (mem_old hm_108) (fun q9 => (fun e9 => absurd (((kd_nO (k := 9) hq_136 hm_108 hk_109)).symm.trans ((congrArg (hK _) e9).trans (kd_nO' (k := 9)))) (by decide)) q9) (rd_nOR (k := 9) hq_136 hm_108 (rd_sRf (S := S_101) (g := 1106) (a := h) (v := (some q_89)) (by decide) hv_129))
  have hv_248 : hR S_210 1102 h = (some q_15) := hf_212.fr (mem_old hm_108) (fun q9 => (fun e9 => absurd (((kd_nO (k := 9) hq_136 hm_108 hk_109)).symm.trans ((congrArg (hK _) e9).trans (kd_nO' (k := 9)))) (by decide)) q9) (rd_nOR (k := 9) hq_136 hm_108 (rd_sRf (S := S_101) (g := 1106) (a := h) (v := (some q_89)) (by decide) hv_130))
  have hv_249 : hR S_210 1103 h = (some q_34) := hf_212.fr (mem_old hm_108) (fun q9 => (fun e9 => absurd (((kd_nO (k := 9) hq_136 hm_108 hk_109)).symm.trans ((congrArg (hK _) e9).trans (kd_nO' (k := 9)))) (by decide)) q9) (rd_nOR (k := 9) hq_136 hm_108 (rd_sRf (S := S_101) (g := 1106) (a := h) (v := (some q_89)) (by decide) hv_131))
  have hv_250 : hR S_210 1104 h = (some q_58) := hf_212.fr (mem_old hm_108) (fun q9 => (fun e9 => absurd (((kd_nO (k := 9) hq_136 hm_108 hk_109)).symm.trans ((congrArg (hK _) e9).trans (kd_nO' (k := 9)))) (by decide)) q9) (rd_nOR (k := 9) hq_136 hm_108 (rd_sRf (S := S_101) (g := 1106) (a := h) (v := (some q_89)) (by decide) hv_132))
  have hv_251 : hR S_210 1106 h = (some q_89) := hf_212.fr (mem_old hm_108) (fun q9 => (fun e9 => absurd (((kd_nO (k := 9) hq_136 hm_108 hk_109)).symm.trans ((congrArg (hK _) e9).trans (kd_nO' (k := 9)))) (by decide)) q9) (rd_nOR (k := 9) hq_136 hm_108 (rd_sR (S := S_101) (g := 1106) (a := h) (v := (some q_89))))
  have hv_252 : hR S_210 600 q_89 = (some q_93) := hf_212.fr (mem_old hm_122) (fun q9 => (fun e9 => absurd (((kd_nO (k := 9) hq_136 hm_122 hk_123)).symm.trans ((congrArg (hK _) e9).trans (kd_nO' (k := 9)))) (by decide)) q9) (rd_nOR (k := 9) hq_136 hm_122 (rd_sRf (S := S_101) (g := 1106) (a := h) (v := (some q_89)) (by decide) e_98))
  have hf_253 : Fm (fun f9 b9 => (f9 = 1110 ∧ b9 = h) ∨ (f9 = 1111 ∧ b9 = h)) (fun f9 b9 => b9 = h) (fun _ => False) S S_210 := hf_139.then hf_212 (fun a9 ha9 => ⟨(fun f9 h9 => h9.elim), (fun f9 h9 => (fun h8 => absurd (h8 ▸ ha9) hz_138) h9), (fun h9 => h9.elim)⟩)
  have hz_254 : q_140 ∉ hL S := fun h9 => e_151 (hf_139.mem h9)
  have hz_255 : q_141 ∉ hL S := fun h9 => e_155 (hf_139.mem h9)
  have hz_256 : q_142 ∉ hL S := fun h9 => e_161 (hf_139.mem h9)
  have hz_257 : q_143 ∉ hL S := fun h9 => e_165 (hf_139.mem h9)
  have hz_258 : q_144 ∉ hL S := fun h9 => e_169 (hf_139.mem h9)
  have hz_259 : q_145 ∉ hL S := fun h9 => e_175 (hf_139.mem h9)
  have hz_260 : q_146 ∉ hL S := fun h9 => e_179 (hf_139.mem h9)
  have hz_261 : q_147 ∉ hL S := fun h9 => e_185 (hf_139.mem h9)
  have hz_262 : q_148 ∉ hL S := fun h9 => e_189 (hf_139.mem h9)
  have hz_263 : q_149 ∉ hL S := fun h9 => e_195 (hf_139.mem h9)
  have hz_264 : q_150 ∉ hL S := fun h9 => e_201 (hf_139.mem h9)
  refine j_putrF (f := 1107) C hm9 flX11_42o (by decide) rfl rfl dX11_init_71 hm_218 hk_219 rfl ?_
  refine j_aload_n C dX11_init_74 rfl 0 rfl ?_
  have hf_267 : Fm (fun f9 b9 => (f9 = 1110 ∧ b9 = h) ∨ (f9 = 1111 ∧ b9 = h)) (fun f9 b9 => b9 = h) (fun _ => False) S (sR S_210 1107 h (some q_135)) := (hf_253.sR _ (fun _ => rfl))
  refine j_new (N := 21) C (ci := 3) rfl rfl klX11_46 knX3 kiX3 (M.cells (by decide)) (M.slots (by decide)) dX11_init_75 (fun q_265 hq_266 => ?_)
  have hz_268 : q_265 ∉ hL S := fun h9 => hq_266 (hf_267.mem h9)
  refine j_dup C dX11_init_78 rfl ?_
  refine j_aload_n C dX11_init_79 rfl 0 rfl ?_
  show J _ _ _ _ _ 80 _
  refine j_getr (f := 1106) (v := q_89) C flX11_33 dX11_init_80 (mem_old hm_218) (kd_nO (k := 3) hq_266 hm_218 hk_219) (by decide) rfl (rd_nOR (k := 3) hq_266 hm_218 (rd_sRf (S := S_210) (g := 1107) (a := h) (v := (some q_135)) (by decide) hv_251)) ?_
  have hf_269 : Fm (fun f9 b9 => (f9 = 1110 ∧ b9 = h) ∨ (f9 = 1111 ∧ b9 = h)) (fun f9 b9 => b9 = h) (fun _ => False) S (nO (sR S_210 1107 h (some q_135)) q_265 3) := (hf_267.nO _ hq_266)
  refine j_callI C [.ref q_89] [.ref q_265, .ref h] mlX11_48 mcX3_init (c_X3_init (nO (sR S_210 1107 h (some q_135)) q_265 3) q_265 mem_new (kd_nO' (k := 3)) q_89) (M.rm (by decide) (by decide) (Nat.le_of_ble_eq_true rfl) (Nat.le_of_ble_eq_true rfl)) rfl rfl (Nat.le_of_ble_eq_true rfl) dX11_init_83 (fun r_270 S_271 hp_272 => ?_)
  obtain ⟨rfl, hf_273⟩ := hp_272
  refine J.eq (st' := [.ref q_265, .ref h]) rfl rfl rfl ?_
  have hz_274 : ∀ j, aI S_271 q_1 j = 0 := fun j9 => (hf_273.ai (mem_old hm_220) (fun h9 => h9) j9).trans (hz_213 j9)
  have hz_275 : ∀ j, aI S_271 q_141 j = 0 := fun j9 => (hf_273.ai (mem_old e_156) (fun h9 => h9) j9).trans (e_160 j9)
  have hz_276 : ∀ j, aI S_271 q_144 j = 0 := fun j9 => (hf_273.ai (mem_old e_170) (fun h9 => h9) j9).trans (e_174 j9)
  have hz_277 : ∀ j, aI S_271 q_146 j = 0 := fun j9 => (hf_273.ai (mem_old e_180) (fun h9 => h9) j9).trans (e_184 j9)
  have hz_278 : ∀ j, aI S_271 q_148 j = 0 := fun j9 => (hf_273.ai (mem_old e_190) (fun h9 => h9) j9).trans (e_194 j9)
  have hz_279 : ∀ j, aI S_271 q_149 j = 0 := fun j9 => (hf_273.ai (mem_old e_196) (fun h9 => h9) j9).trans (e_200 j9)
  have hz_280 : ∀ j, aI S_271 q_15 j = 0 := fun j9 => (hf_273.ai (mem_old hm_225) (fun h9 => h9) j9).trans (hz_214 j9)
  have hz_281 : ∀ j, aI S_271 q_150 j = 0 := fun j9 => (hf_273.ai (mem_old e_202) (fun h9 => h9) j9).trans (e_206 j9)
  have hz_282 : ∀ j, aI S_271 q_34 j = 0 := fun j9 => (hf_273.ai (mem_old hm_228) (fun h9 => h9) j9).trans (hz_215 j9)
  have hz_283 : ∀ j, aI S_271 q_58 j = 0 := fun j9 => (hf_273.ai (mem_old hm_231) (fun h9 => h9) j9).trans (hz_216 j9)
  have hz_284 : ∀ j, aI S_271 q_93 j = 0 := fun j9 => (hf_273.ai (mem_old hm_236) (fun h9 => h9) j9).trans (hz_217 j9)
  have hm_285 : h ∈ hL S_271 := hf_273.mem (mem_old hm_218)
  have hk_286 : Kd S_271 h 11 := hf_273.kd (mem_old hm_218) (kd_nO (k := 3) hq_266 hm_218 hk_219)
  have hm_287 : q_1 ∈ hL S_271 := hf_273.mem (mem_old hm_220)
  have hk_288 : Kd S_271 q_1 13 := hf_273.kd (mem_old hm_220) (kd_nO (k := 3) hq_266 hm_220 hk_221)
  have hn_289 : Ln S_271 q_1 8000 := hf_273.ln (mem_old hm_220) hn_222
  have hm_290 : q_135 ∈ hL S_271 := hf_273.mem (mem_old hm_223)
  have hk_291 : Kd S_271 q_135 9 := hf_273.kd (mem_old hm_223) (kd_nO (k := 3) hq_266 hm_223 hk_224)
  have hm_292 : q_140 ∈ hL S_271 := hf_273.mem (mem_old e_152)
  have hk_293 : Kd S_271 q_140 0 := hf_273.kd (mem_old e_152) (kd_nO (k := 3) hq_266 e_152 e_153)
  have hm_294 : q_141 ∈ hL S_271 := hf_273.mem (mem_old e_156)
  have hk_295 : Kd S_271 q_141 14 := hf_273.kd (mem_old e_156) (kd_nO (k := 3) hq_266 e_156 e_157)
  have hn_296 : Ln S_271 q_141 20000 := hf_273.ln (mem_old e_156) e_158
  have hm_297 : q_142 ∈ hL S_271 := hf_273.mem (mem_old e_162)
  have hk_298 : Kd S_271 q_142 2 := hf_273.kd (mem_old e_162) (kd_nO (k := 3) hq_266 e_162 e_163)
  have hm_299 : q_143 ∈ hL S_271 := hf_273.mem (mem_old e_166)
  have hk_300 : Kd S_271 q_143 8 := hf_273.kd (mem_old e_166) (kd_nO (k := 3) hq_266 e_166 e_167)
  have hm_301 : q_144 ∈ hL S_271 := hf_273.mem (mem_old e_170)
  have hk_302 : Kd S_271 q_144 14 := hf_273.kd (mem_old e_170) (kd_nO (k := 3) hq_266 e_170 e_171)
  have hn_303 : Ln S_271 q_144 16 := hf_273.ln (mem_old e_170) e_172
  have hm_304 : q_145 ∈ hL S_271 := hf_273.mem (mem_old e_176)
  have hk_305 : Kd S_271 q_145 8 := hf_273.kd (mem_old e_176) (kd_nO (k := 3) hq_266 e_176 e_177)
  have hm_306 : q_146 ∈ hL S_271 := hf_273.mem (mem_old e_180)
  have hk_307 : Kd S_271 q_146 14 := hf_273.kd (mem_old e_180) (kd_nO (k := 3) hq_266 e_180 e_181)
  have hn_308 : Ln S_271 q_146 16 := hf_273.ln (mem_old e_180) e_182
  have hm_309 : q_147 ∈ hL S_271 := hf_273.mem (mem_old e_186)
  have hk_310 : Kd S_271 q_147 8 := hf_273.kd (mem_old e_186) (kd_nO (k := 3) hq_266 e_186 e_187)
  have hm_311 : q_148 ∈ hL S_271 := hf_273.mem (mem_old e_190)
  have hk_312 : Kd S_271 q_148 14 := hf_273.kd (mem_old e_190) (kd_nO (k := 3) hq_266 e_190 e_191)
  have hn_313 : Ln S_271 q_148 16 := hf_273.ln (mem_old e_190) e_192
  have hm_314 : q_149 ∈ hL S_271 := hf_273.mem (mem_old e_196)
  have hk_315 : Kd S_271 q_149 14 := hf_273.kd (mem_old e_196) (kd_nO (k := 3) hq_266 e_196 e_197)
  have hn_316 : Ln S_271 q_149 16 := hf_273.ln (mem_old e_196) e_198
  have hm_317 : q_15 ∈ hL S_271 := hf_273.mem (mem_old hm_225)
  have hk_318 : Kd S_271 q_15 13 := hf_273.kd (mem_old hm_225) (kd_nO (k := 3) hq_266 hm_225 hk_226)
  have hn_319 : Ln S_271 q_15 12000 := hf_273.ln (mem_old hm_225) hn_227
  have hm_320 : q_150 ∈ hL S_271 := hf_273.mem (mem_old e_202)
  have hk_321 : Kd S_271 q_150 14 := hf_273.kd (mem_old e_202) (kd_nO (k := 3) hq_266 e_202 e_203)
  have hn_322 : Ln S_271 q_150 12 := hf_273.ln (mem_old e_202) e_204
  have hm_323 : q_265 ∈ hL S_271 := hf_273.mem mem_new
  have hk_324 : Kd S_271 q_265 3 := hf_273.kd mem_new (kd_nO' (k := 3))
  have hm_325 : q_34 ∈ hL S_271 := hf_273.mem (mem_old hm_228)
  have hk_326 : Kd S_271 q_34 14 := hf_273.kd (mem_old hm_228) (kd_nO (k := 3) hq_266 hm_228 hk_229)
  have hn_327 : Ln S_271 q_34 6 := hf_273.ln (mem_old hm_228) hn_230
  have hm_328 : q_58 ∈ hL S_271 := hf_273.mem (mem_old hm_231)
  have hk_329 : Kd S_271 q_58 14 := hf_273.kd (mem_old hm_231) (kd_nO (k := 3) hq_266 hm_231 hk_232)
  have hn_330 : Ln S_271 q_58 7 := hf_273.ln (mem_old hm_231) hn_233
  have hm_331 : q_89 ∈ hL S_271 := hf_273.mem (mem_old hm_234)
  have hk_332 : Kd S_271 q_89 6 := hf_273.kd (mem_old hm_234) (kd_nO (k := 3) hq_266 hm_234 hk_235)
  have hm_333 : q_93 ∈ hL S_271 := hf_273.mem (mem_old hm_236)
  have hk_334 : Kd S_271 q_93 13 := hf_273.kd (mem_old hm_236) (kd_nO (k := 3) hq_266 hm_236 hk_237)
  have hn_335 : Ln S_271 q_93 60000 := hf_273.ln (mem_old hm_236) hn_238
  have hv_336 : hI S_271 1110 h = (-1) := hf_273.fi (mem_old hm_218) (fun h9 => h9) (rd_nOI (k := 3) hq_266 hm_218 hv_239)
  have hv_337 : hI S_271 1111 h = (-1) := hf_273.fi (mem_old hm_218) (fun h9 => h9) (rd_nOI (k := 3) hq_266 hm_218 hv_240)
  have hv_338 : hI S_271 206 q_142 = 0 := hf_273.fi (mem_old e_162) (fun h9 => h9) (rd_nOI (k := 3) hq_266 e_162 e_208)
  have hv_339 : hI S_271 3 q_140 = 0 := hf_273.fi (mem_old e_152) (fun h9 => h9) (rd_nOI (k := 3) hq_266 e_152 e_207)
  have hv_340 : hI S_271 601 q_89 = 0 := hf_273.fi (mem_old hm_234) (fun h9 => h9) (rd_nOI (k := 3) hq_266 hm_234 hv_241)
  have hv_341 : hI S_271 602 q_89 = 0 := hf_273.fi (mem_old hm_234) (fun h9 => h9) (rd_nOI (k := 3) hq_266 hm_234 hv_242)
  have hv_342 : hI S_271 603 q_89 = 0 := hf_273.fi (mem_old hm_234) (fun h9 => h9) (rd_nOI (k := 3) hq_266 hm_234 hv_243)
  have hv_343 : hI S_271 914 q_135 = 0 := hf_273.fi (mem_old hm_223) (fun h9 => h9) (rd_nOI (k := 3) hq_266 hm_223 hv_244)
  have hv_344 : hI S_271 916 q_135 = 0 := hf_273.fi (mem_old hm_223) (fun h9 => h9) (rd_nOI (k := 3) hq_266 hm_223 hv_245)
  have hv_345 : hI S_271 918 q_135 = 0 := hf_273.fi (mem_old hm_223) (fun h9 => h9) (rd_nOI (k := 3) hq_266 hm_223 hv_246)
  have hv_346 : hR S_271 0 q_140 = (some q_141) := hf_273.fr (mem_old e_152) (fun q9 => (fun e9 => absurd (((kd_nO (k := 3) hq_266 e_152 e_153)).symm.trans ((congrArg (hK _) e9).trans (kd_nO' (k := 3)))) (by decide)) q9) (rd_nOR (k := 3) hq_266 e_152 (rd_sRf (S := S_210) (g := 1107) (a := h) (v := (some q_135)) (by decide) e_159))
  have hv_347 : hR S_271 1100 h = (some q_1) := hf_273.fr (mem_old hm_218) (fun q9 => (fun e9 => absurd (((kd_nO (k := 3) hq_266 hm_218 hk_219)).symm.trans ((congrArg (hK _) e9).trans (kd_nO' (k := 3)))) (by decide)) q9) (rd_nOR (k := 3) hq_266 hm_218 (rd_sRf (S := S_210) (g := 1107) (a := h) (v := (some q_135)) (by decide) hv_247))
  have hv_348 : hR S_271 1102 h = (some q_15) := hf_273.fr (mem_old hm_218) (fun q9 => (fun e9 => absurd (((kd_nO (k := 3) hq_266 hm_218 hk_219)).symm.trans ((congrArg (hK _) e9).trans (kd_nO' (k := 3)))) (by decide)) q9) (rd_nOR (k := 3) hq_266 hm_218 (rd_sRf (S := S_210) (g := 1107) (a := h) (v := (some q_135)) (by decide) hv_248))
  have hv_349 : hR S_271 1103 h = (some q_34) := hf_273.fr (mem_old hm_218) (fun q9 => (fun e9 => absurd (((kd_nO (k := 3) hq_266 hm_218 hk_219)).symm.trans ((congrArg (hK _) e9).trans (kd_nO' (k := 3)))) (by decide)) q9) (rd_nOR (k := 3) hq_266 hm_218 (rd_sRf (S := S_210) (g := 1107) (a := h) (v := (some q_135)) (by decide) hv_249))
  have hv_350 : hR S_271 1104 h = (some q_58) := hf_273.fr (mem_old hm_218) (fun q9 => (fun e9 => absurd (((kd_nO (k := 3) hq_266 hm_218 hk_219)).symm.trans ((congrArg (hK _) e9).trans (kd_nO' (k := 3)))) (by decide)) q9) (rd_nOR (k := 3) hq_266 hm_218 (rd_sRf (S := S_210) (g := 1107) (a := h) (v := (some q_135)) (by decide) hv_250))
  have hv_351 : hR S_271 1106 h = (some q_89) := hf_273.fr (mem_old hm_218) (fun q9 => (fun e9 => absurd (((kd_nO (k := 3) hq_266 hm_218 hk_219)).symm.trans ((congrArg (hK _) e9).trans (kd_nO' (k := 3)))) (by decide)) q9) (rd_nOR (k := 3) hq_266 hm_218 (rd_sRf (S := S_210) (g := 1107) (a := h) (v := (some q_135)) (by decide) hv_251))
  have hv_352 : hR S_271 1107 h = (some q_135) := hf_273.fr (mem_old hm_218) (fun q9 => (fun e9 => absurd (((kd_nO (k := 3) hq_266 hm_218 hk_219)).symm.trans ((congrArg (hK _) e9).trans (kd_nO' (k := 3)))) (by decide)) q9) (rd_nOR (k := 3) hq_266 hm_218 (rd_sR (S := S_210) (g := 1107) (a := h) (v := (some q_135))))
  have hv_353 : hR S_271 200 q_142 = (some q_143) := hf_273.fr (mem_old e_162) (fun q9 => (fun e9 => absurd (((kd_nO (k := 3) hq_266 e_162 e_163)).symm.trans ((congrArg (hK _) e9).trans (kd_nO' (k := 3)))) (by decide)) q9) (rd_nOR (k := 3) hq_266 e_162 (rd_sRf (S := S_210) (g := 1107) (a := h) (v := (some q_135)) (by decide) e_168))
  have hv_354 : hR S_271 600 q_89 = (some q_93) := hf_273.fr (mem_old hm_234) (fun q9 => (fun e9 => absurd (((kd_nO (k := 3) hq_266 hm_234 hk_235)).symm.trans ((congrArg (hK _) e9).trans (kd_nO' (k := 3)))) (by decide)) q9) (rd_nOR (k := 3) hq_266 hm_234 (rd_sRf (S := S_210) (g := 1107) (a := h) (v := (some q_135)) (by decide) hv_252))
  have hv_355 : hR S_271 800 q_143 = (some q_144) := hf_273.fr (mem_old e_166) (fun q9 => (fun e9 => absurd (((kd_nO (k := 3) hq_266 e_166 e_167)).symm.trans ((congrArg (hK _) e9).trans (kd_nO' (k := 3)))) (by decide)) q9) (rd_nOR (k := 3) hq_266 e_166 (rd_sRf (S := S_210) (g := 1107) (a := h) (v := (some q_135)) (by decide) e_173))
  have hv_356 : hR S_271 800 q_145 = (some q_146) := hf_273.fr (mem_old e_176) (fun q9 => (fun e9 => absurd (((kd_nO (k := 3) hq_266 e_176 e_177)).symm.trans ((congrArg (hK _) e9).trans (kd_nO' (k := 3)))) (by decide)) q9) (rd_nOR (k := 3) hq_266 e_176 (rd_sRf (S := S_210) (g := 1107) (a := h) (v := (some q_135)) (by decide) e_183))
  have hv_357 : hR S_271 800 q_147 = (some q_148) := hf_273.fr (mem_old e_186) (fun q9 => (fun e9 => absurd (((kd_nO (k := 3) hq_266 e_186 e_187)).symm.trans ((congrArg (hK _) e9).trans (kd_nO' (k := 3)))) (by decide)) q9) (rd_nOR (k := 3) hq_266 e_186 (rd_sRf (S := S_210) (g := 1107) (a := h) (v := (some q_135)) (by decide) e_193))
  have hv_358 : hR S_271 901 q_135 = (some q_140) := hf_273.fr (mem_old hm_223) (fun q9 => (fun e9 => absurd (((kd_nO (k := 3) hq_266 hm_223 hk_224)).symm.trans ((congrArg (hK _) e9).trans (kd_nO' (k := 3)))) (by decide)) q9) (rd_nOR (k := 3) hq_266 hm_223 (rd_sRf (S := S_210) (g := 1107) (a := h) (v := (some q_135)) (by decide) e_154))
  have hv_359 : hR S_271 902 q_135 = (some q_142) := hf_273.fr (mem_old hm_223) (fun q9 => (fun e9 => absurd (((kd_nO (k := 3) hq_266 hm_223 hk_224)).symm.trans ((congrArg (hK _) e9).trans (kd_nO' (k := 3)))) (by decide)) q9) (rd_nOR (k := 3) hq_266 hm_223 (rd_sRf (S := S_210) (g := 1107) (a := h) (v := (some q_135)) (by decide) e_164))
  have hv_360 : hR S_271 903 q_135 = (some q_145) := hf_273.fr (mem_old hm_223) (fun q9 => (fun e9 => absurd (((kd_nO (k := 3) hq_266 hm_223 hk_224)).symm.trans ((congrArg (hK _) e9).trans (kd_nO' (k := 3)))) (by decide)) q9) (rd_nOR (k := 3) hq_266 hm_223 (rd_sRf (S := S_210) (g := 1107) (a := h) (v := (some q_135)) (by decide) e_178))
  have hv_361 : hR S_271 906 q_135 = (some q_147) := hf_273.fr (mem_old hm_223) (fun q9 => (fun e9 => absurd (((kd_nO (k := 3) hq_266 hm_223 hk_224)).symm.trans ((congrArg (hK _) e9).trans (kd_nO' (k := 3)))) (by decide)) q9) (rd_nOR (k := 3) hq_266 hm_223 (rd_sRf (S := S_210) (g := 1107) (a := h) (v := (some q_135)) (by decide) e_188))
  have hv_362 : hR S_271 908 q_135 = (some q_149) := hf_273.fr (mem_old hm_223) (fun q9 => (fun e9 => absurd (((kd_nO (k := 3) hq_266 hm_223 hk_224)).symm.trans ((congrArg (hK _) e9).trans (kd_nO' (k := 3)))) (by decide)) q9) (rd_nOR (k := 3) hq_266 hm_223 (rd_sRf (S := S_210) (g := 1107) (a := h) (v := (some q_135)) (by decide) e_199))
  have hv_363 : hR S_271 917 q_135 = (some q_150) := hf_273.fr (mem_old hm_223) (fun q9 => (fun e9 => absurd (((kd_nO (k := 3) hq_266 hm_223 hk_224)).symm.trans ((congrArg (hK _) e9).trans (kd_nO' (k := 3)))) (by decide)) q9) (rd_nOR (k := 3) hq_266 hm_223 (rd_sRf (S := S_210) (g := 1107) (a := h) (v := (some q_135)) (by decide) e_205))
  have hf_364 : Fm (fun f9 b9 => (f9 = 1110 ∧ b9 = h) ∨ (f9 = 1111 ∧ b9 = h)) (fun f9 b9 => b9 = h) (fun _ => False) S S_271 := hf_269.then hf_273 (fun a9 ha9 => ⟨(fun f9 h9 => h9.elim), (fun f9 h9 => (fun h8 => absurd (h8 ▸ ha9) hz_268) h9), (fun h9 => h9.elim)⟩)
  refine j_putrF (f := 1108) C hm9 flX11_49o (by decide) rfl rfl dX11_init_86 hm_285 hk_286 rfl ?_
  exact j_vret C M dX11_init_89 (Nat.le_of_ble_eq_true rfl) (Nat.le_of_ble_eq_true rfl) ⟨rfl, (hf_364.sR _ (fun _ => rfl)), hv_336, hv_337, q_1, q_15, q_34, q_58, q_89, q_93, q_135, q_140, q_141, q_142, q_143, q_144, q_145, q_146, q_147, q_148, q_149, q_150, hz_3, hm_287, hk_288, hn_289, (rd_sRf (S := S_271) (g := 1108) (a := h) (v := (some q_265)) (by decide) hv_347), hz_274, hz_17, hm_317, hk_318, hn_319, (rd_sRf (S := S_271) (g := 1108) (a := h) (v := (some q_265)) (by decide) hv_348), hz_280, hz_36, hm_325, hk_326, hn_327, (rd_sRf (S := S_271) (g := 1108) (a := h) (v := (some q_265)) (by decide) hv_349), hz_282, hz_60, hm_328, hk_329, hn_330, (rd_sRf (S := S_271) (g := 1108) (a := h) (v := (some q_265)) (by decide) hv_350), hz_283, hz_91, hm_331, hk_332, (rd_sRf (S := S_271) (g := 1108) (a := h) (v := (some q_265)) (by decide) hv_351), hz_134, hm_333, hk_334, hn_335, (rd_sRf (S := S_271) (g := 1108) (a := h) (v := (some q_265)) (by decide) hv_354), hz_284, hz_138, hm_290, hk_291, (rd_sRf (S := S_271) (g := 1108) (a := h) (v := (some q_265)) (by decide) hv_352), hz_254, hm_292, hk_293, (rd_sRf (S := S_271) (g := 1108) (a := h) (v := (some q_265)) (by decide) hv_358), hz_255, hm_294, hk_295, hn_296, (rd_sRf (S := S_271) (g := 1108) (a := h) (v := (some q_265)) (by decide) hv_346), hz_275, hz_256, hm_297, hk_298, (rd_sRf (S := S_271) (g := 1108) (a := h) (v := (some q_265)) (by decide) hv_359), hz_257, hm_299, hk_300, (rd_sRf (S := S_271) (g := 1108) (a := h) (v := (some q_265)) (by decide) hv_353), hz_258, hm_301, hk_302, hn_303, (rd_sRf (S := S_271) (g := 1108) (a := h) (v := (some q_265)) (by decide) hv_355), hz_276, hz_259, hm_304, hk_305, (rd_sRf (S := S_271) (g := 1108) (a := h) (v := (some q_265)) (by decide) hv_360), hz_260, hm_306, hk_307, hn_308, (rd_sRf (S := S_271) (g := 1108) (a := h) (v := (some q_265)) (by decide) hv_356), hz_277, hz_261, hm_309, hk_310, (rd_sRf (S := S_271) (g := 1108) (a := h) (v := (some q_265)) (by decide) hv_361), hz_262, hm_311, hk_312, hn_313, (rd_sRf (S := S_271) (g := 1108) (a := h) (v := (some q_265)) (by decide) hv_357), hz_278, hz_263, hm_314, hk_315, hn_316, (rd_sRf (S := S_271) (g := 1108) (a := h) (v := (some q_265)) (by decide) hv_362), hz_279, hz_264, hm_320, hk_321, hn_322, (rd_sRf (S := S_271) (g := 1108) (a := h) (v := (some q_265)) (by decide) hv_363), hz_281, hv_340, hv_341, hv_342, hv_344, hv_345, hv_339, hv_338⟩
end
