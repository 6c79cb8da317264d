section
-- ===== PART A: goes FIRST, ahead of the names: the tables' words, and 'selects' of the private methods out of them =====
/-- a private method of a class that the tables say can be made, by its rows of tables_1 -/
def lw_okq (q : MethodName × Nat) : Prop := (q.1.cls ≠ "java/lang/invoke/MethodHandle" ∧ q.1.cls ≠ "java/lang/invoke/VarHandle") ∧ Cond.instantiable q.1.cls q.2 ∈ tables_1 ∧ Cond.privateMethod q.1 ∈ tables_1 ∧ Cond.instanceMethod q.1 ∈ tables_1
theorem lw_p0 : lw_okq (⟨"PrinterHouse$Fonts", "setHead", "(IIIIII)V"⟩, 10) := ⟨⟨by decide +kernel, by decide +kernel⟩, List.mem_of_getElem? (i := 165) (by decide +kernel), List.mem_of_getElem? (i := 190) (by decide +kernel), List.mem_of_getElem? (i := 191) (by decide +kernel)⟩
theorem lw_p1 : lw_okq (⟨"PrinterHouse", "feedNumber", "(I)V"⟩, 12) := ⟨⟨by decide +kernel, by decide +kernel⟩, List.mem_of_getElem? (i := 23) (by decide +kernel), List.mem_of_getElem? (i := 663) (by decide +kernel), List.mem_of_getElem? (i := 664) (by decide +kernel)⟩
theorem lw_p2 : lw_okq (⟨"PrinterHouse$Streams", "goThrough", "([BII)V"⟩, 19) := ⟨⟨by decide +kernel, by decide +kernel⟩, List.mem_of_getElem? (i := 81) (by decide +kernel), List.mem_of_getElem? (i := 792) (by decide +kernel), List.mem_of_getElem? (i := 793) (by decide +kernel)⟩
theorem lw_p3 : lw_okq (⟨"PrinterHouse$Streams", "pass", "(I)Z"⟩, 19) := ⟨⟨by decide +kernel, by decide +kernel⟩, List.mem_of_getElem? (i := 81) (by decide +kernel), List.mem_of_getElem? (i := 820) (by decide +kernel), List.mem_of_getElem? (i := 821) (by decide +kernel)⟩
theorem lw_p4 : lw_okq (⟨"PrinterHouse$Streams", "other", "(I)V"⟩, 19) := ⟨⟨by decide +kernel, by decide +kernel⟩, List.mem_of_getElem? (i := 81) (by decide +kernel), List.mem_of_getElem? (i := 824) (by decide +kernel), List.mem_of_getElem? (i := 825) (by decide +kernel)⟩
theorem lw_p5 : lw_okq (⟨"PrinterHouse$Streams", "line", "(I)V"⟩, 19) := ⟨⟨by decide +kernel, by decide +kernel⟩, List.mem_of_getElem? (i := 81) (by decide +kernel), List.mem_of_getElem? (i := 835) (by decide +kernel), List.mem_of_getElem? (i := 836) (by decide +kernel)⟩
theorem lw_p6 : lw_okq (⟨"PrinterHouse$Streams", "form", "()V"⟩, 19) := ⟨⟨by decide +kernel, by decide +kernel⟩, List.mem_of_getElem? (i := 81) (by decide +kernel), List.mem_of_getElem? (i := 840) (by decide +kernel), List.mem_of_getElem? (i := 841) (by decide +kernel)⟩
theorem lw_p7 : lw_okq (⟨"PrinterHouse$Streams", "eject", "()V"⟩, 19) := ⟨⟨by decide +kernel, by decide +kernel⟩, List.mem_of_getElem? (i := 81) (by decide +kernel), List.mem_of_getElem? (i := 844) (by decide +kernel), List.mem_of_getElem? (i := 845) (by decide +kernel)⟩
theorem lw_p8 : lw_okq (⟨"PrinterHouse$Streams", "goMacro", "(I)V"⟩, 19) := ⟨⟨by decide +kernel, by decide +kernel⟩, List.mem_of_getElem? (i := 81) (by decide +kernel), List.mem_of_getElem? (i := 872) (by decide +kernel), List.mem_of_getElem? (i := 873) (by decide +kernel)⟩
theorem lw_p9 : lw_okq (⟨"PrinterHouse$Sheaf", "putNumber", "(II)V"⟩, 10) := ⟨⟨by decide +kernel, by decide +kernel⟩, List.mem_of_getElem? (i := 31) (by decide +kernel), List.mem_of_getElem? (i := 906) (by decide +kernel), List.mem_of_getElem? (i := 907) (by decide +kernel)⟩
theorem lw_p10 : lw_okq (⟨"PrinterHouse$Sheaf", "putByte", "(I)V"⟩, 10) := ⟨⟨by decide +kernel, by decide +kernel⟩, List.mem_of_getElem? (i := 31) (by decide +kernel), List.mem_of_getElem? (i := 910) (by decide +kernel), List.mem_of_getElem? (i := 911) (by decide +kernel)⟩
theorem lw_p11 : lw_okq (⟨"PrinterHouse$Sheaf", "writeRow", "([III)V"⟩, 10) := ⟨⟨by decide +kernel, by decide +kernel⟩, List.mem_of_getElem? (i := 31) (by decide +kernel), List.mem_of_getElem? (i := 915) (by decide +kernel), List.mem_of_getElem? (i := 916) (by decide +kernel)⟩
theorem lw_p12 : lw_okq (⟨"PrinterHouse$Sheaf", "putBits", "(II)V"⟩, 10) := ⟨⟨by decide +kernel, by decide +kernel⟩, List.mem_of_getElem? (i := 31) (by decide +kernel), List.mem_of_getElem? (i := 939) (by decide +kernel), List.mem_of_getElem? (i := 940) (by decide +kernel)⟩
theorem lw_p13 : lw_okq (⟨"PrinterHouse$Sheaf", "putRun", "(II)V"⟩, 10) := ⟨⟨by decide +kernel, by decide +kernel⟩, List.mem_of_getElem? (i := 31) (by decide +kernel), List.mem_of_getElem? (i := 947) (by decide +kernel), List.mem_of_getElem? (i := 948) (by decide +kernel)⟩
theorem lw_p14 : lw_okq (⟨"PrinterHouse$Sheaf", "writeDirectory", "(IIII)V"⟩, 10) := ⟨⟨by decide +kernel, by decide +kernel⟩, List.mem_of_getElem? (i := 31) (by decide +kernel), List.mem_of_getElem? (i := 953) (by decide +kernel), List.mem_of_getElem? (i := 954) (by decide +kernel)⟩
theorem lw_p15 : lw_okq (⟨"PrinterHouse$Sheaf", "setNumber", "(II)V"⟩, 10) := ⟨⟨by decide +kernel, by decide +kernel⟩, List.mem_of_getElem? (i := 31) (by decide +kernel), List.mem_of_getElem? (i := 957) (by decide +kernel), List.mem_of_getElem? (i := 958) (by decide +kernel)⟩
def lw_privs_1 : List (MethodName × Nat) := [(⟨"PrinterHouse$Fonts", "setHead", "(IIIIII)V"⟩, 10), (⟨"PrinterHouse", "feedNumber", "(I)V"⟩, 12), (⟨"PrinterHouse$Streams", "goThrough", "([BII)V"⟩, 19), (⟨"PrinterHouse$Streams", "pass", "(I)Z"⟩, 19), (⟨"PrinterHouse$Streams", "other", "(I)V"⟩, 19), (⟨"PrinterHouse$Streams", "line", "(I)V"⟩, 19), (⟨"PrinterHouse$Streams", "form", "()V"⟩, 19), (⟨"PrinterHouse$Streams", "eject", "()V"⟩, 19), (⟨"PrinterHouse$Streams", "goMacro", "(I)V"⟩, 19), (⟨"PrinterHouse$Sheaf", "putNumber", "(II)V"⟩, 10), (⟨"PrinterHouse$Sheaf", "putByte", "(I)V"⟩, 10), (⟨"PrinterHouse$Sheaf", "writeRow", "([III)V"⟩, 10), (⟨"PrinterHouse$Sheaf", "putBits", "(II)V"⟩, 10), (⟨"PrinterHouse$Sheaf", "putRun", "(II)V"⟩, 10), (⟨"PrinterHouse$Sheaf", "writeDirectory", "(IIII)V"⟩, 10), (⟨"PrinterHouse$Sheaf", "setNumber", "(II)V"⟩, 10)]
theorem lw_r1 : ∀ q ∈ lw_privs_1, lw_okq q := List.forall_mem_cons.mpr ⟨lw_p0, List.forall_mem_cons.mpr ⟨lw_p1, List.forall_mem_cons.mpr ⟨lw_p2, List.forall_mem_cons.mpr ⟨lw_p3, List.forall_mem_cons.mpr ⟨lw_p4, List.forall_mem_cons.mpr ⟨lw_p5, List.forall_mem_cons.mpr ⟨lw_p6, List.forall_mem_cons.mpr ⟨lw_p7, List.forall_mem_cons.mpr ⟨lw_p8, List.forall_mem_cons.mpr ⟨lw_p9, List.forall_mem_cons.mpr ⟨lw_p10, List.forall_mem_cons.mpr ⟨lw_p11, List.forall_mem_cons.mpr ⟨lw_p12, List.forall_mem_cons.mpr ⟨lw_p13, List.forall_mem_cons.mpr ⟨lw_p14, List.forall_mem_cons.mpr ⟨lw_p15, fun _ h => absurd h List.not_mem_nil⟩⟩⟩⟩⟩⟩⟩⟩⟩⟩⟩⟩⟩⟩⟩⟩
theorem lw_p16 : lw_okq (⟨"PrinterHouse$Sheaf", "putEntry", "(III)V"⟩, 10) := ⟨⟨by decide +kernel, by decide +kernel⟩, List.mem_of_getElem? (i := 31) (by decide +kernel), List.mem_of_getElem? (i := 961) (by decide +kernel), List.mem_of_getElem? (i := 962) (by decide +kernel)⟩
theorem lw_p17 : lw_okq (⟨"PrinterHouse$Streams", "endWithReturn", "()V"⟩, 19) := ⟨⟨by decide +kernel, by decide +kernel⟩, List.mem_of_getElem? (i := 81) (by decide +kernel), List.mem_of_getElem? (i := 967) (by decide +kernel), List.mem_of_getElem? (i := 968) (by decide +kernel)⟩
theorem lw_p18 : lw_okq (⟨"PrinterHouse$Streams", "carriageReturn", "()V"⟩, 19) := ⟨⟨by decide +kernel, by decide +kernel⟩, List.mem_of_getElem? (i := 81) (by decide +kernel), List.mem_of_getElem? (i := 971) (by decide +kernel), List.mem_of_getElem? (i := 972) (by decide +kernel)⟩
theorem lw_p19 : lw_okq (⟨"PrinterHouse$Streams", "followPitch", "()V"⟩, 19) := ⟨⟨by decide +kernel, by decide +kernel⟩, List.mem_of_getElem? (i := 81) (by decide +kernel), List.mem_of_getElem? (i := 975) (by decide +kernel), List.mem_of_getElem? (i := 976) (by decide +kernel)⟩
theorem lw_p20 : lw_okq (⟨"PrinterHouse$Fonts", "choose", "()I"⟩, 10) := ⟨⟨by decide +kernel, by decide +kernel⟩, List.mem_of_getElem? (i := 165) (by decide +kernel), List.mem_of_getElem? (i := 992) (by decide +kernel), List.mem_of_getElem? (i := 993) (by decide +kernel)⟩
theorem lw_p21 : lw_okq (⟨"PrinterHouse$Fonts", "alike", "(III)I"⟩, 10) := ⟨⟨by decide +kernel, by decide +kernel⟩, List.mem_of_getElem? (i := 165) (by decide +kernel), List.mem_of_getElem? (i := 997) (by decide +kernel), List.mem_of_getElem? (i := 998) (by decide +kernel)⟩
theorem lw_p22 : lw_okq (⟨"PrinterHouse$Fonts", "nearest", "(II)I"⟩, 10) := ⟨⟨by decide +kernel, by decide +kernel⟩, List.mem_of_getElem? (i := 165) (by decide +kernel), List.mem_of_getElem? (i := 1001) (by decide +kernel), List.mem_of_getElem? (i := 1002) (by decide +kernel)⟩
theorem lw_p23 : lw_okq (⟨"PrinterHouse$Streams", "beginSequence", "()V"⟩, 19) := ⟨⟨by decide +kernel, by decide +kernel⟩, List.mem_of_getElem? (i := 81) (by decide +kernel), List.mem_of_getElem? (i := 1013) (by decide +kernel), List.mem_of_getElem? (i := 1014) (by decide +kernel)⟩
theorem lw_p24 : lw_okq (⟨"PrinterHouse$Streams", "twoBytes", "(I)V"⟩, 19) := ⟨⟨by decide +kernel, by decide +kernel⟩, List.mem_of_getElem? (i := 81) (by decide +kernel), List.mem_of_getElem? (i := 1017) (by decide +kernel), List.mem_of_getElem? (i := 1018) (by decide +kernel)⟩
theorem lw_p25 : lw_okq (⟨"PrinterHouse$Streams", "reset", "()V"⟩, 19) := ⟨⟨by decide +kernel, by decide +kernel⟩, List.mem_of_getElem? (i := 81) (by decide +kernel), List.mem_of_getElem? (i := 1021) (by decide +kernel), List.mem_of_getElem? (i := 1022) (by decide +kernel)⟩
theorem lw_p26 : lw_okq (⟨"PrinterHouse$Streams", "showAll", "()V"⟩, 19) := ⟨⟨by decide +kernel, by decide +kernel⟩, List.mem_of_getElem? (i := 81) (by decide +kernel), List.mem_of_getElem? (i := 1055) (by decide +kernel), List.mem_of_getElem? (i := 1056) (by decide +kernel)⟩
theorem lw_p27 : lw_okq (⟨"PrinterHouse$Streams", "passEach", "(I)Z"⟩, 19) := ⟨⟨by decide +kernel, by decide +kernel⟩, List.mem_of_getElem? (i := 81) (by decide +kernel), List.mem_of_getElem? (i := 1060) (by decide +kernel), List.mem_of_getElem? (i := 1061) (by decide +kernel)⟩
theorem lw_p28 : lw_okq (⟨"PrinterHouse$Streams", "show", "(I)V"⟩, 19) := ⟨⟨by decide +kernel, by decide +kernel⟩, List.mem_of_getElem? (i := 81) (by decide +kernel), List.mem_of_getElem? (i := 1064) (by decide +kernel), List.mem_of_getElem? (i := 1065) (by decide +kernel)⟩
theorem lw_p29 : lw_okq (⟨"PrinterHouse$Streams", "advance", "(II)I"⟩, 19) := ⟨⟨by decide +kernel, by decide +kernel⟩, List.mem_of_getElem? (i := 81) (by decide +kernel), List.mem_of_getElem? (i := 1072) (by decide +kernel), List.mem_of_getElem? (i := 1073) (by decide +kernel)⟩
theorem lw_p30 : lw_okq (⟨"PrinterHouse$Streams", "markGlyph", "(I)V"⟩, 19) := ⟨⟨by decide +kernel, by decide +kernel⟩, List.mem_of_getElem? (i := 81) (by decide +kernel), List.mem_of_getElem? (i := 1081) (by decide +kernel), List.mem_of_getElem? (i := 1082) (by decide +kernel)⟩
theorem lw_p31 : lw_okq (⟨"PrinterHouse$Streams", "readField", "()Z"⟩, 19) := ⟨⟨by decide +kernel, by decide +kernel⟩, List.mem_of_getElem? (i := 81) (by decide +kernel), List.mem_of_getElem? (i := 1126) (by decide +kernel), List.mem_of_getElem? (i := 1127) (by decide +kernel)⟩
def lw_privs_2 : List (MethodName × Nat) := [(⟨"PrinterHouse$Sheaf", "putEntry", "(III)V"⟩, 10), (⟨"PrinterHouse$Streams", "endWithReturn", "()V"⟩, 19), (⟨"PrinterHouse$Streams", "carriageReturn", "()V"⟩, 19), (⟨"PrinterHouse$Streams", "followPitch", "()V"⟩, 19), (⟨"PrinterHouse$Fonts", "choose", "()I"⟩, 10), (⟨"PrinterHouse$Fonts", "alike", "(III)I"⟩, 10), (⟨"PrinterHouse$Fonts", "nearest", "(II)I"⟩, 10), (⟨"PrinterHouse$Streams", "beginSequence", "()V"⟩, 19), (⟨"PrinterHouse$Streams", "twoBytes", "(I)V"⟩, 19), (⟨"PrinterHouse$Streams", "reset", "()V"⟩, 19), (⟨"PrinterHouse$Streams", "showAll", "()V"⟩, 19), (⟨"PrinterHouse$Streams", "passEach", "(I)Z"⟩, 19), (⟨"PrinterHouse$Streams", "show", "(I)V"⟩, 19), (⟨"PrinterHouse$Streams", "advance", "(II)I"⟩, 19), (⟨"PrinterHouse$Streams", "markGlyph", "(I)V"⟩, 19), (⟨"PrinterHouse$Streams", "readField", "()Z"⟩, 19)]
theorem lw_r2 : ∀ q ∈ lw_privs_2, lw_okq q := List.forall_mem_cons.mpr ⟨lw_p16, List.forall_mem_cons.mpr ⟨lw_p17, List.forall_mem_cons.mpr ⟨lw_p18, List.forall_mem_cons.mpr ⟨lw_p19, List.forall_mem_cons.mpr ⟨lw_p20, List.forall_mem_cons.mpr ⟨lw_p21, List.forall_mem_cons.mpr ⟨lw_p22, List.forall_mem_cons.mpr ⟨lw_p23, List.forall_mem_cons.mpr ⟨lw_p24, List.forall_mem_cons.mpr ⟨lw_p25, List.forall_mem_cons.mpr ⟨lw_p26, List.forall_mem_cons.mpr ⟨lw_p27, List.forall_mem_cons.mpr ⟨lw_p28, List.forall_mem_cons.mpr ⟨lw_p29, List.forall_mem_cons.mpr ⟨lw_p30, List.forall_mem_cons.mpr ⟨lw_p31, fun _ h => absurd h List.not_mem_nil⟩⟩⟩⟩⟩⟩⟩⟩⟩⟩⟩⟩⟩⟩⟩⟩
theorem lw_p32 : lw_okq (⟨"PrinterHouse$Reading", "isDigit", "(I)Z"⟩, 13) := ⟨⟨by decide +kernel, by decide +kernel⟩, List.mem_of_getElem? (i := 432) (by decide +kernel), List.mem_of_getElem? (i := 1134) (by decide +kernel), List.mem_of_getElem? (i := 1135) (by decide +kernel)⟩
theorem lw_p33 : lw_okq (⟨"PrinterHouse$Streams", "obey", "()V"⟩, 19) := ⟨⟨by decide +kernel, by decide +kernel⟩, List.mem_of_getElem? (i := 81) (by decide +kernel), List.mem_of_getElem? (i := 1144) (by decide +kernel), List.mem_of_getElem? (i := 1145) (by decide +kernel)⟩
theorem lw_p34 : lw_okq (⟨"PrinterHouse$Streams", "pageField", "(I)V"⟩, 19) := ⟨⟨by decide +kernel, by decide +kernel⟩, List.mem_of_getElem? (i := 81) (by decide +kernel), List.mem_of_getElem? (i := 1148) (by decide +kernel), List.mem_of_getElem? (i := 1149) (by decide +kernel)⟩
theorem lw_p35 : lw_okq (⟨"PrinterHouse$Streams", "spacing", "(II)I"⟩, 19) := ⟨⟨by decide +kernel, by decide +kernel⟩, List.mem_of_getElem? (i := 81) (by decide +kernel), List.mem_of_getElem? (i := 1154) (by decide +kernel), List.mem_of_getElem? (i := 1155) (by decide +kernel)⟩
theorem lw_p36 : lw_okq (⟨"PrinterHouse$Streams", "placeField", "(I)V"⟩, 19) := ⟨⟨by decide +kernel, by decide +kernel⟩, List.mem_of_getElem? (i := 81) (by decide +kernel), List.mem_of_getElem? (i := 1176) (by decide +kernel), List.mem_of_getElem? (i := 1177) (by decide +kernel)⟩
theorem lw_p37 : lw_okq (⟨"PrinterHouse$Streams", "moveAcross", "(J)V"⟩, 19) := ⟨⟨by decide +kernel, by decide +kernel⟩, List.mem_of_getElem? (i := 81) (by decide +kernel), List.mem_of_getElem? (i := 1180) (by decide +kernel), List.mem_of_getElem? (i := 1181) (by decide +kernel)⟩
theorem lw_p38 : lw_okq (⟨"PrinterHouse$Streams", "moveDown", "(JI)V"⟩, 19) := ⟨⟨by decide +kernel, by decide +kernel⟩, List.mem_of_getElem? (i := 81) (by decide +kernel), List.mem_of_getElem? (i := 1184) (by decide +kernel), List.mem_of_getElem? (i := 1185) (by decide +kernel)⟩
theorem lw_p39 : lw_okq (⟨"PrinterHouse$Streams", "spaceField", "(I)V"⟩, 19) := ⟨⟨by decide +kernel, by decide +kernel⟩, List.mem_of_getElem? (i := 81) (by decide +kernel), List.mem_of_getElem? (i := 1196) (by decide +kernel), List.mem_of_getElem? (i := 1197) (by decide +kernel)⟩
theorem lw_p40 : lw_okq (⟨"PrinterHouse$Streams", "wrapField", "(I)V"⟩, 19) := ⟨⟨by decide +kernel, by decide +kernel⟩, List.mem_of_getElem? (i := 81) (by decide +kernel), List.mem_of_getElem? (i := 1200) (by decide +kernel), List.mem_of_getElem? (i := 1201) (by decide +kernel)⟩
theorem lw_p41 : lw_okq (⟨"PrinterHouse$Streams", "macroField", "(I)V"⟩, 19) := ⟨⟨by decide +kernel, by decide +kernel⟩, List.mem_of_getElem? (i := 81) (by decide +kernel), List.mem_of_getElem? (i := 1204) (by decide +kernel), List.mem_of_getElem? (i := 1205) (by decide +kernel)⟩
theorem lw_p42 : lw_okq (⟨"PrinterHouse$Streams", "macroTask", "(I)V"⟩, 19) := ⟨⟨by decide +kernel, by decide +kernel⟩, List.mem_of_getElem? (i := 81) (by decide +kernel), List.mem_of_getElem? (i := 1216) (by decide +kernel), List.mem_of_getElem? (i := 1217) (by decide +kernel)⟩
theorem lw_p43 : lw_okq (⟨"PrinterHouse$Streams", "tellMacro", "(I)V"⟩, 19) := ⟨⟨by decide +kernel, by decide +kernel⟩, List.mem_of_getElem? (i := 81) (by decide +kernel), List.mem_of_getElem? (i := 1220) (by decide +kernel), List.mem_of_getElem? (i := 1221) (by decide +kernel)⟩
theorem lw_p44 : lw_okq (⟨"PrinterHouse$Streams", "isMacroEnd", "(I)Z"⟩, 19) := ⟨⟨by decide +kernel, by decide +kernel⟩, List.mem_of_getElem? (i := 81) (by decide +kernel), List.mem_of_getElem? (i := 1224) (by decide +kernel), List.mem_of_getElem? (i := 1225) (by decide +kernel)⟩
theorem lw_p45 : lw_okq (⟨"PrinterHouse$Streams", "callMacro", "(I)V"⟩, 19) := ⟨⟨by decide +kernel, by decide +kernel⟩, List.mem_of_getElem? (i := 81) (by decide +kernel), List.mem_of_getElem? (i := 1233) (by decide +kernel), List.mem_of_getElem? (i := 1234) (by decide +kernel)⟩
theorem lw_p46 : lw_okq (⟨"PrinterHouse$Streams", "showData", "()V"⟩, 19) := ⟨⟨by decide +kernel, by decide +kernel⟩, List.mem_of_getElem? (i := 81) (by decide +kernel), List.mem_of_getElem? (i := 1242) (by decide +kernel), List.mem_of_getElem? (i := 1243) (by decide +kernel)⟩
theorem lw_p47 : lw_okq (⟨"PrinterHouse$Streams", "dotPlaceField", "()V"⟩, 19) := ⟨⟨by decide +kernel, by decide +kernel⟩, List.mem_of_getElem? (i := 81) (by decide +kernel), List.mem_of_getElem? (i := 1250) (by decide +kernel), List.mem_of_getElem? (i := 1251) (by decide +kernel)⟩
def lw_privs_3 : List (MethodName × Nat) := [(⟨"PrinterHouse$Reading", "isDigit", "(I)Z"⟩, 13), (⟨"PrinterHouse$Streams", "obey", "()V"⟩, 19), (⟨"PrinterHouse$Streams", "pageField", "(I)V"⟩, 19), (⟨"PrinterHouse$Streams", "spacing", "(II)I"⟩, 19), (⟨"PrinterHouse$Streams", "placeField", "(I)V"⟩, 19), (⟨"PrinterHouse$Streams", "moveAcross", "(J)V"⟩, 19), (⟨"PrinterHouse$Streams", "moveDown", "(JI)V"⟩, 19), (⟨"PrinterHouse$Streams", "spaceField", "(I)V"⟩, 19), (⟨"PrinterHouse$Streams", "wrapField", "(I)V"⟩, 19), (⟨"PrinterHouse$Streams", "macroField", "(I)V"⟩, 19), (⟨"PrinterHouse$Streams", "macroTask", "(I)V"⟩, 19), (⟨"PrinterHouse$Streams", "tellMacro", "(I)V"⟩, 19), (⟨"PrinterHouse$Streams", "isMacroEnd", "(I)Z"⟩, 19), (⟨"PrinterHouse$Streams", "callMacro", "(I)V"⟩, 19), (⟨"PrinterHouse$Streams", "showData", "()V"⟩, 19), (⟨"PrinterHouse$Streams", "dotPlaceField", "()V"⟩, 19)]
theorem lw_r3 : ∀ q ∈ lw_privs_3, lw_okq q := List.forall_mem_cons.mpr ⟨lw_p32, List.forall_mem_cons.mpr ⟨lw_p33, List.forall_mem_cons.mpr ⟨lw_p34, List.forall_mem_cons.mpr ⟨lw_p35, List.forall_mem_cons.mpr ⟨lw_p36, List.forall_mem_cons.mpr ⟨lw_p37, List.forall_mem_cons.mpr ⟨lw_p38, List.forall_mem_cons.mpr ⟨lw_p39, List.forall_mem_cons.mpr ⟨lw_p40, List.forall_mem_cons.mpr ⟨lw_p41, List.forall_mem_cons.mpr ⟨lw_p42, List.forall_mem_cons.mpr ⟨lw_p43, List.forall_mem_cons.mpr ⟨lw_p44, List.forall_mem_cons.mpr ⟨lw_p45, List.forall_mem_cons.mpr ⟨lw_p46, List.forall_mem_cons.mpr ⟨lw_p47, fun _ h => absurd h List.not_mem_nil⟩⟩⟩⟩⟩⟩⟩⟩⟩⟩⟩⟩⟩⟩⟩⟩
theorem lw_p48 : lw_okq (⟨"PrinterHouse$Streams", "controlField", "(I)V"⟩, 19) := ⟨⟨by decide +kernel, by decide +kernel⟩, List.mem_of_getElem? (i := 81) (by decide +kernel), List.mem_of_getElem? (i := 1254) (by decide +kernel), List.mem_of_getElem? (i := 1255) (by decide +kernel)⟩
theorem lw_p49 : lw_okq (⟨"PrinterHouse$Streams", "fontTask", "(I)V"⟩, 19) := ⟨⟨by decide +kernel, by decide +kernel⟩, List.mem_of_getElem? (i := 81) (by decide +kernel), List.mem_of_getElem? (i := 1258) (by decide +kernel), List.mem_of_getElem? (i := 1259) (by decide +kernel)⟩
theorem lw_p50 : lw_okq (⟨"PrinterHouse$Streams", "tellTile", "(I)V"⟩, 19) := ⟨⟨by decide +kernel, by decide +kernel⟩, List.mem_of_getElem? (i := 81) (by decide +kernel), List.mem_of_getElem? (i := 1264) (by decide +kernel), List.mem_of_getElem? (i := 1265) (by decide +kernel)⟩
theorem lw_p51 : lw_okq (⟨"PrinterHouse$Streams", "tileTask", "(I)V"⟩, 19) := ⟨⟨by decide +kernel, by decide +kernel⟩, List.mem_of_getElem? (i := 81) (by decide +kernel), List.mem_of_getElem? (i := 1270) (by decide +kernel), List.mem_of_getElem? (i := 1271) (by decide +kernel)⟩
theorem lw_p52 : lw_okq (⟨"PrinterHouse$Streams", "boxSide", "(I)I"⟩, 19) := ⟨⟨by decide +kernel, by decide +kernel⟩, List.mem_of_getElem? (i := 81) (by decide +kernel), List.mem_of_getElem? (i := 1274) (by decide +kernel), List.mem_of_getElem? (i := 1275) (by decide +kernel)⟩
theorem lw_p53 : lw_okq (⟨"PrinterHouse$Streams", "box", "(I)V"⟩, 19) := ⟨⟨by decide +kernel, by decide +kernel⟩, List.mem_of_getElem? (i := 81) (by decide +kernel), List.mem_of_getElem? (i := 1279) (by decide +kernel), List.mem_of_getElem? (i := 1280) (by decide +kernel)⟩
theorem lw_p54 : lw_okq (⟨"PrinterHouse$Streams", "setTile", "(LPrinterHouse$Tile;I)Z"⟩, 19) := ⟨⟨by decide +kernel, by decide +kernel⟩, List.mem_of_getElem? (i := 81) (by decide +kernel), List.mem_of_getElem? (i := 1283) (by decide +kernel), List.mem_of_getElem? (i := 1284) (by decide +kernel)⟩
theorem lw_p55 : lw_okq (⟨"PrinterHouse$Streams", "markBox", "(IIIILPrinterHouse$Tile;)V"⟩, 19) := ⟨⟨by decide +kernel, by decide +kernel⟩, List.mem_of_getElem? (i := 81) (by decide +kernel), List.mem_of_getElem? (i := 1310) (by decide +kernel), List.mem_of_getElem? (i := 1311) (by decide +kernel)⟩
theorem lw_p56 : lw_okq (⟨"PrinterHouse$Streams", "inkField", "(I)V"⟩, 19) := ⟨⟨by decide +kernel, by decide +kernel⟩, List.mem_of_getElem? (i := 81) (by decide +kernel), List.mem_of_getElem? (i := 1314) (by decide +kernel), List.mem_of_getElem? (i := 1315) (by decide +kernel)⟩
theorem lw_p57 : lw_okq (⟨"PrinterHouse$Streams", "scaleField", "(I)V"⟩, 19) := ⟨⟨by decide +kernel, by decide +kernel⟩, List.mem_of_getElem? (i := 81) (by decide +kernel), List.mem_of_getElem? (i := 1318) (by decide +kernel), List.mem_of_getElem? (i := 1319) (by decide +kernel)⟩
theorem lw_p58 : lw_okq (⟨"PrinterHouse$Streams", "rasterField", "(I)V"⟩, 19) := ⟨⟨by decide +kernel, by decide +kernel⟩, List.mem_of_getElem? (i := 81) (by decide +kernel), List.mem_of_getElem? (i := 1322) (by decide +kernel), List.mem_of_getElem? (i := 1323) (by decide +kernel)⟩
theorem lw_p59 : lw_okq (⟨"PrinterHouse$Streams", "beginRaster", "(I)V"⟩, 19) := ⟨⟨by decide +kernel, by decide +kernel⟩, List.mem_of_getElem? (i := 81) (by decide +kernel), List.mem_of_getElem? (i := 1326) (by decide +kernel), List.mem_of_getElem? (i := 1327) (by decide +kernel)⟩
theorem lw_p60 : lw_okq (⟨"PrinterHouse$Streams", "rowField", "(I)V"⟩, 19) := ⟨⟨by decide +kernel, by decide +kernel⟩, List.mem_of_getElem? (i := 81) (by decide +kernel), List.mem_of_getElem? (i := 1335) (by decide +kernel), List.mem_of_getElem? (i := 1336) (by decide +kernel)⟩
theorem lw_p61 : lw_okq (⟨"PrinterHouse$Streams", "growRows", "(I)V"⟩, 19) := ⟨⟨by decide +kernel, by decide +kernel⟩, List.mem_of_getElem? (i := 81) (by decide +kernel), List.mem_of_getElem? (i := 1340) (by decide +kernel), List.mem_of_getElem? (i := 1341) (by decide +kernel)⟩
theorem lw_p62 : lw_okq (⟨"PrinterHouse$Streams", "rasterRow", "()V"⟩, 19) := ⟨⟨by decide +kernel, by decide +kernel⟩, List.mem_of_getElem? (i := 81) (by decide +kernel), List.mem_of_getElem? (i := 1344) (by decide +kernel), List.mem_of_getElem? (i := 1345) (by decide +kernel)⟩
theorem lw_p63 : lw_okq (⟨"PrinterHouse$Raster", "unpackPairs", "(LPrinterHouse$Reading;)V"⟩, 8) := ⟨⟨by decide +kernel, by decide +kernel⟩, List.mem_of_getElem? (i := 298) (by decide +kernel), List.mem_of_getElem? (i := 1356) (by decide +kernel), List.mem_of_getElem? (i := 1357) (by decide +kernel)⟩
def lw_privs_4 : List (MethodName × Nat) := [(⟨"PrinterHouse$Streams", "controlField", "(I)V"⟩, 19), (⟨"PrinterHouse$Streams", "fontTask", "(I)V"⟩, 19), (⟨"PrinterHouse$Streams", "tellTile", "(I)V"⟩, 19), (⟨"PrinterHouse$Streams", "tileTask", "(I)V"⟩, 19), (⟨"PrinterHouse$Streams", "boxSide", "(I)I"⟩, 19), (⟨"PrinterHouse$Streams", "box", "(I)V"⟩, 19), (⟨"PrinterHouse$Streams", "setTile", "(LPrinterHouse$Tile;I)Z"⟩, 19), (⟨"PrinterHouse$Streams", "markBox", "(IIIILPrinterHouse$Tile;)V"⟩, 19), (⟨"PrinterHouse$Streams", "inkField", "(I)V"⟩, 19), (⟨"PrinterHouse$Streams", "scaleField", "(I)V"⟩, 19), (⟨"PrinterHouse$Streams", "rasterField", "(I)V"⟩, 19), (⟨"PrinterHouse$Streams", "beginRaster", "(I)V"⟩, 19), (⟨"PrinterHouse$Streams", "rowField", "(I)V"⟩, 19), (⟨"PrinterHouse$Streams", "growRows", "(I)V"⟩, 19), (⟨"PrinterHouse$Streams", "rasterRow", "()V"⟩, 19), (⟨"PrinterHouse$Raster", "unpackPairs", "(LPrinterHouse$Reading;)V"⟩, 8)]
theorem lw_r4 : ∀ q ∈ lw_privs_4, lw_okq q := List.forall_mem_cons.mpr ⟨lw_p48, List.forall_mem_cons.mpr ⟨lw_p49, List.forall_mem_cons.mpr ⟨lw_p50, List.forall_mem_cons.mpr ⟨lw_p51, List.forall_mem_cons.mpr ⟨lw_p52, List.forall_mem_cons.mpr ⟨lw_p53, List.forall_mem_cons.mpr ⟨lw_p54, List.forall_mem_cons.mpr ⟨lw_p55, List.forall_mem_cons.mpr ⟨lw_p56, List.forall_mem_cons.mpr ⟨lw_p57, List.forall_mem_cons.mpr ⟨lw_p58, List.forall_mem_cons.mpr ⟨lw_p59, List.forall_mem_cons.mpr ⟨lw_p60, List.forall_mem_cons.mpr ⟨lw_p61, List.forall_mem_cons.mpr ⟨lw_p62, List.forall_mem_cons.mpr ⟨lw_p63, fun _ h => absurd h List.not_mem_nil⟩⟩⟩⟩⟩⟩⟩⟩⟩⟩⟩⟩⟩⟩⟩⟩
theorem lw_p64 : lw_okq (⟨"PrinterHouse$Raster", "put", "(III)V"⟩, 8) := ⟨⟨by decide +kernel, by decide +kernel⟩, List.mem_of_getElem? (i := 298) (by decide +kernel), List.mem_of_getElem? (i := 1361) (by decide +kernel), List.mem_of_getElem? (i := 1362) (by decide +kernel)⟩
theorem lw_p65 : lw_okq (⟨"PrinterHouse$Raster", "unpackMixed", "(LPrinterHouse$Reading;)V"⟩, 8) := ⟨⟨by decide +kernel, by decide +kernel⟩, List.mem_of_getElem? (i := 298) (by decide +kernel), List.mem_of_getElem? (i := 1365) (by decide +kernel), List.mem_of_getElem? (i := 1366) (by decide +kernel)⟩
theorem lw_p66 : lw_okq (⟨"PrinterHouse$Raster", "unpackChanges", "(LPrinterHouse$Reading;)V"⟩, 8) := ⟨⟨by decide +kernel, by decide +kernel⟩, List.mem_of_getElem? (i := 298) (by decide +kernel), List.mem_of_getElem? (i := 1369) (by decide +kernel), List.mem_of_getElem? (i := 1370) (by decide +kernel)⟩
theorem lw_p67 : lw_okq (⟨"PrinterHouse$Streams", "obeyFont", "()V"⟩, 19) := ⟨⟨by decide +kernel, by decide +kernel⟩, List.mem_of_getElem? (i := 81) (by decide +kernel), List.mem_of_getElem? (i := 1388) (by decide +kernel), List.mem_of_getElem? (i := 1389) (by decide +kernel)⟩
theorem lw_p68 : lw_okq (⟨"PrinterHouse$Streams", "fontField", "([II)Z"⟩, 19) := ⟨⟨by decide +kernel, by decide +kernel⟩, List.mem_of_getElem? (i := 81) (by decide +kernel), List.mem_of_getElem? (i := 1392) (by decide +kernel), List.mem_of_getElem? (i := 1393) (by decide +kernel)⟩
theorem lw_p69 : lw_okq (⟨"PrinterHouse$Streams", "styleField", "([II)Z"⟩, 19) := ⟨⟨by decide +kernel, by decide +kernel⟩, List.mem_of_getElem? (i := 81) (by decide +kernel), List.mem_of_getElem? (i := 1403) (by decide +kernel), List.mem_of_getElem? (i := 1404) (by decide +kernel)⟩
theorem lw_p70 : lw_okq (⟨"PrinterHouse$Streams", "wishPitch", "([I)Z"⟩, 19) := ⟨⟨by decide +kernel, by decide +kernel⟩, List.mem_of_getElem? (i := 81) (by decide +kernel), List.mem_of_getElem? (i := 1407) (by decide +kernel), List.mem_of_getElem? (i := 1408) (by decide +kernel)⟩
theorem lw_p71 : lw_okq (⟨"PrinterHouse$Fonts", "slotFor", "(II)I"⟩, 10) := ⟨⟨by decide +kernel, by decide +kernel⟩, List.mem_of_getElem? (i := 165) (by decide +kernel), List.mem_of_getElem? (i := 1424) (by decide +kernel), List.mem_of_getElem? (i := 1425) (by decide +kernel)⟩
theorem lw_p72 : lw_okq (⟨"PrinterHouse$Fonts", "setNumber", "(III)V"⟩, 10) := ⟨⟨by decide +kernel, by decide +kernel⟩, List.mem_of_getElem? (i := 165) (by decide +kernel), List.mem_of_getElem? (i := 1433) (by decide +kernel), List.mem_of_getElem? (i := 1434) (by decide +kernel)⟩
theorem lw_p73 : lw_okq (⟨"PrinterHouse$Streams", "keepStates", "()V"⟩, 19) := ⟨⟨by decide +kernel, by decide +kernel⟩, List.mem_of_getElem? (i := 81) (by decide +kernel), List.mem_of_getElem? (i := 1437) (by decide +kernel), List.mem_of_getElem? (i := 1438) (by decide +kernel)⟩
theorem lw_p74 : lw_okq (⟨"PrinterHouse$Pictures", "readHeader", "()V"⟩, 21) := ⟨⟨by decide +kernel, by decide +kernel⟩, List.mem_of_getElem? (i := 545) (by decide +kernel), List.mem_of_getElem? (i := 1446) (by decide +kernel), List.mem_of_getElem? (i := 1447) (by decide +kernel)⟩
theorem lw_p75 : lw_okq (⟨"PrinterHouse$Pictures", "byteAt", "(J)I"⟩, 21) := ⟨⟨by decide +kernel, by decide +kernel⟩, List.mem_of_getElem? (i := 545) (by decide +kernel), List.mem_of_getElem? (i := 1450) (by decide +kernel), List.mem_of_getElem? (i := 1451) (by decide +kernel)⟩
theorem lw_p76 : lw_okq (⟨"PrinterHouse$Pictures", "fail", "(IJ)V"⟩, 21) := ⟨⟨by decide +kernel, by decide +kernel⟩, List.mem_of_getElem? (i := 545) (by decide +kernel), List.mem_of_getElem? (i := 1454) (by decide +kernel), List.mem_of_getElem? (i := 1455) (by decide +kernel)⟩
theorem lw_p77 : lw_okq (⟨"PrinterHouse$Pictures", "number", "(JI)J"⟩, 21) := ⟨⟨by decide +kernel, by decide +kernel⟩, List.mem_of_getElem? (i := 545) (by decide +kernel), List.mem_of_getElem? (i := 1460) (by decide +kernel), List.mem_of_getElem? (i := 1461) (by decide +kernel)⟩
theorem lw_p78 : lw_okq (⟨"PrinterHouse$Pictures", "readDirectory", "(J)J"⟩, 21) := ⟨⟨by decide +kernel, by decide +kernel⟩, List.mem_of_getElem? (i := 545) (by decide +kernel), List.mem_of_getElem? (i := 1464) (by decide +kernel), List.mem_of_getElem? (i := 1465) (by decide +kernel)⟩
theorem lw_p79 : lw_okq (⟨"PrinterHouse$Pictures", "isDirectory", "(JI)Z"⟩, 21) := ⟨⟨by decide +kernel, by decide +kernel⟩, List.mem_of_getElem? (i := 545) (by decide +kernel), List.mem_of_getElem? (i := 1470) (by decide +kernel), List.mem_of_getElem? (i := 1471) (by decide +kernel)⟩
def lw_privs_5 : List (MethodName × Nat) := [(⟨"PrinterHouse$Raster", "put", "(III)V"⟩, 8), (⟨"PrinterHouse$Raster", "unpackMixed", "(LPrinterHouse$Reading;)V"⟩, 8), (⟨"PrinterHouse$Raster", "unpackChanges", "(LPrinterHouse$Reading;)V"⟩, 8), (⟨"PrinterHouse$Streams", "obeyFont", "()V"⟩, 19), (⟨"PrinterHouse$Streams", "fontField", "([II)Z"⟩, 19), (⟨"PrinterHouse$Streams", "styleField", "([II)Z"⟩, 19), (⟨"PrinterHouse$Streams", "wishPitch", "([I)Z"⟩, 19), (⟨"PrinterHouse$Fonts", "slotFor", "(II)I"⟩, 10), (⟨"PrinterHouse$Fonts", "setNumber", "(III)V"⟩, 10), (⟨"PrinterHouse$Streams", "keepStates", "()V"⟩, 19), (⟨"PrinterHouse$Pictures", "readHeader", "()V"⟩, 21), (⟨"PrinterHouse$Pictures", "byteAt", "(J)I"⟩, 21), (⟨"PrinterHouse$Pictures", "fail", "(IJ)V"⟩, 21), (⟨"PrinterHouse$Pictures", "number", "(JI)J"⟩, 21), (⟨"PrinterHouse$Pictures", "readDirectory", "(J)J"⟩, 21), (⟨"PrinterHouse$Pictures", "isDirectory", "(JI)Z"⟩, 21)]
theorem lw_r5 : ∀ q ∈ lw_privs_5, lw_okq q := List.forall_mem_cons.mpr ⟨lw_p64, List.forall_mem_cons.mpr ⟨lw_p65, List.forall_mem_cons.mpr ⟨lw_p66, List.forall_mem_cons.mpr ⟨lw_p67, List.forall_mem_cons.mpr ⟨lw_p68, List.forall_mem_cons.mpr ⟨lw_p69, List.forall_mem_cons.mpr ⟨lw_p70, List.forall_mem_cons.mpr ⟨lw_p71, List.forall_mem_cons.mpr ⟨lw_p72, List.forall_mem_cons.mpr ⟨lw_p73, List.forall_mem_cons.mpr ⟨lw_p74, List.forall_mem_cons.mpr ⟨lw_p75, List.forall_mem_cons.mpr ⟨lw_p76, List.forall_mem_cons.mpr ⟨lw_p77, List.forall_mem_cons.mpr ⟨lw_p78, List.forall_mem_cons.mpr ⟨lw_p79, fun _ h => absurd h List.not_mem_nil⟩⟩⟩⟩⟩⟩⟩⟩⟩⟩⟩⟩⟩⟩⟩⟩
theorem lw_p80 : lw_okq (⟨"PrinterHouse$Pictures", "startEntries", "()V"⟩, 21) := ⟨⟨by decide +kernel, by decide +kernel⟩, List.mem_of_getElem? (i := 545) (by decide +kernel), List.mem_of_getElem? (i := 1474) (by decide +kernel), List.mem_of_getElem? (i := 1475) (by decide +kernel)⟩
theorem lw_p81 : lw_okq (⟨"PrinterHouse$Pictures", "readEntry", "(J)V"⟩, 21) := ⟨⟨by decide +kernel, by decide +kernel⟩, List.mem_of_getElem? (i := 545) (by decide +kernel), List.mem_of_getElem? (i := 1479) (by decide +kernel), List.mem_of_getElem? (i := 1480) (by decide +kernel)⟩
theorem lw_p82 : lw_okq (⟨"PrinterHouse$Pictures", "tell", "(IJ)Z"⟩, 21) := ⟨⟨by decide +kernel, by decide +kernel⟩, List.mem_of_getElem? (i := 545) (by decide +kernel), List.mem_of_getElem? (i := 1487) (by decide +kernel), List.mem_of_getElem? (i := 1488) (by decide +kernel)⟩
theorem lw_p83 : lw_okq (⟨"PrinterHouse$Pictures", "checkEntries", "(J)V"⟩, 21) := ⟨⟨by decide +kernel, by decide +kernel⟩, List.mem_of_getElem? (i := 545) (by decide +kernel), List.mem_of_getElem? (i := 1493) (by decide +kernel), List.mem_of_getElem? (i := 1494) (by decide +kernel)⟩
theorem lw_p84 : lw_okq (⟨"PrinterHouse$Pictures", "isList", "(J)Z"⟩, 21) := ⟨⟨by decide +kernel, by decide +kernel⟩, List.mem_of_getElem? (i := 545) (by decide +kernel), List.mem_of_getElem? (i := 1497) (by decide +kernel), List.mem_of_getElem? (i := 1498) (by decide +kernel)⟩
theorem lw_p85 : lw_okq (⟨"PrinterHouse$Pictures", "strips", "()J"⟩, 21) := ⟨⟨by decide +kernel, by decide +kernel⟩, List.mem_of_getElem? (i := 545) (by decide +kernel), List.mem_of_getElem? (i := 1502) (by decide +kernel), List.mem_of_getElem? (i := 1503) (by decide +kernel)⟩
theorem lw_p86 : lw_okq (⟨"PrinterHouse$Pictures", "readStrips", "()V"⟩, 21) := ⟨⟨by decide +kernel, by decide +kernel⟩, List.mem_of_getElem? (i := 545) (by decide +kernel), List.mem_of_getElem? (i := 1508) (by decide +kernel), List.mem_of_getElem? (i := 1509) (by decide +kernel)⟩
theorem lw_p87 : lw_okq (⟨"PrinterHouse$Pictures", "listed", "(JI)J"⟩, 21) := ⟨⟨by decide +kernel, by decide +kernel⟩, List.mem_of_getElem? (i := 545) (by decide +kernel), List.mem_of_getElem? (i := 1514) (by decide +kernel), List.mem_of_getElem? (i := 1515) (by decide +kernel)⟩
theorem lw_p88 : lw_okq (⟨"PrinterHouse$Pictures", "openStrip", "(II)V"⟩, 21) := ⟨⟨by decide +kernel, by decide +kernel⟩, List.mem_of_getElem? (i := 545) (by decide +kernel), List.mem_of_getElem? (i := 1518) (by decide +kernel), List.mem_of_getElem? (i := 1519) (by decide +kernel)⟩
theorem lw_p89 : lw_okq (⟨"PrinterHouse$Pictures", "readRow", "([III)Z"⟩, 21) := ⟨⟨by decide +kernel, by decide +kernel⟩, List.mem_of_getElem? (i := 545) (by decide +kernel), List.mem_of_getElem? (i := 1523) (by decide +kernel), List.mem_of_getElem? (i := 1524) (by decide +kernel)⟩
theorem lw_p90 : lw_okq (⟨"PrinterHouse$Pictures", "readMode", "()I"⟩, 21) := ⟨⟨by decide +kernel, by decide +kernel⟩, List.mem_of_getElem? (i := 545) (by decide +kernel), List.mem_of_getElem? (i := 1530) (by decide +kernel), List.mem_of_getElem? (i := 1531) (by decide +kernel)⟩
theorem lw_p91 : lw_okq (⟨"PrinterHouse$Pictures", "peek", "(I)I"⟩, 21) := ⟨⟨by decide +kernel, by decide +kernel⟩, List.mem_of_getElem? (i := 545) (by decide +kernel), List.mem_of_getElem? (i := 1534) (by decide +kernel), List.mem_of_getElem? (i := 1535) (by decide +kernel)⟩
theorem lw_p92 : lw_okq (⟨"PrinterHouse$Pictures", "skipBits", "(I)Z"⟩, 21) := ⟨⟨by decide +kernel, by decide +kernel⟩, List.mem_of_getElem? (i := 545) (by decide +kernel), List.mem_of_getElem? (i := 1538) (by decide +kernel), List.mem_of_getElem? (i := 1539) (by decide +kernel)⟩
theorem lw_p93 : lw_okq (⟨"PrinterHouse$Pictures", "readRun", "(I)I"⟩, 21) := ⟨⟨by decide +kernel, by decide +kernel⟩, List.mem_of_getElem? (i := 545) (by decide +kernel), List.mem_of_getElem? (i := 1545) (by decide +kernel), List.mem_of_getElem? (i := 1546) (by decide +kernel)⟩
theorem lw_p94 : lw_okq (⟨"PrinterHouse$Pictures", "invert", "([I)V"⟩, 21) := ⟨⟨by decide +kernel, by decide +kernel⟩, List.mem_of_getElem? (i := 545) (by decide +kernel), List.mem_of_getElem? (i := 1550) (by decide +kernel), List.mem_of_getElem? (i := 1551) (by decide +kernel)⟩
theorem lw_p95 : lw_okq (⟨"PrinterHouse$Streams", "bytesOfMacros", "()I"⟩, 19) := ⟨⟨by decide +kernel, by decide +kernel⟩, List.mem_of_getElem? (i := 81) (by decide +kernel), List.mem_of_getElem? (i := 1639) (by decide +kernel), List.mem_of_getElem? (i := 1640) (by decide +kernel)⟩
def lw_privs_6 : List (MethodName × Nat) := [(⟨"PrinterHouse$Pictures", "startEntries", "()V"⟩, 21), (⟨"PrinterHouse$Pictures", "readEntry", "(J)V"⟩, 21), (⟨"PrinterHouse$Pictures", "tell", "(IJ)Z"⟩, 21), (⟨"PrinterHouse$Pictures", "checkEntries", "(J)V"⟩, 21), (⟨"PrinterHouse$Pictures", "isList", "(J)Z"⟩, 21), (⟨"PrinterHouse$Pictures", "strips", "()J"⟩, 21), (⟨"PrinterHouse$Pictures", "readStrips", "()V"⟩, 21), (⟨"PrinterHouse$Pictures", "listed", "(JI)J"⟩, 21), (⟨"PrinterHouse$Pictures", "openStrip", "(II)V"⟩, 21), (⟨"PrinterHouse$Pictures", "readRow", "([III)Z"⟩, 21), (⟨"PrinterHouse$Pictures", "readMode", "()I"⟩, 21), (⟨"PrinterHouse$Pictures", "peek", "(I)I"⟩, 21), (⟨"PrinterHouse$Pictures", "skipBits", "(I)Z"⟩, 21), (⟨"PrinterHouse$Pictures", "readRun", "(I)I"⟩, 21), (⟨"PrinterHouse$Pictures", "invert", "([I)V"⟩, 21), (⟨"PrinterHouse$Streams", "bytesOfMacros", "()I"⟩, 19)]
theorem lw_r6 : ∀ q ∈ lw_privs_6, lw_okq q := List.forall_mem_cons.mpr ⟨lw_p80, List.forall_mem_cons.mpr ⟨lw_p81, List.forall_mem_cons.mpr ⟨lw_p82, List.forall_mem_cons.mpr ⟨lw_p83, List.forall_mem_cons.mpr ⟨lw_p84, List.forall_mem_cons.mpr ⟨lw_p85, List.forall_mem_cons.mpr ⟨lw_p86, List.forall_mem_cons.mpr ⟨lw_p87, List.forall_mem_cons.mpr ⟨lw_p88, List.forall_mem_cons.mpr ⟨lw_p89, List.forall_mem_cons.mpr ⟨lw_p90, List.forall_mem_cons.mpr ⟨lw_p91, List.forall_mem_cons.mpr ⟨lw_p92, List.forall_mem_cons.mpr ⟨lw_p93, List.forall_mem_cons.mpr ⟨lw_p94, List.forall_mem_cons.mpr ⟨lw_p95, fun _ h => absurd h List.not_mem_nil⟩⟩⟩⟩⟩⟩⟩⟩⟩⟩⟩⟩⟩⟩⟩⟩
theorem lw_p96 : lw_okq (⟨"PrinterHouseModel", "readCodes", "()V"⟩, 80) := ⟨⟨by decide +kernel, by decide +kernel⟩, List.mem_of_getElem? (i := 1651) (by decide +kernel), List.mem_of_getElem? (i := 1660) (by decide +kernel), List.mem_of_getElem? (i := 1661) (by decide +kernel)⟩
theorem lw_p97 : lw_okq (⟨"PrinterHouseModel", "readRow", "(Ljava/lang/String;I)V"⟩, 80) := ⟨⟨by decide +kernel, by decide +kernel⟩, List.mem_of_getElem? (i := 1651) (by decide +kernel), List.mem_of_getElem? (i := 1665) (by decide +kernel), List.mem_of_getElem? (i := 1666) (by decide +kernel)⟩
theorem lw_p98 : lw_okq (⟨"PrinterHouseModel", "lay", "(I)V"⟩, 80) := ⟨⟨by decide +kernel, by decide +kernel⟩, List.mem_of_getElem? (i := 1651) (by decide +kernel), List.mem_of_getElem? (i := 1963) (by decide +kernel), List.mem_of_getElem? (i := 1964) (by decide +kernel)⟩
theorem lw_p99 : lw_okq (⟨"PrinterHouseModel", "white", "()V"⟩, 80) := ⟨⟨by decide +kernel, by decide +kernel⟩, List.mem_of_getElem? (i := 1651) (by decide +kernel), List.mem_of_getElem? (i := 1983) (by decide +kernel), List.mem_of_getElem? (i := 1984) (by decide +kernel)⟩
theorem lw_p100 : lw_okq (⟨"PrinterHouseModel", "stream", "(I)V"⟩, 80) := ⟨⟨by decide +kernel, by decide +kernel⟩, List.mem_of_getElem? (i := 1651) (by decide +kernel), List.mem_of_getElem? (i := 1987) (by decide +kernel), List.mem_of_getElem? (i := 1988) (by decide +kernel)⟩
theorem lw_p101 : lw_okq (⟨"PrinterHouseModel", "reset", "(II)V"⟩, 80) := ⟨⟨by decide +kernel, by decide +kernel⟩, List.mem_of_getElem? (i := 1651) (by decide +kernel), List.mem_of_getElem? (i := 1991) (by decide +kernel), List.mem_of_getElem? (i := 1992) (by decide +kernel)⟩
theorem lw_p102 : lw_okq (⟨"PrinterHouseModel", "pagesOwn", "()V"⟩, 80) := ⟨⟨by decide +kernel, by decide +kernel⟩, List.mem_of_getElem? (i := 1651) (by decide +kernel), List.mem_of_getElem? (i := 1995) (by decide +kernel), List.mem_of_getElem? (i := 1996) (by decide +kernel)⟩
theorem lw_p103 : lw_okq (⟨"PrinterHouseModel", "wide", "()I"⟩, 80) := ⟨⟨by decide +kernel, by decide +kernel⟩, List.mem_of_getElem? (i := 1651) (by decide +kernel), List.mem_of_getElem? (i := 1999) (by decide +kernel), List.mem_of_getElem? (i := 2000) (by decide +kernel)⟩
theorem lw_p104 : lw_okq (⟨"PrinterHouseModel", "high", "()I"⟩, 80) := ⟨⟨by decide +kernel, by decide +kernel⟩, List.mem_of_getElem? (i := 1651) (by decide +kernel), List.mem_of_getElem? (i := 2009) (by decide +kernel), List.mem_of_getElem? (i := 2010) (by decide +kernel)⟩
theorem lw_p105 : lw_okq (⟨"PrinterHouseModel", "setX", "(J)V"⟩, 80) := ⟨⟨by decide +kernel, by decide +kernel⟩, List.mem_of_getElem? (i := 1651) (by decide +kernel), List.mem_of_getElem? (i := 2013) (by decide +kernel), List.mem_of_getElem? (i := 2014) (by decide +kernel)⟩
theorem lw_p106 : lw_okq (⟨"PrinterHouseModel", "homeY", "()V"⟩, 80) := ⟨⟨by decide +kernel, by decide +kernel⟩, List.mem_of_getElem? (i := 1651) (by decide +kernel), List.mem_of_getElem? (i := 2018) (by decide +kernel), List.mem_of_getElem? (i := 2019) (by decide +kernel)⟩
theorem lw_p107 : lw_okq (⟨"PrinterHouseModel", "setY", "(J)V"⟩, 80) := ⟨⟨by decide +kernel, by decide +kernel⟩, List.mem_of_getElem? (i := 1651) (by decide +kernel), List.mem_of_getElem? (i := 2022) (by decide +kernel), List.mem_of_getElem? (i := 2023) (by decide +kernel)⟩
theorem lw_p108 : lw_okq (⟨"PrinterHouseModel", "run", "()V"⟩, 80) := ⟨⟨by decide +kernel, by decide +kernel⟩, List.mem_of_getElem? (i := 1651) (by decide +kernel), List.mem_of_getElem? (i := 2026) (by decide +kernel), List.mem_of_getElem? (i := 2027) (by decide +kernel)⟩
theorem lw_p109 : lw_okq (⟨"PrinterHouseModel", "hasMore", "()Z"⟩, 80) := ⟨⟨by decide +kernel, by decide +kernel⟩, List.mem_of_getElem? (i := 1651) (by decide +kernel), List.mem_of_getElem? (i := 2030) (by decide +kernel), List.mem_of_getElem? (i := 2031) (by decide +kernel)⟩
theorem lw_p110 : lw_okq (⟨"PrinterHouseModel", "next", "()I"⟩, 80) := ⟨⟨by decide +kernel, by decide +kernel⟩, List.mem_of_getElem? (i := 1651) (by decide +kernel), List.mem_of_getElem? (i := 2034) (by decide +kernel), List.mem_of_getElem? (i := 2035) (by decide +kernel)⟩
theorem lw_p111 : lw_okq (⟨"PrinterHouseModel", "count", "(I)V"⟩, 80) := ⟨⟨by decide +kernel, by decide +kernel⟩, List.mem_of_getElem? (i := 1651) (by decide +kernel), List.mem_of_getElem? (i := 2038) (by decide +kernel), List.mem_of_getElem? (i := 2039) (by decide +kernel)⟩
def lw_privs_7 : List (MethodName × Nat) := [(⟨"PrinterHouseModel", "readCodes", "()V"⟩, 80), (⟨"PrinterHouseModel", "readRow", "(Ljava/lang/String;I)V"⟩, 80), (⟨"PrinterHouseModel", "lay", "(I)V"⟩, 80), (⟨"PrinterHouseModel", "white", "()V"⟩, 80), (⟨"PrinterHouseModel", "stream", "(I)V"⟩, 80), (⟨"PrinterHouseModel", "reset", "(II)V"⟩, 80), (⟨"PrinterHouseModel", "pagesOwn", "()V"⟩, 80), (⟨"PrinterHouseModel", "wide", "()I"⟩, 80), (⟨"PrinterHouseModel", "high", "()I"⟩, 80), (⟨"PrinterHouseModel", "setX", "(J)V"⟩, 80), (⟨"PrinterHouseModel", "homeY", "()V"⟩, 80), (⟨"PrinterHouseModel", "setY", "(J)V"⟩, 80), (⟨"PrinterHouseModel", "run", "()V"⟩, 80), (⟨"PrinterHouseModel", "hasMore", "()Z"⟩, 80), (⟨"PrinterHouseModel", "next", "()I"⟩, 80), (⟨"PrinterHouseModel", "count", "(I)V"⟩, 80)]
theorem lw_r7 : ∀ q ∈ lw_privs_7, lw_okq q := List.forall_mem_cons.mpr ⟨lw_p96, List.forall_mem_cons.mpr ⟨lw_p97, List.forall_mem_cons.mpr ⟨lw_p98, List.forall_mem_cons.mpr ⟨lw_p99, List.forall_mem_cons.mpr ⟨lw_p100, List.forall_mem_cons.mpr ⟨lw_p101, List.forall_mem_cons.mpr ⟨lw_p102, List.forall_mem_cons.mpr ⟨lw_p103, List.forall_mem_cons.mpr ⟨lw_p104, List.forall_mem_cons.mpr ⟨lw_p105, List.forall_mem_cons.mpr ⟨lw_p106, List.forall_mem_cons.mpr ⟨lw_p107, List.forall_mem_cons.mpr ⟨lw_p108, List.forall_mem_cons.mpr ⟨lw_p109, List.forall_mem_cons.mpr ⟨lw_p110, List.forall_mem_cons.mpr ⟨lw_p111, fun _ h => absurd h List.not_mem_nil⟩⟩⟩⟩⟩⟩⟩⟩⟩⟩⟩⟩⟩⟩⟩⟩
theorem lw_p112 : lw_okq (⟨"PrinterHouseModel", "escape", "()V"⟩, 80) := ⟨⟨by decide +kernel, by decide +kernel⟩, List.mem_of_getElem? (i := 1651) (by decide +kernel), List.mem_of_getElem? (i := 2043) (by decide +kernel), List.mem_of_getElem? (i := 2044) (by decide +kernel)⟩
theorem lw_p113 : lw_okq (⟨"PrinterHouseModel", "peek", "()I"⟩, 80) := ⟨⟨by decide +kernel, by decide +kernel⟩, List.mem_of_getElem? (i := 1651) (by decide +kernel), List.mem_of_getElem? (i := 2047) (by decide +kernel), List.mem_of_getElem? (i := 2048) (by decide +kernel)⟩
theorem lw_p114 : lw_okq (⟨"PrinterHouseModel", "pair", "(I)V"⟩, 80) := ⟨⟨by decide +kernel, by decide +kernel⟩, List.mem_of_getElem? (i := 1651) (by decide +kernel), List.mem_of_getElem? (i := 2051) (by decide +kernel), List.mem_of_getElem? (i := 2052) (by decide +kernel)⟩
theorem lw_p115 : lw_okq (⟨"PrinterHouseModel", "eject", "()V"⟩, 80) := ⟨⟨by decide +kernel, by decide +kernel⟩, List.mem_of_getElem? (i := 1651) (by decide +kernel), List.mem_of_getElem? (i := 2055) (by decide +kernel), List.mem_of_getElem? (i := 2056) (by decide +kernel)⟩
theorem lw_p116 : lw_okq (⟨"PrinterHouseModel", "save", "(I)V"⟩, 80) := ⟨⟨by decide +kernel, by decide +kernel⟩, List.mem_of_getElem? (i := 1651) (by decide +kernel), List.mem_of_getElem? (i := 2059) (by decide +kernel), List.mem_of_getElem? (i := 2060) (by decide +kernel)⟩
theorem lw_p117 : lw_okq (⟨"PrinterHouseModel", "through", "(I)V"⟩, 80) := ⟨⟨by decide +kernel, by decide +kernel⟩, List.mem_of_getElem? (i := 1651) (by decide +kernel), List.mem_of_getElem? (i := 2063) (by decide +kernel), List.mem_of_getElem? (i := 2064) (by decide +kernel)⟩
theorem lw_p118 : lw_okq (⟨"PrinterHouseModel", "back", "(I)V"⟩, 80) := ⟨⟨by decide +kernel, by decide +kernel⟩, List.mem_of_getElem? (i := 1651) (by decide +kernel), List.mem_of_getElem? (i := 2067) (by decide +kernel), List.mem_of_getElem? (i := 2068) (by decide +kernel)⟩
theorem lw_p119 : lw_okq (⟨"PrinterHouseModel", "comes", "(II)V"⟩, 80) := ⟨⟨by decide +kernel, by decide +kernel⟩, List.mem_of_getElem? (i := 1651) (by decide +kernel), List.mem_of_getElem? (i := 2071) (by decide +kernel), List.mem_of_getElem? (i := 2072) (by decide +kernel)⟩
theorem lw_p120 : lw_okq (⟨"PrinterHouseModel", "written", "(I)V"⟩, 80) := ⟨⟨by decide +kernel, by decide +kernel⟩, List.mem_of_getElem? (i := 1651) (by decide +kernel), List.mem_of_getElem? (i := 2075) (by decide +kernel), List.mem_of_getElem? (i := 2076) (by decide +kernel)⟩
theorem lw_p121 : lw_okq (⟨"PrinterHouseModel", "outByte", "(I)V"⟩, 80) := ⟨⟨by decide +kernel, by decide +kernel⟩, List.mem_of_getElem? (i := 1651) (by decide +kernel), List.mem_of_getElem? (i := 2079) (by decide +kernel), List.mem_of_getElem? (i := 2080) (by decide +kernel)⟩
theorem lw_p122 : lw_okq (⟨"PrinterHouseModel", "outNumber", "(IJ)V"⟩, 80) := ⟨⟨by decide +kernel, by decide +kernel⟩, List.mem_of_getElem? (i := 1651) (by decide +kernel), List.mem_of_getElem? (i := 2084) (by decide +kernel), List.mem_of_getElem? (i := 2085) (by decide +kernel)⟩
theorem lw_p123 : lw_okq (⟨"PrinterHouseModel", "writeRow", "()V"⟩, 80) := ⟨⟨by decide +kernel, by decide +kernel⟩, List.mem_of_getElem? (i := 1651) (by decide +kernel), List.mem_of_getElem? (i := 2088) (by decide +kernel), List.mem_of_getElem? (i := 2089) (by decide +kernel)⟩
theorem lw_p124 : lw_okq (⟨"PrinterHouseModel", "change", "(II)I"⟩, 80) := ⟨⟨by decide +kernel, by decide +kernel⟩, List.mem_of_getElem? (i := 1651) (by decide +kernel), List.mem_of_getElem? (i := 2092) (by decide +kernel), List.mem_of_getElem? (i := 2093) (by decide +kernel)⟩
theorem lw_p125 : lw_okq (⟨"PrinterHouseModel", "b1", "()I"⟩, 80) := ⟨⟨by decide +kernel, by decide +kernel⟩, List.mem_of_getElem? (i := 1651) (by decide +kernel), List.mem_of_getElem? (i := 2096) (by decide +kernel), List.mem_of_getElem? (i := 2097) (by decide +kernel)⟩
theorem lw_p126 : lw_okq (⟨"PrinterHouseModel", "b2", "(I)I"⟩, 80) := ⟨⟨by decide +kernel, by decide +kernel⟩, List.mem_of_getElem? (i := 1651) (by decide +kernel), List.mem_of_getElem? (i := 2100) (by decide +kernel), List.mem_of_getElem? (i := 2101) (by decide +kernel)⟩
theorem lw_p127 : lw_okq (⟨"PrinterHouseModel", "bits", "(II)V"⟩, 80) := ⟨⟨by decide +kernel, by decide +kernel⟩, List.mem_of_getElem? (i := 1651) (by decide +kernel), List.mem_of_getElem? (i := 2104) (by decide +kernel), List.mem_of_getElem? (i := 2105) (by decide +kernel)⟩
def lw_privs_8 : List (MethodName × Nat) := [(⟨"PrinterHouseModel", "escape", "()V"⟩, 80), (⟨"PrinterHouseModel", "peek", "()I"⟩, 80), (⟨"PrinterHouseModel", "pair", "(I)V"⟩, 80), (⟨"PrinterHouseModel", "eject", "()V"⟩, 80), (⟨"PrinterHouseModel", "save", "(I)V"⟩, 80), (⟨"PrinterHouseModel", "through", "(I)V"⟩, 80), (⟨"PrinterHouseModel", "back", "(I)V"⟩, 80), (⟨"PrinterHouseModel", "comes", "(II)V"⟩, 80), (⟨"PrinterHouseModel", "written", "(I)V"⟩, 80), (⟨"PrinterHouseModel", "outByte", "(I)V"⟩, 80), (⟨"PrinterHouseModel", "outNumber", "(IJ)V"⟩, 80), (⟨"PrinterHouseModel", "writeRow", "()V"⟩, 80), (⟨"PrinterHouseModel", "change", "(II)I"⟩, 80), (⟨"PrinterHouseModel", "b1", "()I"⟩, 80), (⟨"PrinterHouseModel", "b2", "(I)I"⟩, 80), (⟨"PrinterHouseModel", "bits", "(II)V"⟩, 80)]
theorem lw_r8 : ∀ q ∈ lw_privs_8, lw_okq q := List.forall_mem_cons.mpr ⟨lw_p112, List.forall_mem_cons.mpr ⟨lw_p113, List.forall_mem_cons.mpr ⟨lw_p114, List.forall_mem_cons.mpr ⟨lw_p115, List.forall_mem_cons.mpr ⟨lw_p116, List.forall_mem_cons.mpr ⟨lw_p117, List.forall_mem_cons.mpr ⟨lw_p118, List.forall_mem_cons.mpr ⟨lw_p119, List.forall_mem_cons.mpr ⟨lw_p120, List.forall_mem_cons.mpr ⟨lw_p121, List.forall_mem_cons.mpr ⟨lw_p122, List.forall_mem_cons.mpr ⟨lw_p123, List.forall_mem_cons.mpr ⟨lw_p124, List.forall_mem_cons.mpr ⟨lw_p125, List.forall_mem_cons.mpr ⟨lw_p126, List.forall_mem_cons.mpr ⟨lw_p127, fun _ h => absurd h List.not_mem_nil⟩⟩⟩⟩⟩⟩⟩⟩⟩⟩⟩⟩⟩⟩⟩⟩
theorem lw_p128 : lw_okq (⟨"PrinterHouseModel", "writeRun", "(II)V"⟩, 80) := ⟨⟨by decide +kernel, by decide +kernel⟩, List.mem_of_getElem? (i := 1651) (by decide +kernel), List.mem_of_getElem? (i := 2108) (by decide +kernel), List.mem_of_getElem? (i := 2109) (by decide +kernel)⟩
theorem lw_p129 : lw_okq (⟨"PrinterHouseModel", "entry", "(III)V"⟩, 80) := ⟨⟨by decide +kernel, by decide +kernel⟩, List.mem_of_getElem? (i := 1651) (by decide +kernel), List.mem_of_getElem? (i := 2113) (by decide +kernel), List.mem_of_getElem? (i := 2114) (by decide +kernel)⟩
theorem lw_p130 : lw_okq (⟨"PrinterHouseModel", "temporaryGo", "()V"⟩, 80) := ⟨⟨by decide +kernel, by decide +kernel⟩, List.mem_of_getElem? (i := 1651) (by decide +kernel), List.mem_of_getElem? (i := 2118) (by decide +kernel), List.mem_of_getElem? (i := 2119) (by decide +kernel)⟩
theorem lw_p131 : lw_okq (⟨"PrinterHouseModel", "fontsGo", "(Z)V"⟩, 80) := ⟨⟨by decide +kernel, by decide +kernel⟩, List.mem_of_getElem? (i := 1651) (by decide +kernel), List.mem_of_getElem? (i := 2122) (by decide +kernel), List.mem_of_getElem? (i := 2123) (by decide +kernel)⟩
theorem lw_p132 : lw_okq (⟨"PrinterHouseModel", "fontGoes", "(I)V"⟩, 80) := ⟨⟨by decide +kernel, by decide +kernel⟩, List.mem_of_getElem? (i := 1651) (by decide +kernel), List.mem_of_getElem? (i := 2126) (by decide +kernel), List.mem_of_getElem? (i := 2127) (by decide +kernel)⟩
theorem lw_p133 : lw_okq (⟨"PrinterHouseModel", "glyphGoes", "(II)V"⟩, 80) := ⟨⟨by decide +kernel, by decide +kernel⟩, List.mem_of_getElem? (i := 1651) (by decide +kernel), List.mem_of_getElem? (i := 2130) (by decide +kernel), List.mem_of_getElem? (i := 2131) (by decide +kernel)⟩
theorem lw_p134 : lw_okq (⟨"PrinterHouseModel", "usersGo", "(Z)V"⟩, 80) := ⟨⟨by decide +kernel, by decide +kernel⟩, List.mem_of_getElem? (i := 1651) (by decide +kernel), List.mem_of_getElem? (i := 2134) (by decide +kernel), List.mem_of_getElem? (i := 2135) (by decide +kernel)⟩
theorem lw_p135 : lw_okq (⟨"PrinterHouseModel", "macrosGo", "(Z)V"⟩, 80) := ⟨⟨by decide +kernel, by decide +kernel⟩, List.mem_of_getElem? (i := 1651) (by decide +kernel), List.mem_of_getElem? (i := 2138) (by decide +kernel), List.mem_of_getElem? (i := 2139) (by decide +kernel)⟩
theorem lw_p136 : lw_okq (⟨"PrinterHouseModel", "line", "(I)V"⟩, 80) := ⟨⟨by decide +kernel, by decide +kernel⟩, List.mem_of_getElem? (i := 1651) (by decide +kernel), List.mem_of_getElem? (i := 2142) (by decide +kernel), List.mem_of_getElem? (i := 2143) (by decide +kernel)⟩
theorem lw_p137 : lw_okq (⟨"PrinterHouseModel", "transparent", "()V"⟩, 80) := ⟨⟨by decide +kernel, by decide +kernel⟩, List.mem_of_getElem? (i := 1651) (by decide +kernel), List.mem_of_getElem? (i := 2146) (by decide +kernel), List.mem_of_getElem? (i := 2147) (by decide +kernel)⟩
theorem lw_p138 : lw_okq (⟨"PrinterHouseModel", "shown", "(I)V"⟩, 80) := ⟨⟨by decide +kernel, by decide +kernel⟩, List.mem_of_getElem? (i := 1651) (by decide +kernel), List.mem_of_getElem? (i := 2150) (by decide +kernel), List.mem_of_getElem? (i := 2151) (by decide +kernel)⟩
theorem lw_p139 : lw_okq (⟨"PrinterHouseModel", "show", "(I)V"⟩, 80) := ⟨⟨by decide +kernel, by decide +kernel⟩, List.mem_of_getElem? (i := 1651) (by decide +kernel), List.mem_of_getElem? (i := 2154) (by decide +kernel), List.mem_of_getElem? (i := 2155) (by decide +kernel)⟩
theorem lw_p140 : lw_okq (⟨"PrinterHouseModel", "fontInUse", "()I"⟩, 80) := ⟨⟨by decide +kernel, by decide +kernel⟩, List.mem_of_getElem? (i := 1651) (by decide +kernel), List.mem_of_getElem? (i := 2158) (by decide +kernel), List.mem_of_getElem? (i := 2159) (by decide +kernel)⟩
theorem lw_p141 : lw_okq (⟨"PrinterHouseModel", "wish", "(I)I"⟩, 80) := ⟨⟨by decide +kernel, by decide +kernel⟩, List.mem_of_getElem? (i := 1651) (by decide +kernel), List.mem_of_getElem? (i := 2162) (by decide +kernel), List.mem_of_getElem? (i := 2163) (by decide +kernel)⟩
theorem lw_p142 : lw_okq (⟨"PrinterHouseModel", "keep", "(II)V"⟩, 80) := ⟨⟨by decide +kernel, by decide +kernel⟩, List.mem_of_getElem? (i := 1651) (by decide +kernel), List.mem_of_getElem? (i := 2166) (by decide +kernel), List.mem_of_getElem? (i := 2167) (by decide +kernel)⟩
theorem lw_p143 : lw_okq (⟨"PrinterHouseModel", "nearest", "(II)V"⟩, 80) := ⟨⟨by decide +kernel, by decide +kernel⟩, List.mem_of_getElem? (i := 1651) (by decide +kernel), List.mem_of_getElem? (i := 2170) (by decide +kernel), List.mem_of_getElem? (i := 2171) (by decide +kernel)⟩
def lw_privs_9 : List (MethodName × Nat) := [(⟨"PrinterHouseModel", "writeRun", "(II)V"⟩, 80), (⟨"PrinterHouseModel", "entry", "(III)V"⟩, 80), (⟨"PrinterHouseModel", "temporaryGo", "()V"⟩, 80), (⟨"PrinterHouseModel", "fontsGo", "(Z)V"⟩, 80), (⟨"PrinterHouseModel", "fontGoes", "(I)V"⟩, 80), (⟨"PrinterHouseModel", "glyphGoes", "(II)V"⟩, 80), (⟨"PrinterHouseModel", "usersGo", "(Z)V"⟩, 80), (⟨"PrinterHouseModel", "macrosGo", "(Z)V"⟩, 80), (⟨"PrinterHouseModel", "line", "(I)V"⟩, 80), (⟨"PrinterHouseModel", "transparent", "()V"⟩, 80), (⟨"PrinterHouseModel", "shown", "(I)V"⟩, 80), (⟨"PrinterHouseModel", "show", "(I)V"⟩, 80), (⟨"PrinterHouseModel", "fontInUse", "()I"⟩, 80), (⟨"PrinterHouseModel", "wish", "(I)I"⟩, 80), (⟨"PrinterHouseModel", "keep", "(II)V"⟩, 80), (⟨"PrinterHouseModel", "nearest", "(II)V"⟩, 80)]
theorem lw_r9 : ∀ q ∈ lw_privs_9, lw_okq q := List.forall_mem_cons.mpr ⟨lw_p128, List.forall_mem_cons.mpr ⟨lw_p129, List.forall_mem_cons.mpr ⟨lw_p130, List.forall_mem_cons.mpr ⟨lw_p131, List.forall_mem_cons.mpr ⟨lw_p132, List.forall_mem_cons.mpr ⟨lw_p133, List.forall_mem_cons.mpr ⟨lw_p134, List.forall_mem_cons.mpr ⟨lw_p135, List.forall_mem_cons.mpr ⟨lw_p136, List.forall_mem_cons.mpr ⟨lw_p137, List.forall_mem_cons.mpr ⟨lw_p138, List.forall_mem_cons.mpr ⟨lw_p139, List.forall_mem_cons.mpr ⟨lw_p140, List.forall_mem_cons.mpr ⟨lw_p141, List.forall_mem_cons.mpr ⟨lw_p142, List.forall_mem_cons.mpr ⟨lw_p143, fun _ h => absurd h List.not_mem_nil⟩⟩⟩⟩⟩⟩⟩⟩⟩⟩⟩⟩⟩⟩⟩⟩
theorem lw_p144 : lw_okq (⟨"PrinterHouseModel", "mark", "(JJJJ)Z"⟩, 80) := ⟨⟨by decide +kernel, by decide +kernel⟩, List.mem_of_getElem? (i := 1651) (by decide +kernel), List.mem_of_getElem? (i := 2185) (by decide +kernel), List.mem_of_getElem? (i := 2186) (by decide +kernel)⟩
theorem lw_p145 : lw_okq (⟨"PrinterHouseModel", "useAtHand", "()V"⟩, 80) := ⟨⟨by decide +kernel, by decide +kernel⟩, List.mem_of_getElem? (i := 1651) (by decide +kernel), List.mem_of_getElem? (i := 2190) (by decide +kernel), List.mem_of_getElem? (i := 2191) (by decide +kernel)⟩
theorem lw_p146 : lw_okq (⟨"PrinterHouseModel", "residentGlyph", "(III)V"⟩, 80) := ⟨⟨by decide +kernel, by decide +kernel⟩, List.mem_of_getElem? (i := 1651) (by decide +kernel), List.mem_of_getElem? (i := 2194) (by decide +kernel), List.mem_of_getElem? (i := 2195) (by decide +kernel)⟩
theorem lw_p147 : lw_okq (⟨"PrinterHouseModel", "lay", "(III)V"⟩, 80) := ⟨⟨by decide +kernel, by decide +kernel⟩, List.mem_of_getElem? (i := 1651) (by decide +kernel), List.mem_of_getElem? (i := 2198) (by decide +kernel), List.mem_of_getElem? (i := 2199) (by decide +kernel)⟩
theorem lw_p148 : lw_okq (⟨"PrinterHouseModel", "patternAt", "(II)I"⟩, 80) := ⟨⟨by decide +kernel, by decide +kernel⟩, List.mem_of_getElem? (i := 1651) (by decide +kernel), List.mem_of_getElem? (i := 2202) (by decide +kernel), List.mem_of_getElem? (i := 2203) (by decide +kernel)⟩
theorem lw_p149 : lw_okq (⟨"PrinterHouseModel", "glyph", "(III)V"⟩, 80) := ⟨⟨by decide +kernel, by decide +kernel⟩, List.mem_of_getElem? (i := 1651) (by decide +kernel), List.mem_of_getElem? (i := 2213) (by decide +kernel), List.mem_of_getElem? (i := 2214) (by decide +kernel)⟩
theorem lw_p150 : lw_okq (⟨"PrinterHouseModel", "readValue", "()V"⟩, 80) := ⟨⟨by decide +kernel, by decide +kernel⟩, List.mem_of_getElem? (i := 1651) (by decide +kernel), List.mem_of_getElem? (i := 2217) (by decide +kernel), List.mem_of_getElem? (i := 2218) (by decide +kernel)⟩
theorem lw_p151 : lw_okq (⟨"PrinterHouseModel", "withData", "(III)V"⟩, 80) := ⟨⟨by decide +kernel, by decide +kernel⟩, List.mem_of_getElem? (i := 1651) (by decide +kernel), List.mem_of_getElem? (i := 2222) (by decide +kernel), List.mem_of_getElem? (i := 2223) (by decide +kernel)⟩
theorem lw_p152 : lw_okq (⟨"PrinterHouseModel", "fontData", "(I)V"⟩, 80) := ⟨⟨by decide +kernel, by decide +kernel⟩, List.mem_of_getElem? (i := 1651) (by decide +kernel), List.mem_of_getElem? (i := 2226) (by decide +kernel), List.mem_of_getElem? (i := 2227) (by decide +kernel)⟩
theorem lw_p153 : lw_okq (⟨"PrinterHouseModel", "dataAt", "(I)I"⟩, 80) := ⟨⟨by decide +kernel, by decide +kernel⟩, List.mem_of_getElem? (i := 1651) (by decide +kernel), List.mem_of_getElem? (i := 2230) (by decide +kernel), List.mem_of_getElem? (i := 2231) (by decide +kernel)⟩
theorem lw_p154 : lw_okq (⟨"PrinterHouseModel", "signedAt", "(I)I"⟩, 80) := ⟨⟨by decide +kernel, by decide +kernel⟩, List.mem_of_getElem? (i := 1651) (by decide +kernel), List.mem_of_getElem? (i := 2234) (by decide +kernel), List.mem_of_getElem? (i := 2235) (by decide +kernel)⟩
theorem lw_p155 : lw_okq (⟨"PrinterHouseModel", "glyphData", "(I)V"⟩, 80) := ⟨⟨by decide +kernel, by decide +kernel⟩, List.mem_of_getElem? (i := 1651) (by decide +kernel), List.mem_of_getElem? (i := 2238) (by decide +kernel), List.mem_of_getElem? (i := 2239) (by decide +kernel)⟩
theorem lw_p156 : lw_okq (⟨"PrinterHouseModel", "userData", "(I)V"⟩, 80) := ⟨⟨by decide +kernel, by decide +kernel⟩, List.mem_of_getElem? (i := 1651) (by decide +kernel), List.mem_of_getElem? (i := 2242) (by decide +kernel), List.mem_of_getElem? (i := 2243) (by decide +kernel)⟩
theorem lw_p157 : lw_okq (⟨"PrinterHouseModel", "rowData", "(I)V"⟩, 80) := ⟨⟨by decide +kernel, by decide +kernel⟩, List.mem_of_getElem? (i := 1651) (by decide +kernel), List.mem_of_getElem? (i := 2246) (by decide +kernel), List.mem_of_getElem? (i := 2247) (by decide +kernel)⟩
theorem lw_p158 : lw_okq (⟨"PrinterHouseModel", "begin", "(Z)V"⟩, 80) := ⟨⟨by decide +kernel, by decide +kernel⟩, List.mem_of_getElem? (i := 1651) (by decide +kernel), List.mem_of_getElem? (i := 2250) (by decide +kernel), List.mem_of_getElem? (i := 2251) (by decide +kernel)⟩
theorem lw_p159 : lw_okq (⟨"PrinterHouseModel", "unpack", "(I)V"⟩, 80) := ⟨⟨by decide +kernel, by decide +kernel⟩, List.mem_of_getElem? (i := 1651) (by decide +kernel), List.mem_of_getElem? (i := 2254) (by decide +kernel), List.mem_of_getElem? (i := 2255) (by decide +kernel)⟩
def lw_privs_10 : List (MethodName × Nat) := [(⟨"PrinterHouseModel", "mark", "(JJJJ)Z"⟩, 80), (⟨"PrinterHouseModel", "useAtHand", "()V"⟩, 80), (⟨"PrinterHouseModel", "residentGlyph", "(III)V"⟩, 80), (⟨"PrinterHouseModel", "lay", "(III)V"⟩, 80), (⟨"PrinterHouseModel", "patternAt", "(II)I"⟩, 80), (⟨"PrinterHouseModel", "glyph", "(III)V"⟩, 80), (⟨"PrinterHouseModel", "readValue", "()V"⟩, 80), (⟨"PrinterHouseModel", "withData", "(III)V"⟩, 80), (⟨"PrinterHouseModel", "fontData", "(I)V"⟩, 80), (⟨"PrinterHouseModel", "dataAt", "(I)I"⟩, 80), (⟨"PrinterHouseModel", "signedAt", "(I)I"⟩, 80), (⟨"PrinterHouseModel", "glyphData", "(I)V"⟩, 80), (⟨"PrinterHouseModel", "userData", "(I)V"⟩, 80), (⟨"PrinterHouseModel", "rowData", "(I)V"⟩, 80), (⟨"PrinterHouseModel", "begin", "(Z)V"⟩, 80), (⟨"PrinterHouseModel", "unpack", "(I)V"⟩, 80)]
theorem lw_r10 : ∀ q ∈ lw_privs_10, lw_okq q := List.forall_mem_cons.mpr ⟨lw_p144, List.forall_mem_cons.mpr ⟨lw_p145, List.forall_mem_cons.mpr ⟨lw_p146, List.forall_mem_cons.mpr ⟨lw_p147, List.forall_mem_cons.mpr ⟨lw_p148, List.forall_mem_cons.mpr ⟨lw_p149, List.forall_mem_cons.mpr ⟨lw_p150, List.forall_mem_cons.mpr ⟨lw_p151, List.forall_mem_cons.mpr ⟨lw_p152, List.forall_mem_cons.mpr ⟨lw_p153, List.forall_mem_cons.mpr ⟨lw_p154, List.forall_mem_cons.mpr ⟨lw_p155, List.forall_mem_cons.mpr ⟨lw_p156, List.forall_mem_cons.mpr ⟨lw_p157, List.forall_mem_cons.mpr ⟨lw_p158, List.forall_mem_cons.mpr ⟨lw_p159, fun _ h => absurd h List.not_mem_nil⟩⟩⟩⟩⟩⟩⟩⟩⟩⟩⟩⟩⟩⟩⟩⟩
theorem lw_p160 : lw_okq (⟨"PrinterHouseModel", "changed", "(I)V"⟩, 80) := ⟨⟨by decide +kernel, by decide +kernel⟩, List.mem_of_getElem? (i := 1651) (by decide +kernel), List.mem_of_getElem? (i := 2258) (by decide +kernel), List.mem_of_getElem? (i := 2259) (by decide +kernel)⟩
theorem lw_p161 : lw_okq (⟨"PrinterHouseModel", "fill", "(I)V"⟩, 80) := ⟨⟨by decide +kernel, by decide +kernel⟩, List.mem_of_getElem? (i := 1651) (by decide +kernel), List.mem_of_getElem? (i := 2262) (by decide +kernel), List.mem_of_getElem? (i := 2263) (by decide +kernel)⟩
theorem lw_p162 : lw_okq (⟨"PrinterHouseModel", "field", "(III)V"⟩, 80) := ⟨⟨by decide +kernel, by decide +kernel⟩, List.mem_of_getElem? (i := 1651) (by decide +kernel), List.mem_of_getElem? (i := 2266) (by decide +kernel), List.mem_of_getElem? (i := 2267) (by decide +kernel)⟩
theorem lw_p163 : lw_okq (⟨"PrinterHouseModel", "pageField", "(I)V"⟩, 80) := ⟨⟨by decide +kernel, by decide +kernel⟩, List.mem_of_getElem? (i := 1651) (by decide +kernel), List.mem_of_getElem? (i := 2270) (by decide +kernel), List.mem_of_getElem? (i := 2271) (by decide +kernel)⟩
theorem lw_p164 : lw_okq (⟨"PrinterHouseModel", "units", "(J)J"⟩, 80) := ⟨⟨by decide +kernel, by decide +kernel⟩, List.mem_of_getElem? (i := 1651) (by decide +kernel), List.mem_of_getElem? (i := 2275) (by decide +kernel), List.mem_of_getElem? (i := 2276) (by decide +kernel)⟩
theorem lw_p165 : lw_okq (⟨"PrinterHouseModel", "placeField", "(I)V"⟩, 80) := ⟨⟨by decide +kernel, by decide +kernel⟩, List.mem_of_getElem? (i := 1651) (by decide +kernel), List.mem_of_getElem? (i := 2280) (by decide +kernel), List.mem_of_getElem? (i := 2281) (by decide +kernel)⟩
theorem lw_p166 : lw_okq (⟨"PrinterHouseModel", "macroField", "(I)V"⟩, 80) := ⟨⟨by decide +kernel, by decide +kernel⟩, List.mem_of_getElem? (i := 1651) (by decide +kernel), List.mem_of_getElem? (i := 2286) (by decide +kernel), List.mem_of_getElem? (i := 2287) (by decide +kernel)⟩
theorem lw_p167 : lw_okq (⟨"PrinterHouseModel", "macroAct", "()V"⟩, 80) := ⟨⟨by decide +kernel, by decide +kernel⟩, List.mem_of_getElem? (i := 1651) (by decide +kernel), List.mem_of_getElem? (i := 2290) (by decide +kernel), List.mem_of_getElem? (i := 2291) (by decide +kernel)⟩
theorem lw_p168 : lw_okq (⟨"PrinterHouseModel", "define", "(I)V"⟩, 80) := ⟨⟨by decide +kernel, by decide +kernel⟩, List.mem_of_getElem? (i := 1651) (by decide +kernel), List.mem_of_getElem? (i := 2294) (by decide +kernel), List.mem_of_getElem? (i := 2295) (by decide +kernel)⟩
theorem lw_p169 : lw_okq (⟨"PrinterHouseModel", "endsMacro", "(I)Z"⟩, 80) := ⟨⟨by decide +kernel, by decide +kernel⟩, List.mem_of_getElem? (i := 1651) (by decide +kernel), List.mem_of_getElem? (i := 2298) (by decide +kernel), List.mem_of_getElem? (i := 2299) (by decide +kernel)⟩
theorem lw_p170 : lw_okq (⟨"PrinterHouseModel", "dotField", "(I)V"⟩, 80) := ⟨⟨by decide +kernel, by decide +kernel⟩, List.mem_of_getElem? (i := 1651) (by decide +kernel), List.mem_of_getElem? (i := 2302) (by decide +kernel), List.mem_of_getElem? (i := 2303) (by decide +kernel)⟩
theorem lw_p171 : lw_okq (⟨"PrinterHouseModel", "modelField", "(I)V"⟩, 80) := ⟨⟨by decide +kernel, by decide +kernel⟩, List.mem_of_getElem? (i := 1651) (by decide +kernel), List.mem_of_getElem? (i := 2306) (by decide +kernel), List.mem_of_getElem? (i := 2307) (by decide +kernel)⟩
theorem lw_p172 : lw_okq (⟨"PrinterHouseModel", "hasPattern", "(II)Z"⟩, 80) := ⟨⟨by decide +kernel, by decide +kernel⟩, List.mem_of_getElem? (i := 1651) (by decide +kernel), List.mem_of_getElem? (i := 2310) (by decide +kernel), List.mem_of_getElem? (i := 2311) (by decide +kernel)⟩
theorem lw_p173 : lw_okq (⟨"PrinterHouseModel", "putPattern", "([IIII)V"⟩, 80) := ⟨⟨by decide +kernel, by decide +kernel⟩, List.mem_of_getElem? (i := 1651) (by decide +kernel), List.mem_of_getElem? (i := 2314) (by decide +kernel), List.mem_of_getElem? (i := 2315) (by decide +kernel)⟩
theorem lw_p174 : lw_okq (⟨"PrinterHouseModel", "thingField", "(I)V"⟩, 80) := ⟨⟨by decide +kernel, by decide +kernel⟩, List.mem_of_getElem? (i := 1651) (by decide +kernel), List.mem_of_getElem? (i := 2318) (by decide +kernel), List.mem_of_getElem? (i := 2319) (by decide +kernel)⟩
theorem lw_p175 : lw_okq (⟨"PrinterHouseModel", "rectangle", "()V"⟩, 80) := ⟨⟨by decide +kernel, by decide +kernel⟩, List.mem_of_getElem? (i := 1651) (by decide +kernel), List.mem_of_getElem? (i := 2326) (by decide +kernel), List.mem_of_getElem? (i := 2327) (by decide +kernel)⟩
def lw_privs_11 : List (MethodName × Nat) := [(⟨"PrinterHouseModel", "changed", "(I)V"⟩, 80), (⟨"PrinterHouseModel", "fill", "(I)V"⟩, 80), (⟨"PrinterHouseModel", "field", "(III)V"⟩, 80), (⟨"PrinterHouseModel", "pageField", "(I)V"⟩, 80), (⟨"PrinterHouseModel", "units", "(J)J"⟩, 80), (⟨"PrinterHouseModel", "placeField", "(I)V"⟩, 80), (⟨"PrinterHouseModel", "macroField", "(I)V"⟩, 80), (⟨"PrinterHouseModel", "macroAct", "()V"⟩, 80), (⟨"PrinterHouseModel", "define", "(I)V"⟩, 80), (⟨"PrinterHouseModel", "endsMacro", "(I)Z"⟩, 80), (⟨"PrinterHouseModel", "dotField", "(I)V"⟩, 80), (⟨"PrinterHouseModel", "modelField", "(I)V"⟩, 80), (⟨"PrinterHouseModel", "hasPattern", "(II)Z"⟩, 80), (⟨"PrinterHouseModel", "putPattern", "([IIII)V"⟩, 80), (⟨"PrinterHouseModel", "thingField", "(I)V"⟩, 80), (⟨"PrinterHouseModel", "rectangle", "()V"⟩, 80)]
theorem lw_r11 : ∀ q ∈ lw_privs_11, lw_okq q := List.forall_mem_cons.mpr ⟨lw_p160, List.forall_mem_cons.mpr ⟨lw_p161, List.forall_mem_cons.mpr ⟨lw_p162, List.forall_mem_cons.mpr ⟨lw_p163, List.forall_mem_cons.mpr ⟨lw_p164, List.forall_mem_cons.mpr ⟨lw_p165, List.forall_mem_cons.mpr ⟨lw_p166, List.forall_mem_cons.mpr ⟨lw_p167, List.forall_mem_cons.mpr ⟨lw_p168, List.forall_mem_cons.mpr ⟨lw_p169, List.forall_mem_cons.mpr ⟨lw_p170, List.forall_mem_cons.mpr ⟨lw_p171, List.forall_mem_cons.mpr ⟨lw_p172, List.forall_mem_cons.mpr ⟨lw_p173, List.forall_mem_cons.mpr ⟨lw_p174, List.forall_mem_cons.mpr ⟨lw_p175, fun _ h => absurd h List.not_mem_nil⟩⟩⟩⟩⟩⟩⟩⟩⟩⟩⟩⟩⟩⟩⟩⟩
theorem lw_p176 : lw_okq (⟨"PrinterHouseModel", "fontAct", "()V"⟩, 80) := ⟨⟨by decide +kernel, by decide +kernel⟩, List.mem_of_getElem? (i := 1651) (by decide +kernel), List.mem_of_getElem? (i := 2330) (by decide +kernel), List.mem_of_getElem? (i := 2331) (by decide +kernel)⟩
theorem lw_p177 : lw_okq (⟨"PrinterHouseModel", "userAct", "()V"⟩, 80) := ⟨⟨by decide +kernel, by decide +kernel⟩, List.mem_of_getElem? (i := 1651) (by decide +kernel), List.mem_of_getElem? (i := 2334) (by decide +kernel), List.mem_of_getElem? (i := 2335) (by decide +kernel)⟩
theorem lw_p178 : lw_okq (⟨"PrinterHouseModel", "rasterField", "(I)V"⟩, 80) := ⟨⟨by decide +kernel, by decide +kernel⟩, List.mem_of_getElem? (i := 1651) (by decide +kernel), List.mem_of_getElem? (i := 2338) (by decide +kernel), List.mem_of_getElem? (i := 2339) (by decide +kernel)⟩
theorem lw_p179 : lw_okq (⟨"PrinterHouseModel", "rowField", "(I)V"⟩, 80) := ⟨⟨by decide +kernel, by decide +kernel⟩, List.mem_of_getElem? (i := 1651) (by decide +kernel), List.mem_of_getElem? (i := 2342) (by decide +kernel), List.mem_of_getElem? (i := 2343) (by decide +kernel)⟩
theorem lw_p180 : lw_okq (⟨"PrinterHouseModel", "fontField", "(III)V"⟩, 80) := ⟨⟨by decide +kernel, by decide +kernel⟩, List.mem_of_getElem? (i := 1651) (by decide +kernel), List.mem_of_getElem? (i := 2346) (by decide +kernel), List.mem_of_getElem? (i := 2347) (by decide +kernel)⟩
theorem lw_p181 : lw_okq (⟨"PrinterHouseModel", "plain", "(I)V"⟩, 80) := ⟨⟨by decide +kernel, by decide +kernel⟩, List.mem_of_getElem? (i := 1651) (by decide +kernel), List.mem_of_getElem? (i := 2352) (by decide +kernel), List.mem_of_getElem? (i := 2353) (by decide +kernel)⟩
theorem lw_p182 : lw_okq (⟨"PrinterHouseModel", "tab", "()V"⟩, 80) := ⟨⟨by decide +kernel, by decide +kernel⟩, List.mem_of_getElem? (i := 1651) (by decide +kernel), List.mem_of_getElem? (i := 2356) (by decide +kernel), List.mem_of_getElem? (i := 2357) (by decide +kernel)⟩
theorem lw_p183 : lw_okq (⟨"PrinterHouseModel", "pictures", "(I)Z"⟩, 80) := ⟨⟨by decide +kernel, by decide +kernel⟩, List.mem_of_getElem? (i := 1651) (by decide +kernel), List.mem_of_getElem? (i := 2360) (by decide +kernel), List.mem_of_getElem? (i := 2361) (by decide +kernel)⟩
theorem lw_p184 : lw_okq (⟨"PrinterHouseModel", "wrong", "(II)Z"⟩, 80) := ⟨⟨by decide +kernel, by decide +kernel⟩, List.mem_of_getElem? (i := 1651) (by decide +kernel), List.mem_of_getElem? (i := 2364) (by decide +kernel), List.mem_of_getElem? (i := 2365) (by decide +kernel)⟩
theorem lw_p185 : lw_okq (⟨"PrinterHouseModel", "picture", "(II)J"⟩, 80) := ⟨⟨by decide +kernel, by decide +kernel⟩, List.mem_of_getElem? (i := 1651) (by decide +kernel), List.mem_of_getElem? (i := 2368) (by decide +kernel), List.mem_of_getElem? (i := 2369) (by decide +kernel)⟩
theorem lw_p186 : lw_okq (⟨"PrinterHouseModel", "directory", "(II)Z"⟩, 80) := ⟨⟨by decide +kernel, by decide +kernel⟩, List.mem_of_getElem? (i := 1651) (by decide +kernel), List.mem_of_getElem? (i := 2375) (by decide +kernel), List.mem_of_getElem? (i := 2376) (by decide +kernel)⟩
theorem lw_p187 : lw_okq (⟨"PrinterHouseModel", "valueOf", "(II)J"⟩, 80) := ⟨⟨by decide +kernel, by decide +kernel⟩, List.mem_of_getElem? (i := 1651) (by decide +kernel), List.mem_of_getElem? (i := 2383) (by decide +kernel), List.mem_of_getElem? (i := 2384) (by decide +kernel)⟩
theorem lw_p188 : lw_okq (⟨"PrinterHouseModel", "readRow", "()Z"⟩, 80) := ⟨⟨by decide +kernel, by decide +kernel⟩, List.mem_of_getElem? (i := 1651) (by decide +kernel), List.mem_of_getElem? (i := 2392) (by decide +kernel), List.mem_of_getElem? (i := 2393) (by decide +kernel)⟩
theorem lw_p189 : lw_okq (⟨"PrinterHouseModel", "mode", "()I"⟩, 80) := ⟨⟨by decide +kernel, by decide +kernel⟩, List.mem_of_getElem? (i := 1651) (by decide +kernel), List.mem_of_getElem? (i := 2396) (by decide +kernel), List.mem_of_getElem? (i := 2397) (by decide +kernel)⟩
theorem lw_p190 : lw_okq (⟨"PrinterHouseModel", "bit", "()I"⟩, 80) := ⟨⟨by decide +kernel, by decide +kernel⟩, List.mem_of_getElem? (i := 1651) (by decide +kernel), List.mem_of_getElem? (i := 2400) (by decide +kernel), List.mem_of_getElem? (i := 2401) (by decide +kernel)⟩
theorem lw_p191 : lw_okq (⟨"PrinterHouseModel", "readRun", "(I)I"⟩, 80) := ⟨⟨by decide +kernel, by decide +kernel⟩, List.mem_of_getElem? (i := 1651) (by decide +kernel), List.mem_of_getElem? (i := 2404) (by decide +kernel), List.mem_of_getElem? (i := 2405) (by decide +kernel)⟩
def lw_privs_12 : List (MethodName × Nat) := [(⟨"PrinterHouseModel", "fontAct", "()V"⟩, 80), (⟨"PrinterHouseModel", "userAct", "()V"⟩, 80), (⟨"PrinterHouseModel", "rasterField", "(I)V"⟩, 80), (⟨"PrinterHouseModel", "rowField", "(I)V"⟩, 80), (⟨"PrinterHouseModel", "fontField", "(III)V"⟩, 80), (⟨"PrinterHouseModel", "plain", "(I)V"⟩, 80), (⟨"PrinterHouseModel", "tab", "()V"⟩, 80), (⟨"PrinterHouseModel", "pictures", "(I)Z"⟩, 80), (⟨"PrinterHouseModel", "wrong", "(II)Z"⟩, 80), (⟨"PrinterHouseModel", "picture", "(II)J"⟩, 80), (⟨"PrinterHouseModel", "directory", "(II)Z"⟩, 80), (⟨"PrinterHouseModel", "valueOf", "(II)J"⟩, 80), (⟨"PrinterHouseModel", "readRow", "()Z"⟩, 80), (⟨"PrinterHouseModel", "mode", "()I"⟩, 80), (⟨"PrinterHouseModel", "bit", "()I"⟩, 80), (⟨"PrinterHouseModel", "readRun", "(I)I"⟩, 80)]
theorem lw_r12 : ∀ q ∈ lw_privs_12, lw_okq q := List.forall_mem_cons.mpr ⟨lw_p176, List.forall_mem_cons.mpr ⟨lw_p177, List.forall_mem_cons.mpr ⟨lw_p178, List.forall_mem_cons.mpr ⟨lw_p179, List.forall_mem_cons.mpr ⟨lw_p180, List.forall_mem_cons.mpr ⟨lw_p181, List.forall_mem_cons.mpr ⟨lw_p182, List.forall_mem_cons.mpr ⟨lw_p183, List.forall_mem_cons.mpr ⟨lw_p184, List.forall_mem_cons.mpr ⟨lw_p185, List.forall_mem_cons.mpr ⟨lw_p186, List.forall_mem_cons.mpr ⟨lw_p187, List.forall_mem_cons.mpr ⟨lw_p188, List.forall_mem_cons.mpr ⟨lw_p189, List.forall_mem_cons.mpr ⟨lw_p190, List.forall_mem_cons.mpr ⟨lw_p191, fun _ h => absurd h List.not_mem_nil⟩⟩⟩⟩⟩⟩⟩⟩⟩⟩⟩⟩⟩⟩⟩⟩
theorem lw_p192 : lw_okq (⟨"PrinterHouseModel", "oneRun", "(I)I"⟩, 80) := ⟨⟨by decide +kernel, by decide +kernel⟩, List.mem_of_getElem? (i := 1651) (by decide +kernel), List.mem_of_getElem? (i := 2408) (by decide +kernel), List.mem_of_getElem? (i := 2409) (by decide +kernel)⟩
theorem lw_p193 : lw_okq (⟨"PrinterHouseModel", "paint", "(II)V"⟩, 80) := ⟨⟨by decide +kernel, by decide +kernel⟩, List.mem_of_getElem? (i := 1651) (by decide +kernel), List.mem_of_getElem? (i := 2412) (by decide +kernel), List.mem_of_getElem? (i := 2413) (by decide +kernel)⟩
def lw_privs_13 : List (MethodName × Nat) := [(⟨"PrinterHouseModel", "oneRun", "(I)I"⟩, 80), (⟨"PrinterHouseModel", "paint", "(II)V"⟩, 80)]
theorem lw_r13 : ∀ q ∈ lw_privs_13, lw_okq q := List.forall_mem_cons.mpr ⟨lw_p192, List.forall_mem_cons.mpr ⟨lw_p193, fun _ h => absurd h List.not_mem_nil⟩⟩
def lw_privs : List (MethodName × Nat) := lw_privs_1 ++ (lw_privs_2 ++ (lw_privs_3 ++ (lw_privs_4 ++ (lw_privs_5 ++ (lw_privs_6 ++ (lw_privs_7 ++ (lw_privs_8 ++ (lw_privs_9 ++ (lw_privs_10 ++ (lw_privs_11 ++ (lw_privs_12 ++ (lw_privs_13))))))))))))
def lw_tbl : List Cond := k2_sels lw_privs ++ tables_1
theorem lw_privs_ok : ∀ q ∈ lw_privs, lw_okq q := by
  show ∀ q ∈ lw_privs_1 ++ (lw_privs_2 ++ (lw_privs_3 ++ (lw_privs_4 ++ (lw_privs_5 ++ (lw_privs_6 ++ (lw_privs_7 ++ (lw_privs_8 ++ (lw_privs_9 ++ (lw_privs_10 ++ (lw_privs_11 ++ (lw_privs_12 ++ (lw_privs_13)))))))))))), lw_okq q
  exact List.forall_mem_append.mpr ⟨lw_r1, List.forall_mem_append.mpr ⟨lw_r2, List.forall_mem_append.mpr ⟨lw_r3, List.forall_mem_append.mpr ⟨lw_r4, List.forall_mem_append.mpr ⟨lw_r5, List.forall_mem_append.mpr ⟨lw_r6, List.forall_mem_append.mpr ⟨lw_r7, List.forall_mem_append.mpr ⟨lw_r8, List.forall_mem_append.mpr ⟨lw_r9, List.forall_mem_append.mpr ⟨lw_r10, List.forall_mem_append.mpr ⟨lw_r11, List.forall_mem_append.mpr ⟨lw_r12, lw_r13⟩⟩⟩⟩⟩⟩⟩⟩⟩⟩⟩⟩
end
section
/-- the printed names use va_AOA and do not give it -/
def va_AOA (ty : FieldType) (U : State) : Prop := (Cond.arrayOver (.array ty)).before #[] U = true
theorem va_AOA.use {ty : FieldType} {A : Array Value} {U : State} (h : va_AOA ty U) : (Cond.arrayOver (.array ty)).before A U = true := h
/-! ===== BEGIN words of one list among another's, by their places ===== -/
theorem goodIn_r {big : List Cond} (ws : List Cond) (ps : List Nat) (hp : ws = ps.filterMap (fun i => big[i]?)) (h : ws.all goodWord = true) : GoodIn big ws := by
  intro w hw
  have h1 := List.all_eq_true.mp h w hw
  rw [hp] at hw
  obtain ⟨i, -, hi⟩ := List.mem_filterMap.mp hw
  have hm : w ∈ big := by first | exact List.mem_of_getElem? hi | exact List.getElem?_mem hi
  exact ⟨hm, good_of_word h1⟩
theorem goodIn_app {big a b : List Cond} (ha : GoodIn big a) (hb : GoodIn big b) : GoodIn big (a ++ b) := fun w h => (List.mem_append.mp h).elim (ha w) (hb w)
theorem goodIn_ca {big a b : List Cond} {c : Cond} (ha : GoodIn big (c :: a)) (hb : GoodIn big b) : GoodIn big (c :: (a ++ b)) := fun w h => (List.mem_cons.mp h).elim (fun e => ha w (List.mem_cons.mpr (Or.inl e))) (fun h => (List.mem_append.mp h).elim (fun h => ha w (List.mem_cons.mpr (Or.inr h))) (hb w))
theorem goodIn_sub {big ws : List Cond} (hm : ∀ w ∈ ws, w ∈ big) (h : ws.all goodWord = true) : GoodIn big ws := fun w hw => ⟨hm w hw, good_of_word (List.all_eq_true.mp h w hw)⟩
/-! ===== BEGIN new T[n][m]: the outer array a place, the inner ones among the pooled ===== -/
/-- f, but v at every address of l -/
def vr_up {α : Type} (f : Nat → α) (l : List Nat) (v : α) : Nat → α := fun a => if a ∈ l then v else f a
theorem vr_up_in {α : Type} {f : Nat → α} {l : List Nat} {v : α} {a : Nat} (h : a ∈ l) : vr_up f l v a = v := if_pos h
theorem vr_up_ne {α : Type} {f : Nat → α} {l : List Nat} {v : α} {a : Nat} (h : a ∉ l) : vr_up f l v a = f a := if_neg h
theorem vr_rows {L l : List Nat} {f : Nat → va_E} {e : va_E} (h : ∀ a, a ∈ l → a ∉ L) : va_pl L f ++ l.map (fun a => (a, e)) = va_pl (L ++ l) (vr_up f l e) := by
  unfold va_pl
  rw [List.map_append]
  congr 1
  · apply List.map_congr_left
    intro a ha
    rw [vr_up_ne (fun q => h a q ha)]
  · apply List.map_congr_left
    intro a ha
    rw [vr_up_in ha]
theorem vr_lay {X rows : va_W} {x : Nat × va_E} {pl : va_W} {D : va_G} {cl : List vw_C} {H : Heap} (hP : va_P D cl (((X ++ pl) ++ [x]) ++ rows) H) : va_P D cl ((X ++ [x]) ++ (pl ++ rows)) H := by
  rw [List.append_assoc (X ++ pl)] at hP
  have h := va_P.swap hP
  rw [← List.append_assoc X] at h
  have h2 := va_P.swap h
  rw [List.append_assoc (X ++ [x])] at h2
  exact h2
theorem vr_layD {X rows : va_W} {x : Nat × va_E} {pl : va_W} {A : Nat → Prop} (hD : va_D A (((X ++ pl) ++ [x]) ++ rows)) : va_D A ((X ++ [x]) ++ (pl ++ rows)) := by
  rw [List.append_assoc (X ++ pl)] at hD
  have h := va_D.swap hD
  rw [← List.append_assoc X] at h
  have h2 := va_D.swap h
  rw [List.append_assoc (X ++ [x])] at h2
  exact h2
theorem vr_outer (c : ClassId) (N h0 : Nat) : ∀ i : Nat, Jvm.Free.Multi.outerC c N h0 i = arrV c N (fun j => va_rf (if j < i then some (h0 + 1 + j) else none))
  | 0 => by
    show ({ cls := c, slots := Array.replicate N .null, vm := .none } : Cell) = _
    rw [arrV_new]
    refine congrArg (arrV c N) (funext fun j => ?_)
    simp [va_rf]
  | i + 1 => by
    show (Jvm.Free.Multi.outerC c N h0 i).setSlot i (.ref (h0 + 1 + i)) = _
    rw [vr_outer c N h0 i, arrV_store]
    refine congrArg (arrV c N) (funext fun j => ?_)
    by_cases e : j = i
    · subst e
      simp [updV, va_rf]
    · by_cases h : j < i
      · simp [updV, e, h, Nat.lt_succ_of_lt h]
      · simp [updV, e, h, show ¬ j < i + 1 by omega]
section VGM
variable {p : Program} {l : Launch} {e : Env} {R : Room} {s : State} {m : MethodId} {args : Array Value} {below : List Frame} {meth : Method} {c : Code} {H : Heap} {locs : List Loc} {cells slots : Nat} {Q : State → Prop}
variable {cc : ByteArray} {pc : Nat} {ls : Array Slot} {rest : List Value} {D : va_G} {cl : List vw_C} {A : Nat → Prop} {a : Nat} {tys : List (ClassId × FieldType)} {ws : va_W} {H0 : Heap}
theorem va_mna {X : va_W} {L : List Nat} {f : Nat → va_E} {cc : ByteArray} (hexec : p.tables.exec = Jvm.exec) (hb : c.code = cc) {own : String} {index : Nat} {ty : FieldType} {cy : ClassId} (hown : s.vm.findClass own = some m.cls) (hclink : (Cond.classLink own index ("[" ++ (FieldType.array ty).toString)).before args s = true) (hover : va_AOA ty s) (harr : (Cond.arrayClass ty).before args s = true) (hcy : s.vm.findClass (FieldType.array ty).toString = some cy)
    (hK : va_K D cl tys s) (hP : va_P D cl (X ++ va_pl L f) H) (hD : va_D A (X ++ va_pl L f)) (hS : va_S A H0 H locs) (hA : ∀ q, H0.size ≤ q → A q) {n k : Int32} {N' K' : Nat} {z : vp_A} (hn : ¬ n < 0) (hk : ¬ k < 0) (hN : n.toNatClampNeg = N') (hM : k.toNatClampNeg = K')
    (hb1 : N' * 4 ≤ 536870912) (hb2 : K' * componentBytes ty ≤ 536870912) (hb3 : K' ≤ 536870912) (hdf : fits ty (defaultValue ty) = true) (hdd : (defaultValue ty).isDefault = true) (hcells : cells + (1 + N') ≤ R.cells) (hslots : slots + (N' + N' * K') ≤ R.slots) (hz : ∀ c : ClassId, Jvm.Free.Multi.innerC c K' (defaultValue ty) = vp_cell c z) (hdg : decode cc pc = .ok (.multianewarray index 2, 4))
    (kk : ∀ (q : Nat) (r : Nat → Nat) (cA : ClassId) (H1 : Heap), (∀ i j : Nat, i < N' → j < N' → r i = r j → i = j) → (∀ i : Nat, i < N' → r i ∉ L) → va_K D cl (tys ++ [(cA, .array ty)]) s →
      va_P D cl ((X ++ [(q, .inl (cA, N', .inr (.inr (.inr (.inr (fun i => if i < N' then some (r i) else none))))))]) ++ va_pl (L ++ (List.range N').map r) (vr_up f ((List.range N').map r) (.inl (cy, z)))) H1 → va_D A ((X ++ [(q, .inl (cA, N', .inr (.inr (.inr (.inr (fun i => if i < N' then some (r i) else none))))))]) ++ va_pl (L ++ (List.range N').map r) (vr_up f ((List.range N').map r) (.inl (cy, z)))) → va_S A H0 H1 locs →
      W p l e R s m args below meth c H1 locs (cells + 1 + N') (slots + N' + N' * K') Q (F0 m (pc + 4) ls (.ref q :: rest))) : W p l e R s m args below meth c H locs cells slots Q (F0 m pc ls (.int k :: .int n :: rest)) := by
  subst hN
  subst hM
  intro T hT Xs
  obtain ⟨vm₁, cA, comp, -, fA, fC, hO, -, X', step⟩ := Xs.multianewarray2F hexec hown hclink (va_AOA.use hover) harr (g := F0 m pc ls (.int k :: .int n :: rest)) rfl (by rw [hb]; exact hdg) rfl hn hk hb1 hb2 hb3 hdf hdd hcells hslots
  have ec : some cy = some comp := hcy.symm.trans fC
  cases ec
  generalize hF : Jvm.Free.Multi.fill (T.setVm vm₁) cA cy n.toNatClampNeg k.toNatClampNeg (defaultValue ty) n.toNatClampNeg = F at X' step
  have hTh : (T.setVm vm₁).heap = H := hT
  obtain ⟨f1, f2, -, -⟩ := Jvm.Free.Multi.fill_facts (T.setVm vm₁) cA cy n.toNatClampNeg k.toNatClampNeg (defaultValue ty) n.toNatClampNeg
  rw [hF, hTh] at f1 f2
  have hold : ∀ x : Nat, x < H.size → F.heap[x]? = H[x]? := fun x hx => by
    have := Jvm.Free.Multi.fill_old (T.setVm vm₁) cA cy n.toNatClampNeg k.toNatClampNeg (defaultValue ty) (a := x) (by rw [hTh]; exact hx) n.toNatClampNeg
    rw [hF, hTh] at this
    exact this
  have hrow : ∀ j : Nat, j < n.toNatClampNeg → F.heap[H.size + 1 + j]? = some (vp_cell cy z) := fun j hj => by
    have := Jvm.Free.Multi.fill_inner (T.setVm vm₁) cA cy n.toNatClampNeg k.toNatClampNeg (defaultValue ty) n.toNatClampNeg j hj
    rw [hF, hTh, hz] at this
    exact this
  have hout : Jvm.Free.Multi.outerC cA n.toNatClampNeg H.size n.toNatClampNeg = vp_cell cA (n.toNatClampNeg, .inr (.inr (.inr (.inr (fun i => if i < n.toNatClampNeg then some (H.size + 1 + i) else none))))) := by
    rw [vp_cell_q]
    exact vr_outer cA n.toNatClampNeg H.size n.toNatClampNeg
  rw [hout] at f2
  have hlt : ∀ a, a ∈ L → a < H.size := fun a ha => by
    obtain ⟨k9, hk9⟩ := va_pl_get (X := X) (f := f) ha
    exact (hP k9 _ hk9).lt
  have hnl : ∀ i : Nat, i < n.toNatClampNeg → H.size + 1 + i ∉ L := fun i _ h => by
    have := hlt _ h
    omega
  have hnm : ∀ a, a ∈ (List.range n.toNatClampNeg).map (fun i => H.size + 1 + i) → a ∉ L := fun a ha h => by
    obtain ⟨i, -, rfl⟩ := List.mem_map.mp ha
    have := hlt _ h
    omega
  have hP0 : va_P D cl (X ++ va_pl L f) F.heap := hP.kept (fun k9 x hx => hold x.1 ((hP k9 x hx).lt))
  have hP1 : va_P D cl ((X ++ va_pl L f) ++ [(H.size, .inl (cA, n.toNatClampNeg, .inr (.inr (.inr (.inr (fun i => if i < n.toNatClampNeg then some (H.size + 1 + i) else none))))))]) F.heap := hP0.app (fun k9 x hx => by
    have h0 : k9 < 1 := (List.getElem?_eq_some_iff.mp hx).1
    rw [show k9 = 0 by omega] at hx
    cases hx
    exact f2)
  have hP2 : va_P D cl (((X ++ va_pl L f) ++ [(H.size, .inl (cA, n.toNatClampNeg, .inr (.inr (.inr (.inr (fun i => if i < n.toNatClampNeg then some (H.size + 1 + i) else none))))))]) ++ ((List.range n.toNatClampNeg).map (fun i => H.size + 1 + i)).map (fun a => (a, .inl (cy, z)))) F.heap := hP1.app (fun k9 x hx => by
    obtain ⟨a, ha, rfl⟩ := List.mem_map.mp (List.mem_of_getElem? hx)
    obtain ⟨i, hi, rfl⟩ := List.mem_map.mp ha
    exact hrow i (List.mem_range.mp hi))
  have hD2 : va_D A (((X ++ va_pl L f) ++ [(H.size, .inl (cA, n.toNatClampNeg, .inr (.inr (.inr (.inr (fun i => if i < n.toNatClampNeg then some (H.size + 1 + i) else none))))))]) ++ ((List.range n.toNatClampNeg).map (fun i => H.size + 1 + i)).map (fun a => (a, .inl (cy, z)))) := by
    have hD1 := hD.push (e := .inl (cA, n.toNatClampNeg, .inr (.inr (.inr (.inr (fun i => if i < n.toNatClampNeg then some (H.size + 1 + i) else none)))))) hP rfl (hA _ hS.1)
    generalize hW1 : (X ++ va_pl L f) ++ [(H.size, .inl (cA, n.toNatClampNeg, .inr (.inr (.inr (.inr (fun i => if i < n.toNatClampNeg then some (H.size + 1 + i) else none))))))] = W1 at hD1 hP1 ⊢
    have hle : ∀ (k9 : Nat) (x : Nat × va_E), W1[k9]? = some x → x.1 ≤ H.size := fun k9 x hx => by
      rw [← hW1] at hx
      by_cases hl : k9 < (X ++ va_pl L f).length
      · rw [List.getElem?_append_left hl] at hx
        exact Nat.le_of_lt ((hP k9 x hx).lt)
      · rw [List.getElem?_append_right (by omega)] at hx
        have h0 : k9 - (X ++ va_pl L f).length < 1 := (List.getElem?_eq_some_iff.mp hx).1
        rw [show k9 - (X ++ va_pl L f).length = 0 by omega] at hx
        cases hx
        exact Nat.le_refl _
    have hr : ∀ (k9 : Nat) (x : Nat × va_E), (((List.range n.toNatClampNeg).map (fun i => H.size + 1 + i)).map (fun a => ((a, .inl (cy, z)) : Nat × va_E)))[k9]? = some x → x.1 = H.size + 1 + k9 := fun k9 x hx => by
      rw [List.getElem?_map, List.getElem?_map] at hx
      by_cases h9 : k9 < n.toNatClampNeg
      · rw [List.getElem?_range h9] at hx
        cases hx
        rfl
      · have hn0 : (List.range n.toNatClampNeg)[k9]? = none := List.getElem?_eq_none (by rw [List.length_range]; omega)
        rw [hn0] at hx
        cases hx
    refine ⟨fun i j x y hi hj hxy => ?_, fun k9 x hx => ?_⟩
    · by_cases h1 : i < W1.length <;> by_cases h2 : j < W1.length
      · rw [List.getElem?_append_left h1] at hi
        rw [List.getElem?_append_left h2] at hj
        exact hD1.1 i j x y hi hj hxy
      · rw [List.getElem?_append_left h1] at hi
        rw [List.getElem?_append_right (by omega)] at hj
        have := hle _ _ hi
        have := hr _ _ hj
        omega
      · rw [List.getElem?_append_right (by omega)] at hi
        rw [List.getElem?_append_left h2] at hj
        have := hle _ _ hj
        have := hr _ _ hi
        omega
      · rw [List.getElem?_append_right (by omega)] at hi hj
        have := hr _ _ hi
        have := hr _ _ hj
        omega
    · by_cases h1 : k9 < W1.length
      · rw [List.getElem?_append_left h1] at hx
        exact hD1.2 k9 x hx
      · rw [List.getElem?_append_right (by omega)] at hx
        have := hr _ _ hx
        exact hA _ (by have := hS.1; omega)
  have hAr : ArrOfT s cA (.array ty) := fun N9 z9 => by
    obtain ⟨-, k9, hk9, cm9, hkk9⟩ := (hO 0 0 0).1
    exact ⟨(fun q hq => by cases hq), k9, hk9, cm9, hkk9⟩
  have hK2 : va_K D cl (tys ++ [(cA, .array ty)]) s := ⟨hK.1, fun k9 x hx => by
    by_cases hl : k9 < tys.length
    · rw [List.getElem?_append_left hl] at hx
      exact hK.2 k9 x hx
    · rw [List.getElem?_append_right (by omega)] at hx
      have h0 : k9 - tys.length < 1 := (List.getElem?_eq_some_iff.mp hx).1
      rw [show k9 - tys.length = 0 by omega] at hx
      cases hx
      exact ⟨hAr, fA⟩⟩
  obtain ⟨t, a1, b1⟩ := kk H.size (fun i => H.size + 1 + i) cA F.heap (fun i j _ _ h => by have h9 : H.size + 1 + i = H.size + 1 + j := h; omega) hnl hK2 (by rw [← vr_rows hnm]; exact vr_lay hP2) (by rw [← vr_rows hnm]; exact vr_layD hD2) ⟨by rw [f1]; have := hS.1; omega, fun x h1 h2 => (hold x (Nat.lt_of_lt_of_le h1 hS.1)).trans (hS.2.1 x h1 h2), hS.2.2⟩ F rfl X'
  refine ⟨t, step t ?_, b1⟩
  have e : T.heap.size = H.size := by rw [hT]
  rw [e]
  exact a1
end VGM
/-! ===== BEGIN printed: names, fields, word lists, decode rows ===== -/
def RX0 : String := "PrinterHouse$Canvas"
def TX0 : u_T := fun k => match k with
  | 0 => ("PrinterHouse$Canvas", "dots", "[I", true)
  | 1 => ("PrinterHouse$Canvas", "line", "[I", true)
  | 2 => ("PrinterHouse$Canvas", "marks", "I", false)
  | 3 => ("PrinterHouse$Canvas", "made", "I", false)
  | 4 => ("PrinterHouse$Canvas", "covered", "I", false)
  | 5 => ("PrinterHouse$Canvas", "isMuch", "Z", false)
  | 6 => ("PrinterHouse$Canvas", "fromX", "I", false)
  | 7 => ("PrinterHouse$Canvas", "toX", "I", false)
  | 8 => ("PrinterHouse$Canvas", "fromY", "I", false)
  | 9 => ("PrinterHouse$Canvas", "toY", "I", false)
  | 10 => ("PrinterHouse$Canvas", "tile", "LPrinterHouse$Tile;", false)
  | 11 => ("PrinterHouse$Canvas", "originX", "I", false)
  | 12 => ("PrinterHouse$Canvas", "originY", "I", false)
  | 13 => ("PrinterHouse$Canvas", "sourceWhitens", "I", false)
  | _ => ("PrinterHouse$Canvas", "patternWhitens", "I", false)
def tyX0 : Nat → FieldType := fun k => match k with
  | 0 => .array .int
  | 1 => .array .int
  | 2 => .int
  | 3 => .int
  | 4 => .int
  | 5 => .boolean
  | 6 => .int
  | 7 => .int
  | 8 => .int
  | 9 => .int
  | 10 => .object "PrinterHouse$Tile"
  | 11 => .int
  | 12 => .int
  | 13 => .int
  | _ => .int
abbrev wsX00 : List Cond := u_ws RX0 TX0 15
theorem nmX0 : ∀ a, a < 15 → ∀ b, b < 15 → a ≠ b → (TX0 a).2.1 ≠ (TX0 b).2.1 := by decide +kernel
theorem tyX0_ok : ∀ k, k < 15 → parseFieldDescriptor (TX0 k).2.2.1 = some (tyX0 k) := by decide +kernel
abbrev cX0_init : ByteArray := prog_2_method_1_code
def yX0_init : MethodName := ⟨RX0, "<init>", "()V"⟩
abbrev cX0_startJob : ByteArray := prog_2_method_2_code
def yX0_startJob : MethodName := ⟨RX0, "startJob", "()V"⟩
abbrev cX0_clear : ByteArray := prog_2_method_3_code
def yX0_clear : MethodName := ⟨RX0, "clear", "()V"⟩
abbrev cX0_ink : ByteArray := prog_2_method_4_code
def yX0_ink : MethodName := ⟨RX0, "ink", "(LPrinterHouse$Tile;LPrinterHouse$Environment;)V"⟩
abbrev cX0_mark : ByteArray := prog_2_method_5_code
def yX0_mark : MethodName := ⟨RX0, "mark", "(LPrinterHouse$Sheet;IIII)Z"⟩
abbrev cX0_layBlack : ByteArray := prog_2_method_6_code
def yX0_layBlack : MethodName := ⟨RX0, "layBlack", "()V"⟩
abbrev cX0_layWord : ByteArray := prog_2_method_7_code
def yX0_layWord : MethodName := ⟨RX0, "layWord", "(II)V"⟩
abbrev cX0_layRow : ByteArray := prog_2_method_8_code
def yX0_layRow : MethodName := ⟨RX0, "layRow", "(LPrinterHouse$Raster;)V"⟩
abbrev cX0_paintRow : ByteArray := prog_2_method_9_code
def yX0_paintRow : MethodName := ⟨RX0, "paintRow", "(I)V"⟩
abbrev cX0_copyTo : ByteArray := prog_2_method_10_code
def yX0_copyTo : MethodName := ⟨RX0, "copyTo", "([ILPrinterHouse$Sheet;)V"⟩
abbrev cX0_turnWord : ByteArray := prog_2_method_11_code
def yX0_turnWord : MethodName := ⟨RX0, "turnWord", "([IIII)V"⟩
def RX1 : String := "PrinterHouse$Environment"
def TX1 : u_T := fun k => match k with
  | 0 => ("PrinterHouse$Environment", "sheet", "LPrinterHouse$Sheet;", true)
  | 1 => ("PrinterHouse$Environment", "raster", "LPrinterHouse$Raster;", true)
  | 2 => ("PrinterHouse$Environment", "pattern", "LPrinterHouse$Tile;", true)
  | 3 => ("PrinterHouse$Environment", "primary", "[I", true)
  | 4 => ("PrinterHouse$Environment", "secondary", "[I", true)
  | 5 => ("PrinterHouse$Environment", "isSecondary", "Z", false)
  | 6 => ("PrinterHouse$Environment", "copies", "I", false)
  | 7 => ("PrinterHouse$Environment", "isSkipping", "Z", false)
  | 8 => ("PrinterHouse$Environment", "ends", "I", false)
  | 9 => ("PrinterHouse$Environment", "isWrapping", "Z", false)
  | 10 => ("PrinterHouse$Environment", "sourceOpaque", "Z", false)
  | 11 => ("PrinterHouse$Environment", "patternOpaque", "Z", false)
  | 12 => ("PrinterHouse$Environment", "patternX", "I", false)
  | 13 => ("PrinterHouse$Environment", "patternY", "I", false)
  | 14 => ("PrinterHouse$Environment", "boxWide", "I", false)
  | 15 => ("PrinterHouse$Environment", "boxHigh", "I", false)
  | 16 => ("PrinterHouse$Environment", "fontId", "I", false)
  | 17 => ("PrinterHouse$Environment", "code", "I", false)
  | 18 => ("PrinterHouse$Environment", "patternNumber", "I", false)
  | 19 => ("PrinterHouse$Environment", "macroId", "I", false)
  | _ => ("PrinterHouse$Environment", "overlay", "I", false)
def tyX1 : Nat → FieldType := fun k => match k with
  | 0 => .object "PrinterHouse$Sheet"
  | 1 => .object "PrinterHouse$Raster"
  | 2 => .object "PrinterHouse$Tile"
  | 3 => .array .int
  | 4 => .array .int
  | 5 => .boolean
  | 6 => .int
  | 7 => .boolean
  | 8 => .int
  | 9 => .boolean
  | 10 => .boolean
  | 11 => .boolean
  | 12 => .int
  | 13 => .int
  | 14 => .int
  | 15 => .int
  | 16 => .int
  | 17 => .int
  | 18 => .int
  | 19 => .int
  | _ => .int
abbrev wsX10 : List Cond := u_ws RX1 TX1 21
theorem nmX1 : ∀ a, a < 21 → ∀ b, b < 21 → a ≠ b → (TX1 a).2.1 ≠ (TX1 b).2.1 := by decide +kernel
theorem tyX1_ok : ∀ k, k < 21 → parseFieldDescriptor (TX1 k).2.2.1 = some (tyX1 k) := by decide +kernel
abbrev cX1_init : ByteArray := prog_3_method_1_code
def yX1_init : MethodName := ⟨RX1, "<init>", "()V"⟩
abbrev cX1_copy : ByteArray := prog_3_method_2_code
def yX1_copy : MethodName := ⟨RX1, "copy", "(LPrinterHouse$Environment;)V"⟩
abbrev cX1_reset : ByteArray := prog_3_method_3_code
def yX1_reset : MethodName := ⟨RX1, "reset", "(II)V"⟩
abbrev cX1_wishes : ByteArray := prog_3_method_4_code
def yX1_wishes : MethodName := ⟨RX1, "wishes", "()[I"⟩
def RX2 : String := "PrinterHouse$Fonts"
def TX2 : u_T := fun k => match k with
  | 0 => ("PrinterHouse$Fonts", "shelf", "LPrinterHouse$Shelf;", true)
  | 1 => ("PrinterHouse$Fonts", "numbers", "[I", true)
  | 2 => ("PrinterHouse$Fonts", "slots", "[I", true)
  | 3 => ("PrinterHouse$Fonts", "taken", "[Z", true)
  | 4 => ("PrinterHouse$Fonts", "heads", "[I", true)
  | 5 => ("PrinterHouse$Fonts", "rows", "[I", true)
  | 6 => ("PrinterHouse$Fonts", "glyphs", "I", false)
  | 7 => ("PrinterHouse$Fonts", "asked", "[I", true)
  | 8 => ("PrinterHouse$Fonts", "answer", "I", false)
  | _ => ("PrinterHouse$Fonts", "isAnswered", "Z", false)
def tyX2 : Nat → FieldType := fun k => match k with
  | 0 => .object "PrinterHouse$Shelf"
  | 1 => .array .int
  | 2 => .array .int
  | 3 => .array .boolean
  | 4 => .array .int
  | 5 => .array .int
  | 6 => .int
  | 7 => .array .int
  | 8 => .int
  | _ => .boolean
abbrev wsX20 : List Cond := u_ws RX2 TX2 10
theorem nmX2 : ∀ a, a < 10 → ∀ b, b < 10 → a ≠ b → (TX2 a).2.1 ≠ (TX2 b).2.1 := by decide +kernel
theorem tyX2_ok : ∀ k, k < 10 → parseFieldDescriptor (TX2 k).2.2.1 = some (tyX2 k) := by decide +kernel
abbrev cX2_init : ByteArray := prog_4_method_1_code
def yX2_init : MethodName := ⟨RX2, "<init>", "()V"⟩
abbrev cX2_firstWishes : ByteArray := prog_4_method_2_code
def yX2_firstWishes : MethodName := ⟨RX2, "firstWishes", "([I)V"⟩
abbrev cX2_setHead : ByteArray := prog_4_method_3_code
def yX2_setHead : MethodName := ⟨RX2, "setHead", "(IIIIII)V"⟩
abbrev cX2_has : ByteArray := prog_4_method_4_code
def yX2_has : MethodName := ⟨RX2, "has", "(I)Z"⟩
abbrev cX2_number : ByteArray := prog_4_method_5_code
def yX2_number : MethodName := ⟨RX2, "number", "(II)I"⟩
abbrev cX2_setNumber : ByteArray := prog_4_method_6_code
def yX2_setNumber : MethodName := ⟨RX2, "setNumber", "(III)V"⟩
abbrev cX2_wishFor : ByteArray := prog_4_method_7_code
def yX2_wishFor : MethodName := ⟨RX2, "wishFor", "(I[I)Z"⟩
abbrev cX2_glyphOf : ByteArray := prog_4_method_8_code
def yX2_glyphOf : MethodName := ⟨RX2, "glyphOf", "(II)I"⟩
abbrev cX2_head : ByteArray := prog_4_method_9_code
def yX2_head : MethodName := ⟨RX2, "head", "(II)I"⟩
abbrev cX2_rowOf : ByteArray := prog_4_method_10_code
def yX2_rowOf : MethodName := ⟨RX2, "rowOf", "(II)I"⟩
abbrev cX2_send : ByteArray := prog_4_method_11_code
def yX2_send : MethodName := ⟨RX2, "send", "(ILPrinterHouse$Reading;)V"⟩
abbrev cX2_sendGlyph : ByteArray := prog_4_method_12_code
def yX2_sendGlyph : MethodName := ⟨RX2, "sendGlyph", "(IILPrinterHouse$Reading;)V"⟩
abbrev cX2_slotFor : ByteArray := prog_4_method_13_code
def yX2_slotFor : MethodName := ⟨RX2, "slotFor", "(II)I"⟩
abbrev cX2_removeGlyph : ByteArray := prog_4_method_14_code
def yX2_removeGlyph : MethodName := ⟨RX2, "removeGlyph", "(II)V"⟩
abbrev cX2_remove : ByteArray := prog_4_method_15_code
def yX2_remove : MethodName := ⟨RX2, "remove", "(I)V"⟩
abbrev cX2_removeMany : ByteArray := prog_4_method_16_code
def yX2_removeMany : MethodName := ⟨RX2, "removeMany", "(Z)V"⟩
abbrev cX2_inUse : ByteArray := prog_4_method_17_code
def yX2_inUse : MethodName := ⟨RX2, "inUse", "([I)I"⟩
abbrev cX2_choose : ByteArray := prog_4_method_18_code
def yX2_choose : MethodName := ⟨RX2, "choose", "()I"⟩
abbrev cX2_alike : ByteArray := prog_4_method_19_code
def yX2_alike : MethodName := ⟨RX2, "alike", "(III)I"⟩
abbrev cX2_nearest : ByteArray := prog_4_method_20_code
def yX2_nearest : MethodName := ⟨RX2, "nearest", "(II)I"⟩
def RX3 : String := "PrinterHouse$Pictures"
def TX3 : u_T := fun k => match k with
  | 0 => ("PrinterHouse$Pictures", "sheaf", "LPrinterHouse$Sheaf;", true)
  | 1 => ("PrinterHouse$Pictures", "bytes", "[B", false)
  | 2 => ("PrinterHouse$Pictures", "start", "I", false)
  | 3 => ("PrinterHouse$Pictures", "size", "I", false)
  | 4 => ("PrinterHouse$Pictures", "fault", "I", false)
  | 5 => ("PrinterHouse$Pictures", "faultPlace", "I", false)
  | 6 => ("PrinterHouse$Pictures", "lowestFirst", "Z", false)
  | 7 => ("PrinterHouse$Pictures", "seen", "[J", true)
  | 8 => ("PrinterHouse$Pictures", "directories", "I", false)
  | 9 => ("PrinterHouse$Pictures", "wide", "J", false)
  | 10 => ("PrinterHouse$Pictures", "high", "J", false)
  | 11 => ("PrinterHouse$Pictures", "code", "J", false)
  | 12 => ("PrinterHouse$Pictures", "colours", "J", false)
  | 13 => ("PrinterHouse$Pictures", "bitOrder", "J", false)
  | 14 => ("PrinterHouse$Pictures", "stripRows", "J", false)
  | 15 => ("PrinterHouse$Pictures", "placesEntry", "J", false)
  | 16 => ("PrinterHouse$Pictures", "lengthsEntry", "J", false)
  | 17 => ("PrinterHouse$Pictures", "strip", "[B", true)
  | 18 => ("PrinterHouse$Pictures", "bit", "I", false)
  | 19 => ("PrinterHouse$Pictures", "bitEnd", "I", false)
  | _ => ("PrinterHouse$Pictures", "runs", "[S", true)
def tyX3 : Nat → FieldType := fun k => match k with
  | 0 => .object "PrinterHouse$Sheaf"
  | 1 => .array .byte
  | 2 => .int
  | 3 => .int
  | 4 => .int
  | 5 => .int
  | 6 => .boolean
  | 7 => .array .long
  | 8 => .int
  | 9 => .long
  | 10 => .long
  | 11 => .long
  | 12 => .long
  | 13 => .long
  | 14 => .long
  | 15 => .long
  | 16 => .long
  | 17 => .array .byte
  | 18 => .int
  | 19 => .int
  | _ => .array .short
abbrev wsX30 : List Cond := u_ws RX3 TX3 21
theorem nmX3 : ∀ a, a < 21 → ∀ b, b < 21 → a ≠ b → (TX3 a).2.1 ≠ (TX3 b).2.1 := by decide +kernel
theorem tyX3_ok : ∀ k, k < 21 → parseFieldDescriptor (TX3 k).2.2.1 = some (tyX3 k) := by decide +kernel
abbrev cX3_init : ByteArray := prog_5_method_1_code
def yX3_init : MethodName := ⟨RX3, "<init>", "(LPrinterHouse$Sheaf;)V"⟩
abbrev cX3_read : ByteArray := prog_5_method_2_code
def yX3_read : MethodName := ⟨RX3, "read", "([BII)V"⟩
abbrev cX3_fail : ByteArray := prog_5_method_3_code
def yX3_fail : MethodName := ⟨RX3, "fail", "(IJ)V"⟩
abbrev cX3_byteAt : ByteArray := prog_5_method_4_code
def yX3_byteAt : MethodName := ⟨RX3, "byteAt", "(J)I"⟩
abbrev cX3_number : ByteArray := prog_5_method_5_code
def yX3_number : MethodName := ⟨RX3, "number", "(JI)J"⟩
abbrev cX3_readHeader : ByteArray := prog_5_method_6_code
def yX3_readHeader : MethodName := ⟨RX3, "readHeader", "()V"⟩
abbrev cX3_readDirectory : ByteArray := prog_5_method_7_code
def yX3_readDirectory : MethodName := ⟨RX3, "readDirectory", "(J)J"⟩
abbrev cX3_isDirectory : ByteArray := prog_5_method_8_code
def yX3_isDirectory : MethodName := ⟨RX3, "isDirectory", "(JI)Z"⟩
abbrev cX3_startEntries : ByteArray := prog_5_method_9_code
def yX3_startEntries : MethodName := ⟨RX3, "startEntries", "()V"⟩
abbrev cX3_readEntry : ByteArray := prog_5_method_10_code
def yX3_readEntry : MethodName := ⟨RX3, "readEntry", "(J)V"⟩
abbrev cX3_isOfOne : ByteArray := prog_5_method_11_code
def yX3_isOfOne : MethodName := ⟨RX3, "isOfOne", "(I)Z"⟩
abbrev cX3_tell : ByteArray := prog_5_method_12_code
def yX3_tell : MethodName := ⟨RX3, "tell", "(IJ)Z"⟩
abbrev cX3_checkEntries : ByteArray := prog_5_method_13_code
def yX3_checkEntries : MethodName := ⟨RX3, "checkEntries", "(J)V"⟩
abbrev cX3_strips : ByteArray := prog_5_method_14_code
def yX3_strips : MethodName := ⟨RX3, "strips", "()J"⟩
abbrev cX3_isList : ByteArray := prog_5_method_15_code
def yX3_isList : MethodName := ⟨RX3, "isList", "(J)Z"⟩
abbrev cX3_listed : ByteArray := prog_5_method_16_code
def yX3_listed : MethodName := ⟨RX3, "listed", "(JI)J"⟩
abbrev cX3_readStrips : ByteArray := prog_5_method_17_code
def yX3_readStrips : MethodName := ⟨RX3, "readStrips", "()V"⟩
abbrev cX3_invert : ByteArray := prog_5_method_18_code
def yX3_invert : MethodName := ⟨RX3, "invert", "([I)V"⟩
abbrev cX3_openStrip : ByteArray := prog_5_method_19_code
def yX3_openStrip : MethodName := ⟨RX3, "openStrip", "(II)V"⟩
abbrev cX3_peek : ByteArray := prog_5_method_20_code
def yX3_peek : MethodName := ⟨RX3, "peek", "(I)I"⟩
abbrev cX3_skipBits : ByteArray := prog_5_method_21_code
def yX3_skipBits : MethodName := ⟨RX3, "skipBits", "(I)Z"⟩
abbrev cX3_readMode : ByteArray := prog_5_method_22_code
def yX3_readMode : MethodName := ⟨RX3, "readMode", "()I"⟩
abbrev cX3_readRun : ByteArray := prog_5_method_23_code
def yX3_readRun : MethodName := ⟨RX3, "readRun", "(I)I"⟩
abbrev cX3_readRow : ByteArray := prog_5_method_24_code
def yX3_readRow : MethodName := ⟨RX3, "readRow", "([III)Z"⟩
def RX4 : String := "PrinterHouse$Raster"
def TX4 : u_T := fun k => match k with
  | 0 => ("PrinterHouse$Raster", "scale", "I", false)
  | 1 => ("PrinterHouse$Raster", "packing", "I", false)
  | 2 => ("PrinterHouse$Raster", "wide", "I", false)
  | 3 => ("PrinterHouse$Raster", "high", "I", false)
  | 4 => ("PrinterHouse$Raster", "isOn", "Z", false)
  | 5 => ("PrinterHouse$Raster", "start", "I", false)
  | 6 => ("PrinterHouse$Raster", "rows", "I", false)
  | _ => ("PrinterHouse$Raster", "row", "[I", true)
def tyX4 : Nat → FieldType := fun k => match k with
  | 0 => .int
  | 1 => .int
  | 2 => .int
  | 3 => .int
  | 4 => .boolean
  | 5 => .int
  | 6 => .int
  | _ => .array .int
abbrev wsX40 : List Cond := u_ws RX4 TX4 8
theorem nmX4 : ∀ a, a < 8 → ∀ b, b < 8 → a ≠ b → (TX4 a).2.1 ≠ (TX4 b).2.1 := by decide +kernel
theorem tyX4_ok : ∀ k, k < 8 → parseFieldDescriptor (TX4 k).2.2.1 = some (tyX4 k) := by decide +kernel
abbrev cX4_init : ByteArray := prog_6_method_1_code
def yX4_init : MethodName := ⟨RX4, "<init>", "()V"⟩
abbrev cX4_copy : ByteArray := prog_6_method_2_code
def yX4_copy : MethodName := ⟨RX4, "copy", "(LPrinterHouse$Raster;)V"⟩
abbrev cX4_reset : ByteArray := prog_6_method_3_code
def yX4_reset : MethodName := ⟨RX4, "reset", "()V"⟩
abbrev cX4_begin : ByteArray := prog_6_method_4_code
def yX4_begin : MethodName := ⟨RX4, "begin", "(I)V"⟩
abbrev cX4_end : ByteArray := prog_6_method_5_code
def yX4_end : MethodName := ⟨RX4, "end", "(Z)V"⟩
abbrev cX4_clearRow : ByteArray := prog_6_method_6_code
def yX4_clearRow : MethodName := ⟨RX4, "clearRow", "()V"⟩
abbrev cX4_isFull : ByteArray := prog_6_method_7_code
def yX4_isFull : MethodName := ⟨RX4, "isFull", "()Z"⟩
abbrev cX4_dotsInRow : ByteArray := prog_6_method_8_code
def yX4_dotsInRow : MethodName := ⟨RX4, "dotsInRow", "()I"⟩
abbrev cX4_put : ByteArray := prog_6_method_9_code
def yX4_put : MethodName := ⟨RX4, "put", "(III)V"⟩
abbrev cX4_unpack : ByteArray := prog_6_method_10_code
def yX4_unpack : MethodName := ⟨RX4, "unpack", "(LPrinterHouse$Reading;)V"⟩
abbrev cX4_unpackPairs : ByteArray := prog_6_method_11_code
def yX4_unpackPairs : MethodName := ⟨RX4, "unpackPairs", "(LPrinterHouse$Reading;)V"⟩
abbrev cX4_unpackMixed : ByteArray := prog_6_method_12_code
def yX4_unpackMixed : MethodName := ⟨RX4, "unpackMixed", "(LPrinterHouse$Reading;)V"⟩
abbrev cX4_unpackChanges : ByteArray := prog_6_method_13_code
def yX4_unpackChanges : MethodName := ⟨RX4, "unpackChanges", "(LPrinterHouse$Reading;)V"⟩
def RX5 : String := "PrinterHouse$Reading"
def TX5 : u_T := fun k => match k with
  | 0 => ("PrinterHouse$Reading", "bytes", "[B", false)
  | 1 => ("PrinterHouse$Reading", "at", "I", false)
  | 2 => ("PrinterHouse$Reading", "end", "I", false)
  | 3 => ("PrinterHouse$Reading", "kind", "I", false)
  | 4 => ("PrinterHouse$Reading", "group", "I", false)
  | 5 => ("PrinterHouse$Reading", "letter", "I", false)
  | 6 => ("PrinterHouse$Reading", "closing", "Z", false)
  | 7 => ("PrinterHouse$Reading", "signed", "Z", false)
  | 8 => ("PrinterHouse$Reading", "negative", "Z", false)
  | 9 => ("PrinterHouse$Reading", "whole", "I", false)
  | 10 => ("PrinterHouse$Reading", "behindPoint", "I", false)
  | 11 => ("PrinterHouse$Reading", "dataFrom", "I", false)
  | _ => ("PrinterHouse$Reading", "dataSize", "I", false)
def tyX5 : Nat → FieldType := fun k => match k with
  | 0 => .array .byte
  | 1 => .int
  | 2 => .int
  | 3 => .int
  | 4 => .int
  | 5 => .int
  | 6 => .boolean
  | 7 => .boolean
  | 8 => .boolean
  | 9 => .int
  | 10 => .int
  | 11 => .int
  | _ => .int
abbrev wsX50 : List Cond := u_ws RX5 TX5 13
theorem nmX5 : ∀ a, a < 13 → ∀ b, b < 13 → a ≠ b → (TX5 a).2.1 ≠ (TX5 b).2.1 := by decide +kernel
theorem tyX5_ok : ∀ k, k < 13 → parseFieldDescriptor (TX5 k).2.2.1 = some (tyX5 k) := by decide +kernel
abbrev cX5_init : ByteArray := prog_7_method_1_code
def yX5_init : MethodName := ⟨RX5, "<init>", "()V"⟩
abbrev cX5_open : ByteArray := prog_7_method_2_code
def yX5_open : MethodName := ⟨RX5, "open", "([BII)V"⟩
abbrev cX5_hasMore : ByteArray := prog_7_method_3_code
def yX5_hasMore : MethodName := ⟨RX5, "hasMore", "()Z"⟩
abbrev cX5_byteAt : ByteArray := prog_7_method_4_code
def yX5_byteAt : MethodName := ⟨RX5, "byteAt", "(I)I"⟩
abbrev cX5_next : ByteArray := prog_7_method_5_code
def yX5_next : MethodName := ⟨RX5, "next", "()I"⟩
abbrev cX5_isDigit : ByteArray := prog_7_method_6_code
def yX5_isDigit : MethodName := ⟨RX5, "isDigit", "(I)Z"⟩
abbrev cX5_readValue : ByteArray := prog_7_method_7_code
def yX5_readValue : MethodName := ⟨RX5, "readValue", "()I"⟩
abbrev cX5_n : ByteArray := prog_7_method_8_code
def yX5_n : MethodName := ⟨RX5, "n", "()I"⟩
abbrev cX5_exact : ByteArray := prog_7_method_9_code
def yX5_exact : MethodName := ⟨RX5, "exact", "()J"⟩
abbrev cX5_units : ByteArray := prog_7_method_10_code
def yX5_units : MethodName := ⟨RX5, "units", "(I)J"⟩
abbrev cX5_dataByte : ByteArray := prog_7_method_11_code
def yX5_dataByte : MethodName := ⟨RX5, "dataByte", "(I)I"⟩
abbrev cX5_dataTwo : ByteArray := prog_7_method_12_code
def yX5_dataTwo : MethodName := ⟨RX5, "dataTwo", "(I)I"⟩
def RX6 : String := "PrinterHouse$Sheaf"
def TX6 : u_T := fun k => match k with
  | 0 => ("PrinterHouse$Sheaf", "bytes", "[B", true)
  | 1 => ("PrinterHouse$Sheaf", "size", "I", false)
  | 2 => ("PrinterHouse$Sheaf", "pages", "I", false)
  | 3 => ("PrinterHouse$Sheaf", "isMuch", "Z", false)
  | 4 => ("PrinterHouse$Sheaf", "wides", "[I", true)
  | 5 => ("PrinterHouse$Sheaf", "highs", "[I", true)
  | 6 => ("PrinterHouse$Sheaf", "dots", "[[I", true)
  | 7 => ("PrinterHouse$Sheaf", "link", "I", false)
  | 8 => ("PrinterHouse$Sheaf", "waiting", "I", false)
  | _ => ("PrinterHouse$Sheaf", "waitingBits", "I", false)
def tyX6 : Nat → FieldType := fun k => match k with
  | 0 => .array .byte
  | 1 => .int
  | 2 => .int
  | 3 => .boolean
  | 4 => .array .int
  | 5 => .array .int
  | 6 => .array (.array .int)
  | 7 => .int
  | 8 => .int
  | _ => .int
abbrev wsX60 : List Cond := u_ws RX6 TX6 10
theorem nmX6 : ∀ a, a < 10 → ∀ b, b < 10 → a ≠ b → (TX6 a).2.1 ≠ (TX6 b).2.1 := by decide +kernel
theorem tyX6_ok : ∀ k, k < 10 → parseFieldDescriptor (TX6 k).2.2.1 = some (tyX6 k) := by decide +kernel
abbrev cX6_init : ByteArray := prog_8_method_1_code
def yX6_init : MethodName := ⟨RX6, "<init>", "()V"⟩
abbrev cX6_clear : ByteArray := prog_8_method_2_code
def yX6_clear : MethodName := ⟨RX6, "clear", "()V"⟩
abbrev cX6_hasPage : ByteArray := prog_8_method_3_code
def yX6_hasPage : MethodName := ⟨RX6, "hasPage", "(I)Z"⟩
abbrev cX6_hasRow : ByteArray := prog_8_method_4_code
def yX6_hasRow : MethodName := ⟨RX6, "hasRow", "(II)Z"⟩
abbrev cX6_byteAt : ByteArray := prog_8_method_5_code
def yX6_byteAt : MethodName := ⟨RX6, "byteAt", "(I)I"⟩
abbrev cX6_sumOfBytes : ByteArray := prog_8_method_6_code
def yX6_sumOfBytes : MethodName := ⟨RX6, "sumOfBytes", "()I"⟩
abbrev cX6_blackDots : ByteArray := prog_8_method_7_code
def yX6_blackDots : MethodName := ⟨RX6, "blackDots", "(II)I"⟩
abbrev cX6_nextPage : ByteArray := prog_8_method_8_code
def yX6_nextPage : MethodName := ⟨RX6, "nextPage", "()[I"⟩
abbrev cX6_come : ByteArray := prog_8_method_9_code
def yX6_come : MethodName := ⟨RX6, "come", "(II)V"⟩
abbrev cX6_writeDirectory : ByteArray := prog_8_method_10_code
def yX6_writeDirectory : MethodName := ⟨RX6, "writeDirectory", "(IIII)V"⟩
abbrev cX6_putEntry : ByteArray := prog_8_method_11_code
def yX6_putEntry : MethodName := ⟨RX6, "putEntry", "(III)V"⟩
abbrev cX6_putNumber : ByteArray := prog_8_method_12_code
def yX6_putNumber : MethodName := ⟨RX6, "putNumber", "(II)V"⟩
abbrev cX6_setNumber : ByteArray := prog_8_method_13_code
def yX6_setNumber : MethodName := ⟨RX6, "setNumber", "(II)V"⟩
abbrev cX6_putByte : ByteArray := prog_8_method_14_code
def yX6_putByte : MethodName := ⟨RX6, "putByte", "(I)V"⟩
abbrev cX6_putBits : ByteArray := prog_8_method_15_code
def yX6_putBits : MethodName := ⟨RX6, "putBits", "(II)V"⟩
abbrev cX6_putRun : ByteArray := prog_8_method_16_code
def yX6_putRun : MethodName := ⟨RX6, "putRun", "(II)V"⟩
abbrev cX6_writeRow : ByteArray := prog_8_method_17_code
def yX6_writeRow : MethodName := ⟨RX6, "writeRow", "([III)V"⟩
def RX7 : String := "PrinterHouse$Sheet"
def TX7 : u_T := fun k => match k with
  | 0 => ("PrinterHouse$Sheet", "format", "I", false)
  | 1 => ("PrinterHouse$Sheet", "orientation", "I", false)
  | 2 => ("PrinterHouse$Sheet", "left", "I", false)
  | 3 => ("PrinterHouse$Sheet", "right", "I", false)
  | 4 => ("PrinterHouse$Sheet", "top", "I", false)
  | 5 => ("PrinterHouse$Sheet", "bottom", "I", false)
  | 6 => ("PrinterHouse$Sheet", "x", "I", false)
  | 7 => ("PrinterHouse$Sheet", "y", "I", false)
  | 8 => ("PrinterHouse$Sheet", "vmi", "I", false)
  | 9 => ("PrinterHouse$Sheet", "hmi", "I", false)
  | 10 => ("PrinterHouse$Sheet", "back", "I", false)
  | 11 => ("PrinterHouse$Sheet", "kept", "I", false)
  | _ => ("PrinterHouse$Sheet", "places", "[I", true)
def tyX7 : Nat → FieldType := fun k => match k with
  | 0 => .int
  | 1 => .int
  | 2 => .int
  | 3 => .int
  | 4 => .int
  | 5 => .int
  | 6 => .int
  | 7 => .int
  | 8 => .int
  | 9 => .int
  | 10 => .int
  | 11 => .int
  | _ => .array .int
abbrev wsX70 : List Cond := u_ws RX7 TX7 13
theorem nmX7 : ∀ a, a < 13 → ∀ b, b < 13 → a ≠ b → (TX7 a).2.1 ≠ (TX7 b).2.1 := by decide +kernel
theorem tyX7_ok : ∀ k, k < 13 → parseFieldDescriptor (TX7 k).2.2.1 = some (tyX7 k) := by decide +kernel
abbrev cX7_init : ByteArray := prog_9_method_1_code
def yX7_init : MethodName := ⟨RX7, "<init>", "()V"⟩
abbrev cX7_copy : ByteArray := prog_9_method_2_code
def yX7_copy : MethodName := ⟨RX7, "copy", "(LPrinterHouse$Sheet;)V"⟩
abbrev cX7_reset : ByteArray := prog_9_method_3_code
def yX7_reset : MethodName := ⟨RX7, "reset", "()V"⟩
abbrev cX7_turn : ByteArray := prog_9_method_4_code
def yX7_turn : MethodName := ⟨RX7, "turn", "(II)V"⟩
abbrev cX7_clearMargins : ByteArray := prog_9_method_5_code
def yX7_clearMargins : MethodName := ⟨RX7, "clearMargins", "()V"⟩
abbrev cX7_pageWide : ByteArray := prog_9_method_6_code
def yX7_pageWide : MethodName := ⟨RX7, "pageWide", "()I"⟩
abbrev cX7_pageHigh : ByteArray := prog_9_method_7_code
def yX7_pageHigh : MethodName := ⟨RX7, "pageHigh", "()I"⟩
abbrev cX7_dotsAcross : ByteArray := prog_9_method_8_code
def yX7_dotsAcross : MethodName := ⟨RX7, "dotsAcross", "()I"⟩
abbrev cX7_dotsDown : ByteArray := prog_9_method_9_code
def yX7_dotsDown : MethodName := ⟨RX7, "dotsDown", "()I"⟩
abbrev cX7_across : ByteArray := prog_9_method_10_code
def yX7_across : MethodName := ⟨RX7, "across", "()I"⟩
abbrev cX7_down : ByteArray := prog_9_method_11_code
def yX7_down : MethodName := ⟨RX7, "down", "()I"⟩
abbrev cX7_homeY : ByteArray := prog_9_method_12_code
def yX7_homeY : MethodName := ⟨RX7, "homeY", "()V"⟩
abbrev cX7_moveX : ByteArray := prog_9_method_13_code
def yX7_moveX : MethodName := ⟨RX7, "moveX", "(J)V"⟩
abbrev cX7_moveY : ByteArray := prog_9_method_14_code
def yX7_moveY : MethodName := ⟨RX7, "moveY", "(J)V"⟩
abbrev cX7_keepPlace : ByteArray := prog_9_method_15_code
def yX7_keepPlace : MethodName := ⟨RX7, "keepPlace", "()V"⟩
abbrev cX7_recallPlace : ByteArray := prog_9_method_16_code
def yX7_recallPlace : MethodName := ⟨RX7, "recallPlace", "()V"⟩
abbrev cX7_tab : ByteArray := prog_9_method_17_code
def yX7_tab : MethodName := ⟨RX7, "tab", "()V"⟩
abbrev cX7_leftMargin : ByteArray := prog_9_method_18_code
def yX7_leftMargin : MethodName := ⟨RX7, "leftMargin", "(I)V"⟩
abbrev cX7_rightMargin : ByteArray := prog_9_method_19_code
def yX7_rightMargin : MethodName := ⟨RX7, "rightMargin", "(I)V"⟩
abbrev cX7_topMargin : ByteArray := prog_9_method_20_code
def yX7_topMargin : MethodName := ⟨RX7, "topMargin", "(I)V"⟩
abbrev cX7_bottomMargin : ByteArray := prog_9_method_21_code
def yX7_bottomMargin : MethodName := ⟨RX7, "bottomMargin", "(I)V"⟩
def RX8 : String := "PrinterHouse$Shelf"
def TX8 : u_T := fun k => match k with
  | _ => ("PrinterHouse$Shelf", "sorts", "[I", true)
def tyX8 : Nat → FieldType := fun k => match k with
  | _ => .array .int
abbrev wsX80 : List Cond := u_ws RX8 TX8 1
theorem nmX8 : ∀ a, a < 1 → ∀ b, b < 1 → a ≠ b → (TX8 a).2.1 ≠ (TX8 b).2.1 := by decide +kernel
theorem tyX8_ok : ∀ k, k < 1 → parseFieldDescriptor (TX8 k).2.2.1 = some (tyX8 k) := by decide +kernel
abbrev cX8_init : ByteArray := prog_10_method_1_code
def yX8_init : MethodName := ⟨RX8, "<init>", "()V"⟩
abbrev cX8_has : ByteArray := prog_10_method_2_code
def yX8_has : MethodName := ⟨RX8, "has", "(I)Z"⟩
abbrev cX8_isTemporary : ByteArray := prog_10_method_3_code
def yX8_isTemporary : MethodName := ⟨RX8, "isTemporary", "(I)Z"⟩
abbrev cX8_put : ByteArray := prog_10_method_4_code
def yX8_put : MethodName := ⟨RX8, "put", "(I)V"⟩
abbrev cX8_remove : ByteArray := prog_10_method_5_code
def yX8_remove : MethodName := ⟨RX8, "remove", "(I)V"⟩
abbrev cX8_removeMany : ByteArray := prog_10_method_6_code
def yX8_removeMany : MethodName := ⟨RX8, "removeMany", "(Z)V"⟩
abbrev cX8_mark : ByteArray := prog_10_method_7_code
def yX8_mark : MethodName := ⟨RX8, "mark", "(IZ)V"⟩
abbrev cX8_count : ByteArray := prog_10_method_8_code
def yX8_count : MethodName := ⟨RX8, "count", "()I"⟩
def RX9 : String := "PrinterHouse$Streams"
def TX9 : u_T := fun k => match k with
  | 0 => ("PrinterHouse$Streams", "sheaf", "LPrinterHouse$Sheaf;", true)
  | 1 => ("PrinterHouse$Streams", "canvas", "LPrinterHouse$Canvas;", true)
  | 2 => ("PrinterHouse$Streams", "fonts", "LPrinterHouse$Fonts;", true)
  | 3 => ("PrinterHouse$Streams", "tileShelf", "LPrinterHouse$Shelf;", true)
  | 4 => ("PrinterHouse$Streams", "tiles", "[LPrinterHouse$Tile;", true)
  | 5 => ("PrinterHouse$Streams", "boxTile", "LPrinterHouse$Tile;", true)
  | 6 => ("PrinterHouse$Streams", "macroShelf", "LPrinterHouse$Shelf;", true)
  | 7 => ("PrinterHouse$Streams", "macroBytes", "[B", true)
  | 8 => ("PrinterHouse$Streams", "macroSizes", "[I", true)
  | 9 => ("PrinterHouse$Streams", "env", "LPrinterHouse$Environment;", true)
  | 10 => ("PrinterHouse$Streams", "beforeOverlay", "LPrinterHouse$Environment;", true)
  | 11 => ("PrinterHouse$Streams", "beforeMacro", "[LPrinterHouse$Environment;", true)
  | 12 => ("PrinterHouse$Streams", "readings", "[LPrinterHouse$Reading;", true)
  | 13 => ("PrinterHouse$Streams", "reading", "LPrinterHouse$Reading;", false)
  | 14 => ("PrinterHouse$Streams", "depth", "I", false)
  | 15 => ("PrinterHouse$Streams", "isInOverlay", "Z", false)
  | 16 => ("PrinterHouse$Streams", "gone", "I", false)
  | 17 => ("PrinterHouse$Streams", "lastStates", "[I", true)
  | _ => ("PrinterHouse$Streams", "isLastKnown", "Z", false)
def tyX9 : Nat → FieldType := fun k => match k with
  | 0 => .object "PrinterHouse$Sheaf"
  | 1 => .object "PrinterHouse$Canvas"
  | 2 => .object "PrinterHouse$Fonts"
  | 3 => .object "PrinterHouse$Shelf"
  | 4 => .array (.object "PrinterHouse$Tile")
  | 5 => .object "PrinterHouse$Tile"
  | 6 => .object "PrinterHouse$Shelf"
  | 7 => .array .byte
  | 8 => .array .int
  | 9 => .object "PrinterHouse$Environment"
  | 10 => .object "PrinterHouse$Environment"
  | 11 => .array (.object "PrinterHouse$Environment")
  | 12 => .array (.object "PrinterHouse$Reading")
  | 13 => .object "PrinterHouse$Reading"
  | 14 => .int
  | 15 => .boolean
  | 16 => .int
  | 17 => .array .int
  | _ => .boolean
abbrev wsX90 : List Cond := u_ws RX9 TX9 19
theorem nmX9 : ∀ a, a < 19 → ∀ b, b < 19 → a ≠ b → (TX9 a).2.1 ≠ (TX9 b).2.1 := by decide +kernel
theorem tyX9_ok : ∀ k, k < 19 → parseFieldDescriptor (TX9 k).2.2.1 = some (tyX9 k) := by decide +kernel
abbrev cX9_init : ByteArray := prog_11_method_1_code
def yX9_init : MethodName := ⟨RX9, "<init>", "(LPrinterHouse$Sheaf;)V"⟩
abbrev cX9_isMuch : ByteArray := prog_11_method_2_code
def yX9_isMuch : MethodName := ⟨RX9, "isMuch", "()Z"⟩
abbrev cX9_startJob : ByteArray := prog_11_method_3_code
def yX9_startJob : MethodName := ⟨RX9, "startJob", "()V"⟩
abbrev cX9_run : ByteArray := prog_11_method_4_code
def yX9_run : MethodName := ⟨RX9, "run", "([BII)V"⟩
abbrev cX9_keepStates : ByteArray := prog_11_method_5_code
def yX9_keepStates : MethodName := ⟨RX9, "keepStates", "()V"⟩
abbrev cX9_lastState : ByteArray := prog_11_method_6_code
def yX9_lastState : MethodName := ⟨RX9, "lastState", "(I)I"⟩
abbrev cX9_number : ByteArray := prog_11_method_7_code
def yX9_number : MethodName := ⟨RX9, "number", "(I)I"⟩
abbrev cX9_bytesOfMacros : ByteArray := prog_11_method_8_code
def yX9_bytesOfMacros : MethodName := ⟨RX9, "bytesOfMacros", "()I"⟩
abbrev cX9_dropAll : ByteArray := prog_11_method_9_code
def yX9_dropAll : MethodName := ⟨RX9, "dropAll", "()I"⟩
abbrev cX9_dropTemporary : ByteArray := prog_11_method_10_code
def yX9_dropTemporary : MethodName := ⟨RX9, "dropTemporary", "()V"⟩
abbrev cX9_pass : ByteArray := prog_11_method_11_code
def yX9_pass : MethodName := ⟨RX9, "pass", "(I)Z"⟩
abbrev cX9_passEach : ByteArray := prog_11_method_12_code
def yX9_passEach : MethodName := ⟨RX9, "passEach", "(I)Z"⟩
abbrev cX9_goThrough : ByteArray := prog_11_method_13_code
def yX9_goThrough : MethodName := ⟨RX9, "goThrough", "([BII)V"⟩
abbrev cX9_goMacro : ByteArray := prog_11_method_14_code
def yX9_goMacro : MethodName := ⟨RX9, "goMacro", "(I)V"⟩
abbrev cX9_callMacro : ByteArray := prog_11_method_15_code
def yX9_callMacro : MethodName := ⟨RX9, "callMacro", "(I)V"⟩
abbrev cX9_other : ByteArray := prog_11_method_16_code
def yX9_other : MethodName := ⟨RX9, "other", "(I)V"⟩
abbrev cX9_endWithReturn : ByteArray := prog_11_method_17_code
def yX9_endWithReturn : MethodName := ⟨RX9, "endWithReturn", "()V"⟩
abbrev cX9_carriageReturn : ByteArray := prog_11_method_18_code
def yX9_carriageReturn : MethodName := ⟨RX9, "carriageReturn", "()V"⟩
abbrev cX9_line : ByteArray := prog_11_method_19_code
def yX9_line : MethodName := ⟨RX9, "line", "(I)V"⟩
abbrev cX9_form : ByteArray := prog_11_method_20_code
def yX9_form : MethodName := ⟨RX9, "form", "()V"⟩
abbrev cX9_followPitch : ByteArray := prog_11_method_21_code
def yX9_followPitch : MethodName := ⟨RX9, "followPitch", "()V"⟩
abbrev cX9_beginSequence : ByteArray := prog_11_method_22_code
def yX9_beginSequence : MethodName := ⟨RX9, "beginSequence", "()V"⟩
abbrev cX9_twoBytes : ByteArray := prog_11_method_23_code
def yX9_twoBytes : MethodName := ⟨RX9, "twoBytes", "(I)V"⟩
abbrev cX9_reset : ByteArray := prog_11_method_24_code
def yX9_reset : MethodName := ⟨RX9, "reset", "()V"⟩
abbrev cX9_showAll : ByteArray := prog_11_method_25_code
def yX9_showAll : MethodName := ⟨RX9, "showAll", "()V"⟩
abbrev cX9_showData : ByteArray := prog_11_method_26_code
def yX9_showData : MethodName := ⟨RX9, "showData", "()V"⟩
abbrev cX9_readField : ByteArray := prog_11_method_27_code
def yX9_readField : MethodName := ⟨RX9, "readField", "()Z"⟩
abbrev cX9_obey : ByteArray := prog_11_method_28_code
def yX9_obey : MethodName := ⟨RX9, "obey", "()V"⟩
abbrev cX9_obeyFont : ByteArray := prog_11_method_29_code
def yX9_obeyFont : MethodName := ⟨RX9, "obeyFont", "()V"⟩
abbrev cX9_pageField : ByteArray := prog_11_method_30_code
def yX9_pageField : MethodName := ⟨RX9, "pageField", "(I)V"⟩
abbrev cX9_spacing : ByteArray := prog_11_method_31_code
def yX9_spacing : MethodName := ⟨RX9, "spacing", "(II)I"⟩
abbrev cX9_placeField : ByteArray := prog_11_method_32_code
def yX9_placeField : MethodName := ⟨RX9, "placeField", "(I)V"⟩
abbrev cX9_moveAcross : ByteArray := prog_11_method_33_code
def yX9_moveAcross : MethodName := ⟨RX9, "moveAcross", "(J)V"⟩
abbrev cX9_moveDown : ByteArray := prog_11_method_34_code
def yX9_moveDown : MethodName := ⟨RX9, "moveDown", "(JI)V"⟩
abbrev cX9_dotPlaceField : ByteArray := prog_11_method_35_code
def yX9_dotPlaceField : MethodName := ⟨RX9, "dotPlaceField", "()V"⟩
abbrev cX9_spaceField : ByteArray := prog_11_method_36_code
def yX9_spaceField : MethodName := ⟨RX9, "spaceField", "(I)V"⟩
abbrev cX9_wrapField : ByteArray := prog_11_method_37_code
def yX9_wrapField : MethodName := ⟨RX9, "wrapField", "(I)V"⟩
abbrev cX9_macroField : ByteArray := prog_11_method_38_code
def yX9_macroField : MethodName := ⟨RX9, "macroField", "(I)V"⟩
abbrev cX9_macroTask : ByteArray := prog_11_method_39_code
def yX9_macroTask : MethodName := ⟨RX9, "macroTask", "(I)V"⟩
abbrev cX9_tellMacro : ByteArray := prog_11_method_40_code
def yX9_tellMacro : MethodName := ⟨RX9, "tellMacro", "(I)V"⟩
abbrev cX9_isMacroEnd : ByteArray := prog_11_method_41_code
def yX9_isMacroEnd : MethodName := ⟨RX9, "isMacroEnd", "(I)Z"⟩
abbrev cX9_eject : ByteArray := prog_11_method_42_code
def yX9_eject : MethodName := ⟨RX9, "eject", "()V"⟩
abbrev cX9_advance : ByteArray := prog_11_method_43_code
def yX9_advance : MethodName := ⟨RX9, "advance", "(II)I"⟩
abbrev cX9_show : ByteArray := prog_11_method_44_code
def yX9_show : MethodName := ⟨RX9, "show", "(I)V"⟩
abbrev cX9_markGlyph : ByteArray := prog_11_method_45_code
def yX9_markGlyph : MethodName := ⟨RX9, "markGlyph", "(I)V"⟩
abbrev cX9_markBox : ByteArray := prog_11_method_46_code
def yX9_markBox : MethodName := ⟨RX9, "markBox", "(IIIILPrinterHouse$Tile;)V"⟩
abbrev cX9_fontField : ByteArray := prog_11_method_47_code
def yX9_fontField : MethodName := ⟨RX9, "fontField", "([II)Z"⟩
abbrev cX9_styleField : ByteArray := prog_11_method_48_code
def yX9_styleField : MethodName := ⟨RX9, "styleField", "([II)Z"⟩
abbrev cX9_wishPitch : ByteArray := prog_11_method_49_code
def yX9_wishPitch : MethodName := ⟨RX9, "wishPitch", "([I)Z"⟩
abbrev cX9_wish : ByteArray := prog_11_method_50_code
def yX9_wish : MethodName := ⟨RX9, "wish", "([III)Z"⟩
abbrev cX9_controlField : ByteArray := prog_11_method_51_code
def yX9_controlField : MethodName := ⟨RX9, "controlField", "(I)V"⟩
abbrev cX9_boxSide : ByteArray := prog_11_method_52_code
def yX9_boxSide : MethodName := ⟨RX9, "boxSide", "(I)I"⟩
abbrev cX9_box : ByteArray := prog_11_method_53_code
def yX9_box : MethodName := ⟨RX9, "box", "(I)V"⟩
abbrev cX9_fontTask : ByteArray := prog_11_method_54_code
def yX9_fontTask : MethodName := ⟨RX9, "fontTask", "(I)V"⟩
abbrev cX9_tileTask : ByteArray := prog_11_method_55_code
def yX9_tileTask : MethodName := ⟨RX9, "tileTask", "(I)V"⟩
abbrev cX9_tellTile : ByteArray := prog_11_method_56_code
def yX9_tellTile : MethodName := ⟨RX9, "tellTile", "(I)V"⟩
abbrev cX9_setTile : ByteArray := prog_11_method_57_code
def yX9_setTile : MethodName := ⟨RX9, "setTile", "(LPrinterHouse$Tile;I)Z"⟩
abbrev cX9_inkField : ByteArray := prog_11_method_58_code
def yX9_inkField : MethodName := ⟨RX9, "inkField", "(I)V"⟩
abbrev cX9_scaleField : ByteArray := prog_11_method_59_code
def yX9_scaleField : MethodName := ⟨RX9, "scaleField", "(I)V"⟩
abbrev cX9_rasterField : ByteArray := prog_11_method_60_code
def yX9_rasterField : MethodName := ⟨RX9, "rasterField", "(I)V"⟩
abbrev cX9_beginRaster : ByteArray := prog_11_method_61_code
def yX9_beginRaster : MethodName := ⟨RX9, "beginRaster", "(I)V"⟩
abbrev cX9_rowField : ByteArray := prog_11_method_62_code
def yX9_rowField : MethodName := ⟨RX9, "rowField", "(I)V"⟩
abbrev cX9_growRows : ByteArray := prog_11_method_63_code
def yX9_growRows : MethodName := ⟨RX9, "growRows", "(I)V"⟩
abbrev cX9_rasterRow : ByteArray := prog_11_method_64_code
def yX9_rasterRow : MethodName := ⟨RX9, "rasterRow", "()V"⟩
def RX10 : String := "PrinterHouse$Tile"
def TX10 : u_T := fun k => match k with
  | 0 => ("PrinterHouse$Tile", "wide", "I", false)
  | 1 => ("PrinterHouse$Tile", "high", "I", false)
  | 2 => ("PrinterHouse$Tile", "isWhite", "Z", false)
  | _ => ("PrinterHouse$Tile", "rows", "[J", true)
def tyX10 : Nat → FieldType := fun k => match k with
  | 0 => .int
  | 1 => .int
  | 2 => .boolean
  | _ => .array .long
abbrev wsX100 : List Cond := u_ws RX10 TX10 4
theorem nmX10 : ∀ a, a < 4 → ∀ b, b < 4 → a ≠ b → (TX10 a).2.1 ≠ (TX10 b).2.1 := by decide +kernel
theorem tyX10_ok : ∀ k, k < 4 → parseFieldDescriptor (TX10 k).2.2.1 = some (tyX10 k) := by decide +kernel
abbrev cX10_init : ByteArray := prog_12_method_1_code
def yX10_init : MethodName := ⟨RX10, "<init>", "()V"⟩
abbrev cX10_copy : ByteArray := prog_12_method_2_code
def yX10_copy : MethodName := ⟨RX10, "copy", "(LPrinterHouse$Tile;)V"⟩
abbrev cX10_size : ByteArray := prog_12_method_3_code
def yX10_size : MethodName := ⟨RX10, "size", "(II)V"⟩
abbrev cX10_setRow : ByteArray := prog_12_method_4_code
def yX10_setRow : MethodName := ⟨RX10, "setRow", "(II)V"⟩
abbrev cX10_solid : ByteArray := prog_12_method_5_code
def yX10_solid : MethodName := ⟨RX10, "solid", "()V"⟩
abbrev cX10_white : ByteArray := prog_12_method_6_code
def yX10_white : MethodName := ⟨RX10, "white", "()V"⟩
abbrev cX10_shade : ByteArray := prog_12_method_7_code
def yX10_shade : MethodName := ⟨RX10, "shade", "(I)V"⟩
abbrev cX10_hatch : ByteArray := prog_12_method_8_code
def yX10_hatch : MethodName := ⟨RX10, "hatch", "(I)V"⟩
abbrev cX10_isHatched : ByteArray := prog_12_method_9_code
def yX10_isHatched : MethodName := ⟨RX10, "isHatched", "(III)Z"⟩
abbrev cX10_rowAt : ByteArray := prog_12_method_10_code
def yX10_rowAt : MethodName := ⟨RX10, "rowAt", "(I)J"⟩
abbrev cX10_dotsFrom : ByteArray := prog_12_method_11_code
def yX10_dotsFrom : MethodName := ⟨RX10, "dotsFrom", "(JI)I"⟩
def RX11 : String := "PrinterHouse"
def TX11 : u_T := fun k => match k with
  | 0 => ("PrinterHouse", "tape", "[B", true)
  | 1 => ("PrinterHouse", "taped", "I", false)
  | 2 => ("PrinterHouse", "job", "[B", true)
  | 3 => ("PrinterHouse", "sorts", "[I", true)
  | 4 => ("PrinterHouse", "starts", "[I", true)
  | 5 => ("PrinterHouse", "parts", "I", false)
  | 6 => ("PrinterHouse", "sheaf", "LPrinterHouse$Sheaf;", true)
  | 7 => ("PrinterHouse", "streams", "LPrinterHouse$Streams;", true)
  | 8 => ("PrinterHouse", "pictures", "LPrinterHouse$Pictures;", true)
  | 9 => ("PrinterHouse", "faultSort", "I", false)
  | 10 => ("PrinterHouse", "faultPart", "I", false)
  | _ => ("PrinterHouse", "faultPlace", "I", false)
def tyX11 : Nat → FieldType := fun k => match k with
  | 0 => .array .byte
  | 1 => .int
  | 2 => .array .byte
  | 3 => .array .int
  | 4 => .array .int
  | 5 => .int
  | 6 => .object "PrinterHouse$Sheaf"
  | 7 => .object "PrinterHouse$Streams"
  | 8 => .object "PrinterHouse$Pictures"
  | 9 => .int
  | 10 => .int
  | _ => .int
abbrev wsX110 : List Cond := u_ws RX11 TX11 12
theorem nmX11 : ∀ a, a < 12 → ∀ b, b < 12 → a ≠ b → (TX11 a).2.1 ≠ (TX11 b).2.1 := by decide +kernel
theorem tyX11_ok : ∀ k, k < 12 → parseFieldDescriptor (TX11 k).2.2.1 = some (tyX11 k) := by decide +kernel
abbrev cX11_init : ByteArray := prog_1_method_1_code
def yX11_init : MethodName := ⟨RX11, "<init>", "()V"⟩
abbrev cX11_feed : ByteArray := prog_1_method_2_code
def yX11_feed : MethodName := ⟨RX11, "feed", "(IIIII)I"⟩
abbrev cX11_feedNumber : ByteArray := prog_1_method_3_code
def yX11_feedNumber : MethodName := ⟨RX11, "feedNumber", "(I)V"⟩
abbrev cX11_cut : ByteArray := prog_1_method_4_code
def yX11_cut : MethodName := ⟨RX11, "cut", "(I)I"⟩
abbrev cX11_part : ByteArray := prog_1_method_5_code
def yX11_part : MethodName := ⟨RX11, "part", "(I)I"⟩
abbrev cX11_drop : ByteArray := prog_1_method_6_code
def yX11_drop : MethodName := ⟨RX11, "drop", "()I"⟩
abbrev cX11_print : ByteArray := prog_1_method_7_code
def yX11_print : MethodName := ⟨RX11, "print", "(I)I"⟩
abbrev cX11_fault : ByteArray := prog_1_method_8_code
def yX11_fault : MethodName := ⟨RX11, "fault", "(I)I"⟩
abbrev cX11_outs : ByteArray := prog_1_method_9_code
def yX11_outs : MethodName := ⟨RX11, "outs", "()I"⟩
abbrev cX11_out : ByteArray := prog_1_method_10_code
def yX11_out : MethodName := ⟨RX11, "out", "(I)I"⟩
abbrev cX11_sum : ByteArray := prog_1_method_11_code
def yX11_sum : MethodName := ⟨RX11, "sum", "()I"⟩
abbrev cX11_take : ByteArray := prog_1_method_12_code
def yX11_take : MethodName := ⟨RX11, "take", "()I"⟩
abbrev cX11_pages : ByteArray := prog_1_method_13_code
def yX11_pages : MethodName := ⟨RX11, "pages", "()I"⟩
abbrev cX11_width : ByteArray := prog_1_method_14_code
def yX11_width : MethodName := ⟨RX11, "width", "(I)I"⟩
abbrev cX11_height : ByteArray := prog_1_method_15_code
def yX11_height : MethodName := ⟨RX11, "height", "(I)I"⟩
abbrev cX11_dot : ByteArray := prog_1_method_16_code
def yX11_dot : MethodName := ⟨RX11, "dot", "(III)I"⟩
abbrev cX11_black : ByteArray := prog_1_method_17_code
def yX11_black : MethodName := ⟨RX11, "black", "(II)I"⟩
abbrev cX11_state : ByteArray := prog_1_method_18_code
def yX11_state : MethodName := ⟨RX11, "state", "(I)I"⟩
abbrev cX11_held : ByteArray := prog_1_method_19_code
def yX11_held : MethodName := ⟨RX11, "held", "(I)I"⟩
abbrev cX11_off : ByteArray := prog_1_method_20_code
def yX11_off : MethodName := ⟨RX11, "off", "()I"⟩
abbrev cX11_dotAt : ByteArray := prog_1_method_21_code
def yX11_dotAt : MethodName := ⟨RX11, "dotAt", "([III)I"⟩
abbrev cX11_zerosAhead : ByteArray := prog_1_method_22_code
def yX11_zerosAhead : MethodName := ⟨RX11, "zerosAhead", "(I)I"⟩
abbrev cX11_firstOther : ByteArray := prog_1_method_23_code
def yX11_firstOther : MethodName := ⟨RX11, "firstOther", "([IIIII)I"⟩
abbrev cX11_firstChange : ByteArray := prog_1_method_24_code
def yX11_firstChange : MethodName := ⟨RX11, "firstChange", "([IIIII)I"⟩
abbrev cX11_maskOf : ByteArray := prog_1_method_25_code
def yX11_maskOf : MethodName := ⟨RX11, "maskOf", "(III)I"⟩
abbrev cX11_blacken : ByteArray := prog_1_method_26_code
def yX11_blacken : MethodName := ⟨RX11, "blacken", "([IIII)V"⟩
def RX12 : String := "PrinterHouseModel"
def TX12 : u_T := fun k => match k with
  | 0 => ("PrinterHouseModel", "e", "[I", true)
  | 1 => ("PrinterHouseModel", "saved", "[I", true)
  | 2 => ("PrinterHouseModel", "fontThere", "[Z", true)
  | 3 => ("PrinterHouseModel", "fontTemporary", "[Z", true)
  | 4 => ("PrinterHouseModel", "fontNumbers", "[I", true)
  | 5 => ("PrinterHouseModel", "glyphOf", "[I", true)
  | 6 => ("PrinterHouseModel", "glyphUsed", "[Z", true)
  | 7 => ("PrinterHouseModel", "glyphNumbers", "[I", true)
  | 8 => ("PrinterHouseModel", "glyphRows", "[I", true)
  | 9 => ("PrinterHouseModel", "glyphCount", "I", false)
  | 10 => ("PrinterHouseModel", "userThere", "[Z", true)
  | 11 => ("PrinterHouseModel", "userTemporary", "[Z", true)
  | 12 => ("PrinterHouseModel", "userWide", "[I", true)
  | 13 => ("PrinterHouseModel", "userHigh", "[I", true)
  | 14 => ("PrinterHouseModel", "userRows", "[I", true)
  | 15 => ("PrinterHouseModel", "macroThere", "[Z", true)
  | 16 => ("PrinterHouseModel", "macroTemporary", "[Z", true)
  | 17 => ("PrinterHouseModel", "macroSize", "[I", true)
  | 18 => ("PrinterHouseModel", "macroBytes", "[B", true)
  | 19 => ("PrinterHouseModel", "job", "[B", true)
  | 20 => ("PrinterHouseModel", "partFrom", "[I", true)
  | 21 => ("PrinterHouseModel", "partSort", "[I", true)
  | 22 => ("PrinterHouseModel", "parts", "I", false)
  | 23 => ("PrinterHouseModel", "tape", "[B", true)
  | 24 => ("PrinterHouseModel", "tapeSize", "I", false)
  | 25 => ("PrinterHouseModel", "copies", "[B", true)
  | 26 => ("PrinterHouseModel", "source", "[B", false)
  | 27 => ("PrinterHouseModel", "pos", "I", false)
  | 28 => ("PrinterHouseModel", "end", "I", false)
  | 29 => ("PrinterHouseModel", "depth", "I", false)
  | 30 => ("PrinterHouseModel", "inMacro", "Z", false)
  | 31 => ("PrinterHouseModel", "inOverlay", "Z", false)
  | 32 => ("PrinterHouseModel", "gone", "I", false)
  | 33 => ("PrinterHouseModel", "much", "Z", false)
  | 34 => ("PrinterHouseModel", "page", "[B", true)
  | 35 => ("PrinterHouseModel", "pageMarks", "I", false)
  | 36 => ("PrinterHouseModel", "allMarks", "I", false)
  | 37 => ("PrinterHouseModel", "came", "[B", true)
  | 38 => ("PrinterHouseModel", "cameWide", "[I", true)
  | 39 => ("PrinterHouseModel", "cameHigh", "[I", true)
  | 40 => ("PrinterHouseModel", "cameCount", "I", false)
  | 41 => ("PrinterHouseModel", "out", "[B", true)
  | 42 => ("PrinterHouseModel", "outSize", "I", false)
  | 43 => ("PrinterHouseModel", "faultNumber", "I", false)
  | 44 => ("PrinterHouseModel", "faultPart", "I", false)
  | 45 => ("PrinterHouseModel", "faultPlace", "I", false)
  | 46 => ("PrinterHouseModel", "told", "[I", true)
  | 47 => ("PrinterHouseModel", "isTold", "Z", false)
  | 48 => ("PrinterHouseModel", "laid", "[I", true)
  | 49 => ("PrinterHouseModel", "covered", "J", false)
  | 50 => ("PrinterHouseModel", "candidate", "[Z", true)
  | 51 => ("PrinterHouseModel", "whole", "I", false)
  | 52 => ("PrinterHouseModel", "wasDefined", "Z", false)
  | 53 => ("PrinterHouseModel", "part10000", "J", false)
  | 54 => ("PrinterHouseModel", "isRelative", "Z", false)
  | 55 => ("PrinterHouseModel", "filled", "I", false)
  | 56 => ("PrinterHouseModel", "runBits", "[I", true)
  | 57 => ("PrinterHouseModel", "runCode", "[I", true)
  | 58 => ("PrinterHouseModel", "before", "[I", true)
  | 59 => ("PrinterHouseModel", "now", "[I", true)
  | 60 => ("PrinterHouseModel", "width", "I", false)
  | 61 => ("PrinterHouseModel", "a0", "I", false)
  | 62 => ("PrinterHouseModel", "isFirst", "Z", false)
  | 63 => ("PrinterHouseModel", "colour", "I", false)
  | 64 => ("PrinterHouseModel", "outBits", "I", false)
  | 65 => ("PrinterHouseModel", "outHeld", "I", false)
  | 66 => ("PrinterHouseModel", "lastLink", "I", false)
  | 67 => ("PrinterHouseModel", "picFrom", "I", false)
  | 68 => ("PrinterHouseModel", "picSize", "I", false)
  | 69 => ("PrinterHouseModel", "isMotorola", "Z", false)
  | 70 => ("PrinterHouseModel", "seen", "[I", true)
  | 71 => ("PrinterHouseModel", "seenCount", "I", false)
  | 72 => ("PrinterHouseModel", "entryAt", "[I", true)
  | 73 => ("PrinterHouseModel", "entryTells", "[J", true)
  | 74 => ("PrinterHouseModel", "stripAt", "[J", true)
  | 75 => ("PrinterHouseModel", "stripSize", "[J", true)
  | 76 => ("PrinterHouseModel", "codeFrom", "I", false)
  | 77 => ("PrinterHouseModel", "codeBits", "J", false)
  | 78 => ("PrinterHouseModel", "codePos", "J", false)
  | _ => ("PrinterHouseModel", "isTurned", "Z", false)
def tyX12 : Nat → FieldType := fun k => match k with
  | 0 => .array .int
  | 1 => .array .int
  | 2 => .array .boolean
  | 3 => .array .boolean
  | 4 => .array .int
  | 5 => .array .int
  | 6 => .array .boolean
  | 7 => .array .int
  | 8 => .array .int
  | 9 => .int
  | 10 => .array .boolean
  | 11 => .array .boolean
  | 12 => .array .int
  | 13 => .array .int
  | 14 => .array .int
  | 15 => .array .boolean
  | 16 => .array .boolean
  | 17 => .array .int
  | 18 => .array .byte
  | 19 => .array .byte
  | 20 => .array .int
  | 21 => .array .int
  | 22 => .int
  | 23 => .array .byte
  | 24 => .int
  | 25 => .array .byte
  | 26 => .array .byte
  | 27 => .int
  | 28 => .int
  | 29 => .int
  | 30 => .boolean
  | 31 => .boolean
  | 32 => .int
  | 33 => .boolean
  | 34 => .array .byte
  | 35 => .int
  | 36 => .int
  | 37 => .array .byte
  | 38 => .array .int
  | 39 => .array .int
  | 40 => .int
  | 41 => .array .byte
  | 42 => .int
  | 43 => .int
  | 44 => .int
  | 45 => .int
  | 46 => .array .int
  | 47 => .boolean
  | 48 => .array .int
  | 49 => .long
  | 50 => .array .boolean
  | 51 => .int
  | 52 => .boolean
  | 53 => .long
  | 54 => .boolean
  | 55 => .int
  | 56 => .array .int
  | 57 => .array .int
  | 58 => .array .int
  | 59 => .array .int
  | 60 => .int
  | 61 => .int
  | 62 => .boolean
  | 63 => .int
  | 64 => .int
  | 65 => .int
  | 66 => .int
  | 67 => .int
  | 68 => .int
  | 69 => .boolean
  | 70 => .array .int
  | 71 => .int
  | 72 => .array .int
  | 73 => .array .long
  | 74 => .array .long
  | 75 => .array .long
  | 76 => .int
  | 77 => .long
  | 78 => .long
  | _ => .boolean
abbrev wsX120 : List Cond := u_ws RX12 TX12 80
theorem nmX12 : ∀ a, a < 80 → ∀ b, b < 80 → a ≠ b → (TX12 a).2.1 ≠ (TX12 b).2.1 := by decide +kernel
theorem tyX12_ok : ∀ k, k < 80 → parseFieldDescriptor (TX12 k).2.2.1 = some (tyX12 k) := by decide +kernel
abbrev cX12_init : ByteArray := prog_14_method_1_code
def yX12_init : MethodName := ⟨RX12, "<init>", "()V"⟩
abbrev cX12_feed : ByteArray := prog_14_method_3_code
def yX12_feed : MethodName := ⟨RX12, "feed", "(IIIII)I"⟩
abbrev cX12_lay : ByteArray := prog_14_method_4_code
def yX12_lay : MethodName := ⟨RX12, "lay", "(I)V"⟩
abbrev cX12_cut : ByteArray := prog_14_method_5_code
def yX12_cut : MethodName := ⟨RX12, "cut", "(I)I"⟩
abbrev cX12_part : ByteArray := prog_14_method_6_code
def yX12_part : MethodName := ⟨RX12, "part", "(I)I"⟩
abbrev cX12_drop : ByteArray := prog_14_method_7_code
def yX12_drop : MethodName := ⟨RX12, "drop", "()I"⟩
abbrev cX12_pageWide : ByteArray := prog_14_method_8_code
def yX12_pageWide : MethodName := ⟨RX12, "pageWide", "(I)I"⟩
abbrev cX12_pageHigh : ByteArray := prog_14_method_9_code
def yX12_pageHigh : MethodName := ⟨RX12, "pageHigh", "(I)I"⟩
abbrev cX12_wide : ByteArray := prog_14_method_10_code
def yX12_wide : MethodName := ⟨RX12, "wide", "()I"⟩
abbrev cX12_high : ByteArray := prog_14_method_11_code
def yX12_high : MethodName := ⟨RX12, "high", "()I"⟩
abbrev cX12_modulo : ByteArray := prog_14_method_13_code
def yX12_modulo : MethodName := ⟨RX12, "modulo", "(II)I"⟩
abbrev cX12_shadeOf : ByteArray := prog_14_method_14_code
def yX12_shadeOf : MethodName := ⟨RX12, "shadeOf", "(II)I"⟩
abbrev cX12_patternAt : ByteArray := prog_14_method_15_code
def yX12_patternAt : MethodName := ⟨RX12, "patternAt", "(II)I"⟩
abbrev cX12_useAtHand : ByteArray := prog_14_method_16_code
def yX12_useAtHand : MethodName := ⟨RX12, "useAtHand", "()V"⟩
abbrev cX12_lay_ : ByteArray := prog_14_method_17_code
def yX12_lay_ : MethodName := ⟨RX12, "lay", "(III)V"⟩
abbrev cX12_mark : ByteArray := prog_14_method_18_code
def yX12_mark : MethodName := ⟨RX12, "mark", "(JJJJ)Z"⟩
abbrev cX12_comes : ByteArray := prog_14_method_19_code
def yX12_comes : MethodName := ⟨RX12, "comes", "(II)V"⟩
abbrev cX12_white : ByteArray := prog_14_method_20_code
def yX12_white : MethodName := ⟨RX12, "white", "()V"⟩
abbrev cX12_setX : ByteArray := prog_14_method_21_code
def yX12_setX : MethodName := ⟨RX12, "setX", "(J)V"⟩
abbrev cX12_setY : ByteArray := prog_14_method_22_code
def yX12_setY : MethodName := ⟨RX12, "setY", "(J)V"⟩
abbrev cX12_homeY : ByteArray := prog_14_method_23_code
def yX12_homeY : MethodName := ⟨RX12, "homeY", "()V"⟩
abbrev cX12_pagesOwn : ByteArray := prog_14_method_24_code
def yX12_pagesOwn : MethodName := ⟨RX12, "pagesOwn", "()V"⟩
abbrev cX12_reset : ByteArray := prog_14_method_25_code
def yX12_reset : MethodName := ⟨RX12, "reset", "(II)V"⟩
abbrev cX12_save : ByteArray := prog_14_method_26_code
def yX12_save : MethodName := ⟨RX12, "save", "(I)V"⟩
abbrev cX12_back : ByteArray := prog_14_method_27_code
def yX12_back : MethodName := ⟨RX12, "back", "(I)V"⟩
abbrev cX12_eject : ByteArray := prog_14_method_28_code
def yX12_eject : MethodName := ⟨RX12, "eject", "()V"⟩
abbrev cX12_temporaryGo : ByteArray := prog_14_method_29_code
def yX12_temporaryGo : MethodName := ⟨RX12, "temporaryGo", "()V"⟩
abbrev cX12_fontsGo : ByteArray := prog_14_method_30_code
def yX12_fontsGo : MethodName := ⟨RX12, "fontsGo", "(Z)V"⟩
abbrev cX12_fontGoes : ByteArray := prog_14_method_31_code
def yX12_fontGoes : MethodName := ⟨RX12, "fontGoes", "(I)V"⟩
abbrev cX12_glyphGoes : ByteArray := prog_14_method_32_code
def yX12_glyphGoes : MethodName := ⟨RX12, "glyphGoes", "(II)V"⟩
abbrev cX12_usersGo : ByteArray := prog_14_method_33_code
def yX12_usersGo : MethodName := ⟨RX12, "usersGo", "(Z)V"⟩
abbrev cX12_macrosGo : ByteArray := prog_14_method_34_code
def yX12_macrosGo : MethodName := ⟨RX12, "macrosGo", "(Z)V"⟩
abbrev cX12_hasMore : ByteArray := prog_14_method_35_code
def yX12_hasMore : MethodName := ⟨RX12, "hasMore", "()Z"⟩
abbrev cX12_next : ByteArray := prog_14_method_36_code
def yX12_next : MethodName := ⟨RX12, "next", "()I"⟩
abbrev cX12_count : ByteArray := prog_14_method_37_code
def yX12_count : MethodName := ⟨RX12, "count", "(I)V"⟩
abbrev cX12_peek : ByteArray := prog_14_method_38_code
def yX12_peek : MethodName := ⟨RX12, "peek", "()I"⟩
abbrev cX12_through : ByteArray := prog_14_method_39_code
def yX12_through : MethodName := ⟨RX12, "through", "(I)V"⟩
abbrev cX12_run : ByteArray := prog_14_method_40_code
def yX12_run : MethodName := ⟨RX12, "run", "()V"⟩
abbrev cX12_plain : ByteArray := prog_14_method_41_code
def yX12_plain : MethodName := ⟨RX12, "plain", "(I)V"⟩
abbrev cX12_tab : ByteArray := prog_14_method_42_code
def yX12_tab : MethodName := ⟨RX12, "tab", "()V"⟩
abbrev cX12_line : ByteArray := prog_14_method_43_code
def yX12_line : MethodName := ⟨RX12, "line", "(I)V"⟩
abbrev cX12_show : ByteArray := prog_14_method_44_code
def yX12_show : MethodName := ⟨RX12, "show", "(I)V"⟩
abbrev cX12_residentGlyph : ByteArray := prog_14_method_45_code
def yX12_residentGlyph : MethodName := ⟨RX12, "residentGlyph", "(III)V"⟩
abbrev cX12_glyph : ByteArray := prog_14_method_46_code
def yX12_glyph : MethodName := ⟨RX12, "glyph", "(III)V"⟩
abbrev cX12_wish : ByteArray := prog_14_method_47_code
def yX12_wish : MethodName := ⟨RX12, "wish", "(I)I"⟩
abbrev cX12_fontInUse : ByteArray := prog_14_method_48_code
def yX12_fontInUse : MethodName := ⟨RX12, "fontInUse", "()I"⟩
abbrev cX12_keep : ByteArray := prog_14_method_49_code
def yX12_keep : MethodName := ⟨RX12, "keep", "(II)V"⟩
abbrev cX12_nearest : ByteArray := prog_14_method_50_code
def yX12_nearest : MethodName := ⟨RX12, "nearest", "(II)V"⟩
abbrev cX12_smaller : ByteArray := prog_14_method_51_code
def yX12_smaller : MethodName := ⟨RX12, "smaller", "(JJ)J"⟩
abbrev cX12_far : ByteArray := prog_14_method_52_code
def yX12_far : MethodName := ⟨RX12, "far", "(II)J"⟩
abbrev cX12_escape : ByteArray := prog_14_method_53_code
def yX12_escape : MethodName := ⟨RX12, "escape", "()V"⟩
abbrev cX12_readValue : ByteArray := prog_14_method_54_code
def yX12_readValue : MethodName := ⟨RX12, "readValue", "()V"⟩
abbrev cX12_units : ByteArray := prog_14_method_55_code
def yX12_units : MethodName := ⟨RX12, "units", "(J)J"⟩
abbrev cX12_pair : ByteArray := prog_14_method_56_code
def yX12_pair : MethodName := ⟨RX12, "pair", "(I)V"⟩
abbrev cX12_transparent : ByteArray := prog_14_method_57_code
def yX12_transparent : MethodName := ⟨RX12, "transparent", "()V"⟩
abbrev cX12_shown : ByteArray := prog_14_method_58_code
def yX12_shown : MethodName := ⟨RX12, "shown", "(I)V"⟩
abbrev cX12_field : ByteArray := prog_14_method_59_code
def yX12_field : MethodName := ⟨RX12, "field", "(III)V"⟩
abbrev cX12_pageField : ByteArray := prog_14_method_60_code
def yX12_pageField : MethodName := ⟨RX12, "pageField", "(I)V"⟩
abbrev cX12_placeField : ByteArray := prog_14_method_61_code
def yX12_placeField : MethodName := ⟨RX12, "placeField", "(I)V"⟩
abbrev cX12_dotField : ByteArray := prog_14_method_62_code
def yX12_dotField : MethodName := ⟨RX12, "dotField", "(I)V"⟩
abbrev cX12_macroField : ByteArray := prog_14_method_63_code
def yX12_macroField : MethodName := ⟨RX12, "macroField", "(I)V"⟩
abbrev cX12_macroAct : ByteArray := prog_14_method_64_code
def yX12_macroAct : MethodName := ⟨RX12, "macroAct", "()V"⟩
abbrev cX12_endsMacro : ByteArray := prog_14_method_65_code
def yX12_endsMacro : MethodName := ⟨RX12, "endsMacro", "(I)Z"⟩
abbrev cX12_define : ByteArray := prog_14_method_66_code
def yX12_define : MethodName := ⟨RX12, "define", "(I)V"⟩
abbrev cX12_hasPattern : ByteArray := prog_14_method_67_code
def yX12_hasPattern : MethodName := ⟨RX12, "hasPattern", "(II)Z"⟩
abbrev cX12_putPattern : ByteArray := prog_14_method_68_code
def yX12_putPattern : MethodName := ⟨RX12, "putPattern", "([IIII)V"⟩
abbrev cX12_modelField : ByteArray := prog_14_method_69_code
def yX12_modelField : MethodName := ⟨RX12, "modelField", "(I)V"⟩
abbrev cX12_dotsUp : ByteArray := prog_14_method_70_code
def yX12_dotsUp : MethodName := ⟨RX12, "dotsUp", "(J)I"⟩
abbrev cX12_thingField : ByteArray := prog_14_method_71_code
def yX12_thingField : MethodName := ⟨RX12, "thingField", "(I)V"⟩
abbrev cX12_fontAct : ByteArray := prog_14_method_72_code
def yX12_fontAct : MethodName := ⟨RX12, "fontAct", "()V"⟩
abbrev cX12_userAct : ByteArray := prog_14_method_73_code
def yX12_userAct : MethodName := ⟨RX12, "userAct", "()V"⟩
abbrev cX12_rectangle : ByteArray := prog_14_method_74_code
def yX12_rectangle : MethodName := ⟨RX12, "rectangle", "()V"⟩
abbrev cX12_fontField : ByteArray := prog_14_method_75_code
def yX12_fontField : MethodName := ⟨RX12, "fontField", "(III)V"⟩
abbrev cX12_dataAt : ByteArray := prog_14_method_76_code
def yX12_dataAt : MethodName := ⟨RX12, "dataAt", "(I)I"⟩
abbrev cX12_signedAt : ByteArray := prog_14_method_77_code
def yX12_signedAt : MethodName := ⟨RX12, "signedAt", "(I)I"⟩
abbrev cX12_withData : ByteArray := prog_14_method_78_code
def yX12_withData : MethodName := ⟨RX12, "withData", "(III)V"⟩
abbrev cX12_fontData : ByteArray := prog_14_method_79_code
def yX12_fontData : MethodName := ⟨RX12, "fontData", "(I)V"⟩
abbrev cX12_glyphData : ByteArray := prog_14_method_80_code
def yX12_glyphData : MethodName := ⟨RX12, "glyphData", "(I)V"⟩
abbrev cX12_userData : ByteArray := prog_14_method_81_code
def yX12_userData : MethodName := ⟨RX12, "userData", "(I)V"⟩
abbrev cX12_begin : ByteArray := prog_14_method_82_code
def yX12_begin : MethodName := ⟨RX12, "begin", "(Z)V"⟩
abbrev cX12_rasterField : ByteArray := prog_14_method_83_code
def yX12_rasterField : MethodName := ⟨RX12, "rasterField", "(I)V"⟩
abbrev cX12_rowField : ByteArray := prog_14_method_84_code
def yX12_rowField : MethodName := ⟨RX12, "rowField", "(I)V"⟩
abbrev cX12_rowData : ByteArray := prog_14_method_85_code
def yX12_rowData : MethodName := ⟨RX12, "rowData", "(I)V"⟩
abbrev cX12_fill : ByteArray := prog_14_method_86_code
def yX12_fill : MethodName := ⟨RX12, "fill", "(I)V"⟩
abbrev cX12_unpack : ByteArray := prog_14_method_87_code
def yX12_unpack : MethodName := ⟨RX12, "unpack", "(I)V"⟩
abbrev cX12_changed : ByteArray := prog_14_method_88_code
def yX12_changed : MethodName := ⟨RX12, "changed", "(I)V"⟩
abbrev cX12_readCodes : ByteArray := prog_14_method_89_code
def yX12_readCodes : MethodName := ⟨RX12, "readCodes", "()V"⟩
abbrev cX12_readRow : ByteArray := prog_14_method_90_code
def yX12_readRow : MethodName := ⟨RX12, "readRow", "(Ljava/lang/String;I)V"⟩
abbrev cX12_b1 : ByteArray := prog_14_method_91_code
def yX12_b1 : MethodName := ⟨RX12, "b1", "()I"⟩
abbrev cX12_b2 : ByteArray := prog_14_method_92_code
def yX12_b2 : MethodName := ⟨RX12, "b2", "(I)I"⟩
abbrev cX12_bits : ByteArray := prog_14_method_93_code
def yX12_bits : MethodName := ⟨RX12, "bits", "(II)V"⟩
abbrev cX12_outByte : ByteArray := prog_14_method_94_code
def yX12_outByte : MethodName := ⟨RX12, "outByte", "(I)V"⟩
abbrev cX12_outNumber : ByteArray := prog_14_method_95_code
def yX12_outNumber : MethodName := ⟨RX12, "outNumber", "(IJ)V"⟩
abbrev cX12_writeRun : ByteArray := prog_14_method_96_code
def yX12_writeRun : MethodName := ⟨RX12, "writeRun", "(II)V"⟩
abbrev cX12_change : ByteArray := prog_14_method_97_code
def yX12_change : MethodName := ⟨RX12, "change", "(II)I"⟩
abbrev cX12_writeRow : ByteArray := prog_14_method_98_code
def yX12_writeRow : MethodName := ⟨RX12, "writeRow", "()V"⟩
abbrev cX12_written : ByteArray := prog_14_method_99_code
def yX12_written : MethodName := ⟨RX12, "written", "(I)V"⟩
abbrev cX12_entry : ByteArray := prog_14_method_100_code
def yX12_entry : MethodName := ⟨RX12, "entry", "(III)V"⟩
abbrev cX12_picture : ByteArray := prog_14_method_101_code
def yX12_picture : MethodName := ⟨RX12, "picture", "(II)J"⟩
abbrev cX12_wrong : ByteArray := prog_14_method_102_code
def yX12_wrong : MethodName := ⟨RX12, "wrong", "(II)Z"⟩
abbrev cX12_pictures : ByteArray := prog_14_method_103_code
def yX12_pictures : MethodName := ⟨RX12, "pictures", "(I)Z"⟩
abbrev cX12_valueOf : ByteArray := prog_14_method_104_code
def yX12_valueOf : MethodName := ⟨RX12, "valueOf", "(II)J"⟩
abbrev cX12_isLooked : ByteArray := prog_14_method_105_code
def yX12_isLooked : MethodName := ⟨RX12, "isLooked", "(I)Z"⟩
abbrev cX12_isMay : ByteArray := prog_14_method_106_code
def yX12_isMay : MethodName := ⟨RX12, "isMay", "(IJ)Z"⟩
abbrev cX12_directory : ByteArray := prog_14_method_107_code
def yX12_directory : MethodName := ⟨RX12, "directory", "(II)Z"⟩
abbrev cX12_bit : ByteArray := prog_14_method_108_code
def yX12_bit : MethodName := ⟨RX12, "bit", "()I"⟩
abbrev cX12_readRun : ByteArray := prog_14_method_109_code
def yX12_readRun : MethodName := ⟨RX12, "readRun", "(I)I"⟩
abbrev cX12_oneRun : ByteArray := prog_14_method_110_code
def yX12_oneRun : MethodName := ⟨RX12, "oneRun", "(I)I"⟩
abbrev cX12_mode : ByteArray := prog_14_method_111_code
def yX12_mode : MethodName := ⟨RX12, "mode", "()I"⟩
abbrev cX12_readRow_ : ByteArray := prog_14_method_112_code
def yX12_readRow_ : MethodName := ⟨RX12, "readRow", "()Z"⟩
abbrev cX12_paint : ByteArray := prog_14_method_113_code
def yX12_paint : MethodName := ⟨RX12, "paint", "(II)V"⟩
abbrev cX12_print : ByteArray := prog_14_method_114_code
def yX12_print : MethodName := ⟨RX12, "print", "(I)I"⟩
abbrev cX12_stream : ByteArray := prog_14_method_115_code
def yX12_stream : MethodName := ⟨RX12, "stream", "(I)V"⟩
abbrev cX12_fault : ByteArray := prog_14_method_116_code
def yX12_fault : MethodName := ⟨RX12, "fault", "(I)I"⟩
abbrev cX12_outs : ByteArray := prog_14_method_117_code
def yX12_outs : MethodName := ⟨RX12, "outs", "()I"⟩
abbrev cX12_out : ByteArray := prog_14_method_118_code
def yX12_out : MethodName := ⟨RX12, "out", "(I)I"⟩
abbrev cX12_sum : ByteArray := prog_14_method_119_code
def yX12_sum : MethodName := ⟨RX12, "sum", "()I"⟩
abbrev cX12_take : ByteArray := prog_14_method_120_code
def yX12_take : MethodName := ⟨RX12, "take", "()I"⟩
abbrev cX12_pages : ByteArray := prog_14_method_121_code
def yX12_pages : MethodName := ⟨RX12, "pages", "()I"⟩
abbrev cX12_width : ByteArray := prog_14_method_122_code
def yX12_width : MethodName := ⟨RX12, "width", "(I)I"⟩
abbrev cX12_height : ByteArray := prog_14_method_123_code
def yX12_height : MethodName := ⟨RX12, "height", "(I)I"⟩
abbrev cX12_dot : ByteArray := prog_14_method_124_code
def yX12_dot : MethodName := ⟨RX12, "dot", "(III)I"⟩
abbrev cX12_black : ByteArray := prog_14_method_125_code
def yX12_black : MethodName := ⟨RX12, "black", "(II)I"⟩
abbrev cX12_state : ByteArray := prog_14_method_126_code
def yX12_state : MethodName := ⟨RX12, "state", "(I)I"⟩
abbrev cX12_held : ByteArray := prog_14_method_127_code
def yX12_held : MethodName := ⟨RX12, "held", "(I)I"⟩
abbrev cX12_off : ByteArray := prog_14_method_128_code
def yX12_off : MethodName := ⟨RX12, "off", "()I"⟩
def RJx145de : String := "java/io/Serializable"
def TJx145de : u_T := fun k => match k with
  | _ => ("", "", "", false)
def tyJx145de : Nat → FieldType := fun k => match k with
  | _ => .int
abbrev wsJx145de0 : List Cond := u_ws RJx145de TJx145de 0
theorem nmJx145de : ∀ a, a < 0 → ∀ b, b < 0 → a ≠ b → (TJx145de a).2.1 ≠ (TJx145de b).2.1 := by decide +kernel
theorem tyJx145de_ok : ∀ k, k < 0 → parseFieldDescriptor (TJx145de k).2.2.1 = some (tyJx145de k) := by decide +kernel
def RJx9f9b0 : String := "java/lang/CharSequence"
def TJx9f9b0 : u_T := fun k => match k with
  | _ => ("", "", "", false)
def tyJx9f9b0 : Nat → FieldType := fun k => match k with
  | _ => .int
abbrev wsJx9f9b00 : List Cond := u_ws RJx9f9b0 TJx9f9b0 0
theorem nmJx9f9b0 : ∀ a, a < 0 → ∀ b, b < 0 → a ≠ b → (TJx9f9b0 a).2.1 ≠ (TJx9f9b0 b).2.1 := by decide +kernel
theorem tyJx9f9b0_ok : ∀ k, k < 0 → parseFieldDescriptor (TJx9f9b0 k).2.2.1 = some (tyJx9f9b0 k) := by decide +kernel
def RJxb160c : String := "java/lang/Comparable"
def TJxb160c : u_T := fun k => match k with
  | _ => ("", "", "", false)
def tyJxb160c : Nat → FieldType := fun k => match k with
  | _ => .int
abbrev wsJxb160c0 : List Cond := u_ws RJxb160c TJxb160c 0
theorem nmJxb160c : ∀ a, a < 0 → ∀ b, b < 0 → a ≠ b → (TJxb160c a).2.1 ≠ (TJxb160c b).2.1 := by decide +kernel
theorem tyJxb160c_ok : ∀ k, k < 0 → parseFieldDescriptor (TJxb160c k).2.2.1 = some (tyJxb160c k) := by decide +kernel
def RJ6 : String := "java/lang/Integer"
def TJ6 : u_T := fun k => match k with
  | _ => ("", "", "", false)
def tyJ6 : Nat → FieldType := fun k => match k with
  | _ => .int
abbrev wsJ60 : List Cond := u_ws RJ6 TJ6 0
theorem nmJ6 : ∀ a, a < 0 → ∀ b, b < 0 → a ≠ b → (TJ6 a).2.1 ≠ (TJ6 b).2.1 := by decide +kernel
theorem tyJ6_ok : ∀ k, k < 0 → parseFieldDescriptor (TJ6 k).2.2.1 = some (tyJ6 k) := by decide +kernel
abbrev cJ6_bitCount_0f7a4 : ByteArray := prog_15_method_49_code
def yJ6_bitCount_0f7a4 : MethodName := ⟨RJ6, "bitCount", "(I)I"⟩
def RJ9 : String := "java/lang/Math"
def TJ9 : u_T := fun k => match k with
  | _ => ("", "", "", false)
def tyJ9 : Nat → FieldType := fun k => match k with
  | _ => .int
abbrev wsJ90 : List Cond := u_ws RJ9 TJ9 0
theorem nmJ9 : ∀ a, a < 0 → ∀ b, b < 0 → a ≠ b → (TJ9 a).2.1 ≠ (TJ9 b).2.1 := by decide +kernel
theorem tyJ9_ok : ∀ k, k < 0 → parseFieldDescriptor (TJ9 k).2.2.1 = some (tyJ9 k) := by decide +kernel
abbrev cJ9_floorDiv_7cf53 : ByteArray := prog_16_method_47_code
def yJ9_floorDiv_7cf53 : MethodName := ⟨RJ9, "floorDiv", "(II)I"⟩
abbrev cJ9_floorMod_7cf53 : ByteArray := prog_16_method_50_code
def yJ9_floorMod_7cf53 : MethodName := ⟨RJ9, "floorMod", "(II)I"⟩
abbrev cJ9_abs_0f7a4 : ByteArray := prog_16_method_59_code
def yJ9_abs_0f7a4 : MethodName := ⟨RJ9, "abs", "(I)I"⟩
abbrev cJ9_max_7cf53 : ByteArray := prog_16_method_65_code
def yJ9_max_7cf53 : MethodName := ⟨RJ9, "max", "(II)I"⟩
abbrev cJ9_max_f86c9 : ByteArray := prog_16_method_66_code
def yJ9_max_f86c9 : MethodName := ⟨RJ9, "max", "(JJ)J"⟩
abbrev cJ9_min_7cf53 : ByteArray := prog_16_method_69_code
def yJ9_min_7cf53 : MethodName := ⟨RJ9, "min", "(II)I"⟩
abbrev cJ9_min_f86c9 : ByteArray := prog_16_method_70_code
def yJ9_min_f86c9 : MethodName := ⟨RJ9, "min", "(JJ)J"⟩
def RJ0 : String := "java/lang/String"
def TJ0 : u_T := fun k => match k with
  | _ => ("", "", "", false)
def tyJ0 : Nat → FieldType := fun k => match k with
  | _ => .int
abbrev wsJ00 : List Cond := u_ws RJ0 TJ0 0
theorem nmJ0 : ∀ a, a < 0 → ∀ b, b < 0 → a ≠ b → (TJ0 a).2.1 ≠ (TJ0 b).2.1 := by decide +kernel
theorem tyJ0_ok : ∀ k, k < 0 → parseFieldDescriptor (TJ0 k).2.2.1 = some (tyJ0 k) := by decide +kernel
abbrev cJ0_length_8abf5 : ByteArray := prog_17_method_54_code
def yJ0_length_8abf5 : MethodName := ⟨RJ0, "length", "()I"⟩
abbrev cJ0_charAt_5068e : ByteArray := prog_17_method_56_code
def yJ0_charAt_5068e : MethodName := ⟨RJ0, "charAt", "(I)C"⟩
abbrev cJ0_coder_7d493 : ByteArray := prog_17_method_152_code
def yJ0_coder_7d493 : MethodName := ⟨RJ0, "coder", "()B"⟩
abbrev cJ0_isLatin1_aae02 : ByteArray := prog_17_method_154_code
def yJ0_isLatin1_aae02 : MethodName := ⟨RJ0, "isLatin1", "()Z"⟩
abbrev cJ0_checkIndex_df160 : ByteArray := prog_17_method_155_code
def yJ0_checkIndex_df160 : MethodName := ⟨RJ0, "checkIndex", "(II)V"⟩
def RJ1 : String := "java/lang/StringLatin1"
def TJ1 : u_T := fun k => match k with
  | _ => ("", "", "", false)
def tyJ1 : Nat → FieldType := fun k => match k with
  | _ => .int
abbrev wsJ10 : List Cond := u_ws RJ1 TJ1 0
theorem nmJ1 : ∀ a, a < 0 → ∀ b, b < 0 → a ≠ b → (TJ1 a).2.1 ≠ (TJ1 b).2.1 := by decide +kernel
theorem tyJ1_ok : ∀ k, k < 0 → parseFieldDescriptor (TJ1 k).2.2.1 = some (tyJ1 k) := by decide +kernel
abbrev cJ1_charAt_3b067 : ByteArray := prog_18_method_2_code
def yJ1_charAt_3b067 : MethodName := ⟨RJ1, "charAt", "([BI)C"⟩
def RJ2 : String := "java/lang/StringUTF16"
def TJ2 : u_T := fun k => match k with
  | _ => ("", "", "", false)
def tyJ2 : Nat → FieldType := fun k => match k with
  | _ => .int
abbrev wsJ20 : List Cond := u_ws RJ2 TJ2 0
theorem nmJ2 : ∀ a, a < 0 → ∀ b, b < 0 → a ≠ b → (TJ2 a).2.1 ≠ (TJ2 b).2.1 := by decide +kernel
theorem tyJ2_ok : ∀ k, k < 0 → parseFieldDescriptor (TJ2 k).2.2.1 = some (tyJ2 k) := by decide +kernel
abbrev cJ2_getChar_3b067 : ByteArray := prog_19_method_5_code
def yJ2_getChar_3b067 : MethodName := ⟨RJ2, "getChar", "([BI)C"⟩
abbrev cJ2_length_9d52b : ByteArray := prog_19_method_6_code
def yJ2_length_9d52b : MethodName := ⟨RJ2, "length", "([B)I"⟩
abbrev cJ2_charAt_3b067 : ByteArray := prog_19_method_83_code
def yJ2_charAt_3b067 : MethodName := ⟨RJ2, "charAt", "([BI)C"⟩
abbrev cJ2_checkIndex_2214a : ByteArray := prog_19_method_91_code
def yJ2_checkIndex_2214a : MethodName := ⟨RJ2, "checkIndex", "(I[B)V"⟩
def RJ10 : String := "java/lang/System"
def TJ10 : u_T := fun k => match k with
  | _ => ("", "", "", false)
def tyJ10 : Nat → FieldType := fun k => match k with
  | _ => .int
abbrev wsJ100 : List Cond := u_ws RJ10 TJ10 0
theorem nmJ10 : ∀ a, a < 0 → ∀ b, b < 0 → a ≠ b → (TJ10 a).2.1 ≠ (TJ10 b).2.1 := by decide +kernel
theorem tyJ10_ok : ∀ k, k < 0 → parseFieldDescriptor (TJ10 k).2.2.1 = some (tyJ10 k) := by decide +kernel
def RJxfd54e : String := "java/lang/constant/Constable"
def TJxfd54e : u_T := fun k => match k with
  | _ => ("", "", "", false)
def tyJxfd54e : Nat → FieldType := fun k => match k with
  | _ => .int
abbrev wsJxfd54e0 : List Cond := u_ws RJxfd54e TJxfd54e 0
theorem nmJxfd54e : ∀ a, a < 0 → ∀ b, b < 0 → a ≠ b → (TJxfd54e a).2.1 ≠ (TJxfd54e b).2.1 := by decide +kernel
theorem tyJxfd54e_ok : ∀ k, k < 0 → parseFieldDescriptor (TJxfd54e k).2.2.1 = some (tyJxfd54e k) := by decide +kernel
def RJx3cf43 : String := "java/lang/constant/ConstantDesc"
def TJx3cf43 : u_T := fun k => match k with
  | _ => ("", "", "", false)
def tyJx3cf43 : Nat → FieldType := fun k => match k with
  | _ => .int
abbrev wsJx3cf430 : List Cond := u_ws RJx3cf43 TJx3cf43 0
theorem nmJx3cf43 : ∀ a, a < 0 → ∀ b, b < 0 → a ≠ b → (TJx3cf43 a).2.1 ≠ (TJx3cf43 b).2.1 := by decide +kernel
theorem tyJx3cf43_ok : ∀ k, k < 0 → parseFieldDescriptor (TJx3cf43 k).2.2.1 = some (tyJx3cf43 k) := by decide +kernel
def RJ7 : String := "java/util/Arrays"
def TJ7 : u_T := fun k => match k with
  | _ => ("", "", "", false)
def tyJ7 : Nat → FieldType := fun k => match k with
  | _ => .int
abbrev wsJ70 : List Cond := u_ws RJ7 TJ7 0
theorem nmJ7 : ∀ a, a < 0 → ∀ b, b < 0 → a ≠ b → (TJ7 a).2.1 ≠ (TJ7 b).2.1 := by decide +kernel
theorem tyJ7_ok : ∀ k, k < 0 → parseFieldDescriptor (TJ7 k).2.2.1 = some (tyJ7 k) := by decide +kernel
abbrev cJ7_fill_53178 : ByteArray := prog_21_method_103_code
def yJ7_fill_53178 : MethodName := ⟨RJ7, "fill", "([II)V"⟩
def RJ3 : String := "jdk/internal/util/Preconditions"
def TJ3 : u_T := fun k => match k with
  | _ => ("", "", "", false)
def tyJ3 : Nat → FieldType := fun k => match k with
  | _ => .int
abbrev wsJ30 : List Cond := u_ws RJ3 TJ3 0
theorem nmJ3 : ∀ a, a < 0 → ∀ b, b < 0 → a ≠ b → (TJ3 a).2.1 ≠ (TJ3 b).2.1 := by decide +kernel
theorem tyJ3_ok : ∀ k, k < 0 → parseFieldDescriptor (TJ3 k).2.2.1 = some (tyJ3 k) := by decide +kernel
abbrev cJ3_checkIndex_8e157 : ByteArray := prog_22_method_11_code
def yJ3_checkIndex_8e157 : MethodName := ⟨RJ3, "checkIndex", "(IILjava/util/function/BiFunction;)I"⟩
def RL : String := "PrinterHouseLaw"
abbrev cL_law : ByteArray := code
def yL_law : MethodName := ⟨RL, "law", "([I)Z"⟩
abbrev vwCl : List vw_C := [(RX0, TX0, 15), (RX1, TX1, 21), (RX2, TX2, 10), (RX3, TX3, 21), (RX4, TX4, 8), (RX5, TX5, 13), (RX6, TX6, 10), (RX7, TX7, 13), (RX8, TX8, 1), (RX9, TX9, 19), (RX10, TX10, 4), (RX11, TX11, 12), (RX12, TX12, 80)]
end
section
/-! The pool as one tuple: addresses, kinds, int / long / reference fields by field code (100 * class + slot) and address, lengths, rows of arrays. -/
abbrev Hp : Type := (List Nat) × (Nat → Nat) × (Nat → Nat → Int32) × (Nat → Nat → Int64) × (Nat → Nat → Option Nat) × (Nat → Nat) × (Nat → Nat → Int32) × (Nat → Nat → Int64) × (Nat → Nat → Option Nat)
def hL (S : Hp) : List Nat := S.1
def hK (S : Hp) : Nat → Nat := S.2.1
def hI (S : Hp) : Nat → Nat → Int32 := S.2.2.1
def hJ (S : Hp) : Nat → Nat → Int64 := S.2.2.2.1
def hR (S : Hp) : Nat → Nat → Option Nat := S.2.2.2.2.1
def hN (S : Hp) : Nat → Nat := S.2.2.2.2.2.1
def aI (S : Hp) : Nat → Nat → Int32 := S.2.2.2.2.2.2.1
def aJ (S : Hp) : Nat → Nat → Int64 := S.2.2.2.2.2.2.2.1
def aR (S : Hp) : Nat → Nat → Option Nat := S.2.2.2.2.2.2.2.2
def up2 {α : Type} (f : Nat → Nat → α) (g a : Nat) (v : α) : Nat → Nat → α := fun x b => if x = g ∧ b = a then v else f x b
theorem up2_self {α : Type} (f : Nat → Nat → α) (g a : Nat) (v : α) : up2 f g a v g a = v := if_pos ⟨rfl, rfl⟩
theorem up2_ne1 {α : Type} (f : Nat → Nat → α) {g x : Nat} (a b : Nat) (v : α) (h : x ≠ g) : up2 f g a v x b = f x b := if_neg fun q => h q.1
theorem up2_ne2 {α : Type} (f : Nat → Nat → α) {a b : Nat} (g x : Nat) (v : α) (h : b ≠ a) : up2 f g a v x b = f x b := if_neg fun q => h q.2
def sI (S : Hp) (g a : Nat) (v : Int32) : Hp := (hL S, hK S, up2 (hI S) g a v, hJ S, hR S, hN S, aI S, aJ S, aR S)
def sJ (S : Hp) (g a : Nat) (v : Int64) : Hp := (hL S, hK S, hI S, up2 (hJ S) g a v, hR S, hN S, aI S, aJ S, aR S)
def sR (S : Hp) (g a : Nat) (v : Option Nat) : Hp := (hL S, hK S, hI S, hJ S, up2 (hR S) g a v, hN S, aI S, aJ S, aR S)
def tI (S : Hp) (a j : Nat) (v : Int32) : Hp := (hL S, hK S, hI S, hJ S, hR S, hN S, up2 (aI S) a j v, aJ S, aR S)
def tJ (S : Hp) (a j : Nat) (v : Int64) : Hp := (hL S, hK S, hI S, hJ S, hR S, hN S, aI S, up2 (aJ S) a j v, aR S)
def tR (S : Hp) (a j : Nat) (v : Option Nat) : Hp := (hL S, hK S, hI S, hJ S, hR S, hN S, aI S, aJ S, up2 (aR S) a j v)
def rI (S : Hp) (a : Nat) (f : Nat → Int32) : Hp := (hL S, hK S, hI S, hJ S, hR S, hN S, va_up (aI S) a f, aJ S, aR S)
def up1 {α : Type} (f : Nat → Nat → α) (a : Nat) (v : α) : Nat → Nat → α := fun x b => if b = a then v else f x b
def nO (S : Hp) (a k : Nat) : Hp := (hL S ++ [a], va_up (hK S) a k, up1 (hI S) a 0, up1 (hJ S) a 0, up1 (hR S) a none, hN S, aI S, aJ S, aR S)
def nA (S : Hp) (a k n : Nat) : Hp := (hL S ++ [a], va_up (hK S) a k, hI S, hJ S, hR S, va_up (hN S) a n, va_up (aI S) a (fun _ => 0), va_up (aJ S) a (fun _ => 0), va_up (aR S) a (fun _ => none))
theorem hL_sI (S : Hp) (g a : Nat) (v : Int32) : hL (sI S g a v) = hL S := rfl
theorem hK_sI (S : Hp) (g a : Nat) (v : Int32) : hK (sI S g a v) = hK S := rfl
theorem hJ_sI (S : Hp) (g a : Nat) (v : Int32) : hJ (sI S g a v) = hJ S := rfl
theorem hR_sI (S : Hp) (g a : Nat) (v : Int32) : hR (sI S g a v) = hR S := rfl
theorem hN_sI (S : Hp) (g a : Nat) (v : Int32) : hN (sI S g a v) = hN S := rfl
theorem aI_sI (S : Hp) (g a : Nat) (v : Int32) : aI (sI S g a v) = aI S := rfl
theorem aJ_sI (S : Hp) (g a : Nat) (v : Int32) : aJ (sI S g a v) = aJ S := rfl
theorem aR_sI (S : Hp) (g a : Nat) (v : Int32) : aR (sI S g a v) = aR S := rfl
theorem hL_sJ (S : Hp) (g a : Nat) (v : Int64) : hL (sJ S g a v) = hL S := rfl
theorem hK_sJ (S : Hp) (g a : Nat) (v : Int64) : hK (sJ S g a v) = hK S := rfl
theorem hI_sJ (S : Hp) (g a : Nat) (v : Int64) : hI (sJ S g a v) = hI S := rfl
theorem hR_sJ (S : Hp) (g a : Nat) (v : Int64) : hR (sJ S g a v) = hR S := rfl
theorem hN_sJ (S : Hp) (g a : Nat) (v : Int64) : hN (sJ S g a v) = hN S := rfl
theorem aI_sJ (S : Hp) (g a : Nat) (v : Int64) : aI (sJ S g a v) = aI S := rfl
theorem aJ_sJ (S : Hp) (g a : Nat) (v : Int64) : aJ (sJ S g a v) = aJ S := rfl
theorem aR_sJ (S : Hp) (g a : Nat) (v : Int64) : aR (sJ S g a v) = aR S := rfl
theorem hL_sR (S : Hp) (g a : Nat) (v : Option Nat) : hL (sR S g a v) = hL S := rfl
theorem hK_sR (S : Hp) (g a : Nat) (v : Option Nat) : hK (sR S g a v) = hK S := rfl
theorem hI_sR (S : Hp) (g a : Nat) (v : Option Nat) : hI (sR S g a v) = hI S := rfl
theorem hJ_sR (S : Hp) (g a : Nat) (v : Option Nat) : hJ (sR S g a v) = hJ S := rfl
theorem hN_sR (S : Hp) (g a : Nat) (v : Option Nat) : hN (sR S g a v) = hN S := rfl
theorem aI_sR (S : Hp) (g a : Nat) (v : Option Nat) : aI (sR S g a v) = aI S := rfl
theorem aJ_sR (S : Hp) (g a : Nat) (v : Option Nat) : aJ (sR S g a v) = aJ S := rfl
theorem aR_sR (S : Hp) (g a : Nat) (v : Option Nat) : aR (sR S g a v) = aR S := rfl
theorem hL_tI (S : Hp) (a j : Nat) (v : Int32) : hL (tI S a j v) = hL S := rfl
theorem hK_tI (S : Hp) (a j : Nat) (v : Int32) : hK (tI S a j v) = hK S := rfl
theorem hI_tI (S : Hp) (a j : Nat) (v : Int32) : hI (tI S a j v) = hI S := rfl
theorem hJ_tI (S : Hp) (a j : Nat) (v : Int32) : hJ (tI S a j v) = hJ S := rfl
theorem hR_tI (S : Hp) (a j : Nat) (v : Int32) : hR (tI S a j v) = hR S := rfl
theorem hN_tI (S : Hp) (a j : Nat) (v : Int32) : hN (tI S a j v) = hN S := rfl
theorem aJ_tI (S : Hp) (a j : Nat) (v : Int32) : aJ (tI S a j v) = aJ S := rfl
theorem aR_tI (S : Hp) (a j : Nat) (v : Int32) : aR (tI S a j v) = aR S := rfl
theorem hL_tJ (S : Hp) (a j : Nat) (v : Int64) : hL (tJ S a j v) = hL S := rfl
theorem hK_tJ (S : Hp) (a j : Nat) (v : Int64) : hK (tJ S a j v) = hK S := rfl
theorem hI_tJ (S : Hp) (a j : Nat) (v : Int64) : hI (tJ S a j v) = hI S := rfl
theorem hJ_tJ (S : Hp) (a j : Nat) (v : Int64) : hJ (tJ S a j v) = hJ S := rfl
theorem hR_tJ (S : Hp) (a j : Nat) (v : Int64) : hR (tJ S a j v) = hR S := rfl
theorem hN_tJ (S : Hp) (a j : Nat) (v : Int64) : hN (tJ S a j v) = hN S := rfl
theorem aI_tJ (S : Hp) (a j : Nat) (v : Int64) : aI (tJ S a j v) = aI S := rfl
theorem aR_tJ (S : Hp) (a j : Nat) (v : Int64) : aR (tJ S a j v) = aR S := rfl
theorem hL_tR (S : Hp) (a j : Nat) (v : Option Nat) : hL (tR S a j v) = hL S := rfl
theorem hK_tR (S : Hp) (a j : Nat) (v : Option Nat) : hK (tR S a j v) = hK S := rfl
theorem hI_tR (S : Hp) (a j : Nat) (v : Option Nat) : hI (tR S a j v) = hI S := rfl
theorem hJ_tR (S : Hp) (a j : Nat) (v : Option Nat) : hJ (tR S a j v) = hJ S := rfl
theorem hR_tR (S : Hp) (a j : Nat) (v : Option Nat) : hR (tR S a j v) = hR S := rfl
theorem hN_tR (S : Hp) (a j : Nat) (v : Option Nat) : hN (tR S a j v) = hN S := rfl
theorem aI_tR (S : Hp) (a j : Nat) (v : Option Nat) : aI (tR S a j v) = aI S := rfl
theorem aJ_tR (S : Hp) (a j : Nat) (v : Option Nat) : aJ (tR S a j v) = aJ S := rfl
theorem hL_rI (S : Hp) (a : Nat) (f : Nat → Int32) : hL (rI S a f) = hL S := rfl
theorem hK_rI (S : Hp) (a : Nat) (f : Nat → Int32) : hK (rI S a f) = hK S := rfl
theorem hI_rI (S : Hp) (a : Nat) (f : Nat → Int32) : hI (rI S a f) = hI S := rfl
theorem hJ_rI (S : Hp) (a : Nat) (f : Nat → Int32) : hJ (rI S a f) = hJ S := rfl
theorem hR_rI (S : Hp) (a : Nat) (f : Nat → Int32) : hR (rI S a f) = hR S := rfl
theorem hN_rI (S : Hp) (a : Nat) (f : Nat → Int32) : hN (rI S a f) = hN S := rfl
theorem aJ_rI (S : Hp) (a : Nat) (f : Nat → Int32) : aJ (rI S a f) = aJ S := rfl
theorem aR_rI (S : Hp) (a : Nat) (f : Nat → Int32) : aR (rI S a f) = aR S := rfl
theorem hN_nO (S : Hp) (a k : Nat) : hN (nO S a k) = hN S := rfl
theorem aI_nO (S : Hp) (a k : Nat) : aI (nO S a k) = aI S := rfl
theorem aJ_nO (S : Hp) (a k : Nat) : aJ (nO S a k) = aJ S := rfl
theorem aR_nO (S : Hp) (a k : Nat) : aR (nO S a k) = aR S := rfl
theorem hI_nA (S : Hp) (a k n : Nat) : hI (nA S a k n) = hI S := rfl
theorem hJ_nA (S : Hp) (a k n : Nat) : hJ (nA S a k n) = hJ S := rfl
theorem hR_nA (S : Hp) (a k n : Nat) : hR (nA S a k n) = hR S := rfl
theorem hI_sI (S : Hp) (g a : Nat) (v : Int32) (x b : Nat) : hI (sI S g a v) x b = if x = g ∧ b = a then v else hI S x b := rfl
theorem hJ_sJ (S : Hp) (g a : Nat) (v : Int64) (x b : Nat) : hJ (sJ S g a v) x b = if x = g ∧ b = a then v else hJ S x b := rfl
theorem hR_sR (S : Hp) (g a : Nat) (v : Option Nat) (x b : Nat) : hR (sR S g a v) x b = if x = g ∧ b = a then v else hR S x b := rfl
theorem aI_tI (S : Hp) (a j : Nat) (v : Int32) (x b : Nat) : aI (tI S a j v) x b = if x = a ∧ b = j then v else aI S x b := rfl
theorem aJ_tJ (S : Hp) (a j : Nat) (v : Int64) (x b : Nat) : aJ (tJ S a j v) x b = if x = a ∧ b = j then v else aJ S x b := rfl
theorem aR_tR (S : Hp) (a j : Nat) (v : Option Nat) (x b : Nat) : aR (tR S a j v) x b = if x = a ∧ b = j then v else aR S x b := rfl
theorem aI_rI (S : Hp) (a : Nat) (f : Nat → Int32) (x b : Nat) : aI (rI S a f) x b = if x = a then f b else aI S x b := by show va_up (aI S) a f x b = _; unfold va_up; split <;> rfl
theorem hL_nO (S : Hp) (a k : Nat) : hL (nO S a k) = hL S ++ [a] := rfl
theorem hL_nA (S : Hp) (a k n : Nat) : hL (nA S a k n) = hL S ++ [a] := rfl
theorem hK_nO (S : Hp) (a k b : Nat) : hK (nO S a k) b = if b = a then k else hK S b := rfl
theorem hK_nA (S : Hp) (a k n b : Nat) : hK (nA S a k n) b = if b = a then k else hK S b := rfl
theorem hI_nO (S : Hp) (a k x b : Nat) : hI (nO S a k) x b = if b = a then 0 else hI S x b := rfl
theorem hJ_nO (S : Hp) (a k x b : Nat) : hJ (nO S a k) x b = if b = a then 0 else hJ S x b := rfl
theorem hR_nO (S : Hp) (a k x b : Nat) : hR (nO S a k) x b = if b = a then none else hR S x b := rfl
theorem hN_nA (S : Hp) (a k n b : Nat) : hN (nA S a k n) b = if b = a then n else hN S b := rfl
theorem aI_nA (S : Hp) (a k n x b : Nat) : aI (nA S a k n) x b = if x = a then 0 else aI S x b := by show va_up (aI S) a (fun _ => 0) x b = _; unfold va_up; split <;> rfl
theorem aJ_nA (S : Hp) (a k n x b : Nat) : aJ (nA S a k n) x b = if x = a then 0 else aJ S x b := by show va_up (aJ S) a (fun _ => 0) x b = _; unfold va_up; split <;> rfl
theorem aR_nA (S : Hp) (a k n x b : Nat) : aR (nA S a k n) x b = if x = a then none else aR S x b := by show va_up (aR S) a (fun _ => none) x b = _; unfold va_up; split <;> rfl
/-- the sorts of the fields, class by class: 0 whole numbers, 1 longs, 2 references, 3 booleans -/
def ftb : List (List Nat) := [[2, 2, 0, 0, 0, 3, 0, 0, 0, 0, 2, 0, 0, 0, 0], [2, 2, 2, 2, 2, 3, 0, 3, 0, 3, 3, 3, 0, 0, 0, 0, 0, 0, 0, 0, 0], [2, 2, 2, 2, 2, 2, 0, 2, 0, 3], [2, 2, 0, 0, 0, 0, 3, 2, 0, 1, 1, 1, 1, 1, 1, 1, 1, 2, 0, 0, 2], [0, 0, 0, 0, 3, 0, 0, 2], [2, 0, 0, 0, 0, 0, 3, 3, 3, 0, 0, 0, 0], [2, 0, 0, 3, 2, 2, 2, 0, 0, 0], [0, 0, 0, 0, 0, 0, 0, 0, 0, 0, 0, 0, 2], [2], [2, 2, 2, 2, 2, 2, 2, 2, 2, 2, 2, 2, 2, 2, 0, 3, 0, 2, 3], [0, 0, 3, 2], [2, 0, 2, 2, 2, 0, 2, 2, 2, 0, 0, 0], [2, 2, 2, 2, 2, 2, 2, 2, 2, 0, 2, 2, 2, 2, 2, 2, 2, 2, 2, 2, 2, 2, 0, 2, 0, 2, 2, 0, 0, 0, 3, 3, 0, 3, 2, 0, 0, 2, 2, 2, 0, 2, 0, 0, 0, 0, 2, 3, 2, 1, 2, 0, 3, 1, 3, 0, 2, 2, 2, 2, 0, 0, 3, 0, 0, 0, 0, 0, 0, 3, 2, 0, 2, 2, 2, 2, 0, 1, 1, 3]]
def fc (ci k : Nat) : Nat := ((ftb[ci]?).getD []).getD k 9
def fn (ci : Nat) : Nat := ((ftb[ci]?).getD []).length
def fv (S : Hp) (a ci k : Nat) : Value := if fc ci k = 1 then .long (hJ S (100 * ci + k) a) else if fc ci k = 2 then va_rf (hR S (100 * ci + k) a) else .int (hI S (100 * ci + k) a)
def fvl (S : Hp) (a ci : Nat) : List Value := (List.range (fn ci)).map (fv S a ci)
theorem fvl_len (S : Hp) (a ci : Nat) : (fvl S a ci).length = fn ci := by simp [fvl]
theorem fvl_get (S : Hp) (a ci : Nat) {k : Nat} (h : k < fn ci) : (fvl S a ci)[k]? = some (fv S a ci k) := by simp [fvl, h]
def pf (cy : Nat → ClassId) (S : Hp) : Nat → va_E := fun a => if hK S a < 13 then .inr (hK S a, fvl S a (hK S a)) else if hK S a = 15 then .inl (cy 15, hN S a, .inr (.inl (aJ S a))) else if hK S a < 18 then .inl (cy (hK S a), hN S a, .inl (aI S a)) else .inl (cy (hK S a), hN S a, .inr (.inr (.inr (.inr (aR S a)))))
theorem pf_obj {cy : Nat → ClassId} {S : Hp} {a ci : Nat} (h : hK S a = ci) (hc : ci < 13) : pf cy S a = .inr (ci, fvl S a ci) := by simp [pf, h, hc]
theorem pf_J {cy : Nat → ClassId} {S : Hp} {a : Nat} (h : hK S a = 15) : pf cy S a = .inl (cy 15, hN S a, .inr (.inl (aJ S a))) := by simp [pf, h]
theorem pf_I {cy : Nat → ClassId} {S : Hp} {a k : Nat} (h : hK S a = k) (h1 : ¬ k < 13) (h2 : ¬ k = 15) (h3 : k < 18) : pf cy S a = .inl (cy k, hN S a, .inl (aI S a)) := by simp [pf, h, h1, h2, h3]
theorem pf_R {cy : Nat → ClassId} {S : Hp} {a k : Nat} (h : hK S a = k) (h3 : ¬ k < 18) : pf cy S a = .inl (cy k, hN S a, .inr (.inr (.inr (.inr (aR S a))))) := by
  have h1 : ¬ k < 13 := by omega
  have h2 : ¬ k = 15 := by omega
  simp [pf, h, h1, h2, h3]
abbrev pl (cy : Nat → ClassId) (S : Hp) : va_W := va_pl (hL S) (pf cy S)
theorem pl_get {cy : Nat → ClassId} {S : Hp} {a : Nat} (h : a ∈ hL S) : ∃ k : Nat, (pl cy S)[k]? = some (a, pf cy S a) := va_pl_get (X := []) h
theorem list_upd {α : Type} (n k : Nat) (f g : Nat → α) (v : α) (hk : k < n) (h1 : g k = v) (h2 : ∀ j, j < n → j ≠ k → g j = f j) : ((List.range n).map f).set k v = (List.range n).map g := by
  refine List.ext_getElem? fun j => ?_
  rw [List.getElem?_set]
  by_cases e : k = j
  · subst e
    simp [hk, h1]
  · rw [if_neg e]
    by_cases hj : j < n
    · simp [hj, h2 j hj (fun q => e q.symm)]
    · simp [hj]
/-- what is told of an address is all that its row says -/
theorem pf_off {cy : Nat → ClassId} {S S' : Hp} {b : Nat} (h1 : hK S' b = hK S b) (h2 : hN S' b = hN S b) (h3 : ∀ f, hI S' f b = hI S f b) (h4 : ∀ f, hJ S' f b = hJ S f b) (h5 : ∀ f, hR S' f b = hR S f b) (h6 : aI S' b = aI S b) (h7 : aJ S' b = aJ S b) (h8 : aR S' b = aR S b) : pf cy S b = pf cy S' b := by
  have hf : ∀ ci k, fv S' b ci k = fv S b ci k := fun ci k => by simp only [fv, h3, h4, h5]
  have hl : ∀ ci, fvl S' b ci = fvl S b ci := fun ci => List.map_congr_left fun k _ => hf ci k
  simp only [pf, h1, h2, h6, h7, h8, hl]
theorem pf_setI {cy : Nat → ClassId} {S : Hp} {a ci k : Nat} (h : hK S a = ci) (hc : ci < 13) (hk : k < fn ci) (ht1 : fc ci k ≠ 1) (ht2 : fc ci k ≠ 2) (v : Int32) (b : Nat) : va_up (pf cy S) a (.inr (ci, (fvl S a ci).set k (.int v))) b = pf cy (sI S (100 * ci + k) a v) b := by
  by_cases e : b = a
  · subst e
    rw [va_up_self, pf_obj (by exact h) hc]
    refine congrArg (fun l => (Sum.inr (ci, l) : va_E)) (list_upd _ _ _ _ _ hk ?_ fun j _ hj => ?_)
    · simp [fv, ht1, ht2, hI_sI]
    · have : ¬ (100 * ci + j = 100 * ci + k) := by omega
      simp [fv, hI_sI, hJ_sI, hR_sI, this, hj]
  · rw [va_up_ne _ _ e]
    exact pf_off rfl rfl (fun f => by simp [hI_sI, e]) (fun f => rfl) (fun f => rfl) rfl rfl rfl
theorem pf_setJ {cy : Nat → ClassId} {S : Hp} {a ci k : Nat} (h : hK S a = ci) (hc : ci < 13) (hk : k < fn ci) (ht1 : fc ci k = 1) (v : Int64) (b : Nat) : va_up (pf cy S) a (.inr (ci, (fvl S a ci).set k (.long v))) b = pf cy (sJ S (100 * ci + k) a v) b := by
  by_cases e : b = a
  · subst e
    rw [va_up_self, pf_obj (by exact h) hc]
    refine congrArg (fun l => (Sum.inr (ci, l) : va_E)) (list_upd _ _ _ _ _ hk ?_ fun j _ hj => ?_)
    · simp [fv, ht1, hJ_sJ]
    · have : ¬ (100 * ci + j = 100 * ci + k) := by omega
      simp [fv, hI_sJ, hJ_sJ, hR_sJ, this, hj]
  · rw [va_up_ne _ _ e]
    exact pf_off rfl rfl (fun f => rfl) (fun f => by simp [hJ_sJ, e]) (fun f => rfl) rfl rfl rfl
theorem pf_setR {cy : Nat → ClassId} {S : Hp} {a ci k : Nat} (h : hK S a = ci) (hc : ci < 13) (hk : k < fn ci) (ht1 : fc ci k = 2) (v : Option Nat) (b : Nat) : va_up (pf cy S) a (.inr (ci, (fvl S a ci).set k (va_rf v))) b = pf cy (sR S (100 * ci + k) a v) b := by
  by_cases e : b = a
  · subst e
    rw [va_up_self, pf_obj (by exact h) hc]
    refine congrArg (fun l => (Sum.inr (ci, l) : va_E)) (list_upd _ _ _ _ _ hk ?_ fun j _ hj => ?_)
    · simp [fv, ht1, hR_sR]
    · have : ¬ (100 * ci + j = 100 * ci + k) := by omega
      simp [fv, hI_sR, hJ_sR, hR_sR, this, hj]
  · rw [va_up_ne _ _ e]
    exact pf_off rfl rfl (fun f => rfl) (fun f => rfl) (fun f => by simp [hR_sR, e]) rfl rfl rfl
theorem pf_tI {cy : Nat → ClassId} {S : Hp} {a k : Nat} (h : hK S a = k) (h1 : ¬ k < 13) (h2 : ¬ k = 15) (h3 : k < 18) (j : Nat) (v : Int32) (b : Nat) : va_up (pf cy S) a (.inl (cy k, hN S a, .inl (upd (aI S a) j v))) b = pf cy (tI S a j v) b := by
  by_cases e : b = a
  · subst e
    rw [va_up_self, pf_I (by exact h) h1 h2 h3]
    refine congrArg (fun f => (Sum.inl (cy k, hN S b, Sum.inl f) : va_E)) (funext fun i => ?_)
    simp [aI_tI, upd]
  · rw [va_up_ne _ _ e]
    have : aI (tI S a j v) b = aI S b := funext fun i => by simp [aI_tI, e]
    exact pf_off rfl rfl (fun _ => rfl) (fun _ => rfl) (fun _ => rfl) this rfl rfl
theorem pf_rI {cy : Nat → ClassId} {S : Hp} {a k : Nat} (h : hK S a = k) (h1 : ¬ k < 13) (h2 : ¬ k = 15) (h3 : k < 18) (f : Nat → Int32) (b : Nat) : va_up (pf cy S) a (.inl (cy k, hN S a, .inl f)) b = pf cy (rI S a f) b := by
  by_cases e : b = a
  · subst e
    rw [va_up_self, pf_I (by exact h) h1 h2 h3]
    refine congrArg (fun f => (Sum.inl (cy k, hN S b, Sum.inl f) : va_E)) (funext fun i => ?_)
    simp [aI_rI]
  · rw [va_up_ne _ _ e]
    have : aI (rI S a f) b = aI S b := funext fun i => by simp [aI_rI, e]
    exact pf_off rfl rfl (fun _ => rfl) (fun _ => rfl) (fun _ => rfl) this rfl rfl
theorem pf_tJ {cy : Nat → ClassId} {S : Hp} {a : Nat} (h : hK S a = 15) (j : Nat) (v : Int64) (b : Nat) : va_up (pf cy S) a (.inl (cy 15, hN S a, .inr (.inl (vp_updL (aJ S a) j v)))) b = pf cy (tJ S a j v) b := by
  by_cases e : b = a
  · subst e
    rw [va_up_self, pf_J (by exact h)]
    refine congrArg (fun f => (Sum.inl (cy 15, hN S b, Sum.inr (Sum.inl f)) : va_E)) (funext fun i => ?_)
    simp [aJ_tJ, vp_updL]
  · rw [va_up_ne _ _ e]
    have : aJ (tJ S a j v) b = aJ S b := funext fun i => by simp [aJ_tJ, e]
    exact pf_off rfl rfl (fun _ => rfl) (fun _ => rfl) (fun _ => rfl) rfl this rfl
theorem pf_tR {cy : Nat → ClassId} {S : Hp} {a k : Nat} (h : hK S a = k) (h3 : ¬ k < 18) (j : Nat) (v : Option Nat) (b : Nat) : va_up (pf cy S) a (.inl (cy k, hN S a, .inr (.inr (.inr (.inr (va_up (aR S a) j v)))))) b = pf cy (tR S a j v) b := by
  by_cases e : b = a
  · subst e
    rw [va_up_self, pf_R (by exact h) h3]
    refine congrArg (fun f => (Sum.inl (cy k, hN S b, Sum.inr (Sum.inr (Sum.inr (Sum.inr f)))) : va_E)) (funext fun i => ?_)
    simp [aR_tR, va_up]
  · rw [va_up_ne _ _ e]
    have : aR (tR S a j v) b = aR S b := funext fun i => by simp [aR_tR, e]
    exact pf_off rfl rfl (fun _ => rfl) (fun _ => rfl) (fun _ => rfl) rfl rfl this
def dv (ci : Nat) : List Value := (List.range (fn ci)).map fun k => if fc ci k = 1 then .long 0 else if fc ci k = 2 then .null else .int 0
theorem pf_nO {cy : Nat → ClassId} {S : Hp} {a ci : Nat} (hc : ci < 13) (b : Nat) : va_up (pf cy S) a (.inr (ci, dv ci)) b = pf cy (nO S a ci) b := by
  by_cases e : b = a
  · subst e
    rw [va_up_self, pf_obj (ci := ci) (by simp [hK_nO]) hc]
    refine congrArg (fun l => (Sum.inr (ci, l) : va_E)) (List.map_congr_left fun k _ => ?_)
    simp only [fv, hI_nO, hJ_nO, hR_nO, if_true]
    by_cases q1 : fc ci k = 1 <;> by_cases q2 : fc ci k = 2 <;> simp [q1, q2, va_rf]
  · rw [va_up_ne _ _ e]
    exact pf_off (by simp [hK_nO, e]) rfl (fun f => by simp [hI_nO, e]) (fun f => by simp [hJ_nO, e]) (fun f => by simp [hR_nO, e]) rfl rfl rfl
theorem pf_nA_off {cy : Nat → ClassId} {S : Hp} {a k n b : Nat} (e : b ≠ a) : pf cy S b = pf cy (nA S a k n) b := by
  have h1 : aI (nA S a k n) b = aI S b := funext fun i => by simp [aI_nA, e]
  have h2 : aJ (nA S a k n) b = aJ S b := funext fun i => by simp [aJ_nA, e]
  have h3 : aR (nA S a k n) b = aR S b := funext fun i => by simp [aR_nA, e]
  exact pf_off (by simp [hK_nA, e]) (by simp [hN_nA, e]) (fun _ => rfl) (fun _ => rfl) (fun _ => rfl) h1 h2 h3
theorem pf_nAI {cy : Nat → ClassId} {S : Hp} {a k n : Nat} (h1 : ¬ k < 13) (h2 : ¬ k = 15) (h3 : k < 18) (b : Nat) : va_up (pf cy S) a (.inl (cy k, n, .inl (fun _ => 0))) b = pf cy (nA S a k n) b := by
  by_cases e : b = a
  · subst e
    rw [va_up_self, pf_I (k := k) (by simp [hK_nA]) h1 h2 h3]
    have : aI (nA S b k n) b = fun _ => 0 := funext fun i => by simp [aI_nA]
    simp [hN_nA, this]
  · rw [va_up_ne _ _ e, pf_nA_off e]
theorem pf_nAJ {cy : Nat → ClassId} {S : Hp} {a n : Nat} (b : Nat) : va_up (pf cy S) a (.inl (cy 15, n, .inr (.inl (fun _ => 0)))) b = pf cy (nA S a 15 n) b := by
  by_cases e : b = a
  · subst e
    rw [va_up_self, pf_J (by simp [hK_nA])]
    have : aJ (nA S b 15 n) b = fun _ => 0 := funext fun i => by simp [aJ_nA]
    simp [hN_nA, this]
  · rw [va_up_ne _ _ e, pf_nA_off e]
theorem pf_nAR {cy : Nat → ClassId} {S : Hp} {a k n : Nat} (h3 : ¬ k < 18) (b : Nat) : va_up (pf cy S) a (.inl (cy k, n, .inr (.inr (.inr (.inr (fun _ => none)))))) b = pf cy (nA S a k n) b := by
  by_cases e : b = a
  · subst e
    rw [va_up_self, pf_R (k := k) (by simp [hK_nA]) h3]
    have : aR (nA S b k n) b = fun _ => none := funext fun i => by simp [aR_nA]
    simp [hN_nA, this]
  · rw [va_up_ne _ _ e, pf_nA_off e]
/-- a cell of the pool is written -/
theorem pl_set {cy : Nat → ClassId} {S S' : Hp} {A : Nat → Prop} {a k : Nat} {e : va_E} (hD : va_D A (pl cy S)) (h : a ∈ hL S) (hk : (pl cy S)[k]? = some (a, pf cy S a)) (hL : hL S' = hL S) (hf : ∀ b, va_up (pf cy S) a e b = pf cy S' b) : (pl cy S).set k (a, e) = pl cy S' := by
  have h1 := va_pl_set (X := []) (e := e) hD h hk
  simp only [List.nil_append] at h1
  rw [h1, pl, hL]
  exact va_pl_congr hf
/-- a cell comes to the pool -/
theorem pl_push {cy : Nat → ClassId} {S S' : Hp} {a : Nat} {e : va_E} (h : a ∉ hL S) (hL : hL S' = hL S ++ [a]) (hf : ∀ b, va_up (pf cy S) a e b = pf cy S' b) : pl cy S ++ [(a, e)] = pl cy S' := by
  rw [pl, va_pl_push h, pl, hL]
  exact va_pl_congr hf
end
section
/-! The table's words by name: fields' links, methods' links, constants; static arrays and texts. -/
def isNest : Cond → Bool
  | .fieldLinkNest .. => true
  | .methodLinkNest .. => true
  | _ => false
/-- the words that any method may use: one table for all -/
def TBL : List Cond := lw_tbl.filter goodWord
def NST : List Cond := lw_tbl.filter isNest
theorem inT {w : Cond} {l : List Cond} (hl : ∀ w ∈ l, w ∈ lw_tbl) (i : Nat) (h : l[i]? = some w) (g : goodWord w = true) : w ∈ TBL := List.mem_filter.mpr ⟨hl _ (List.mem_of_getElem? h), g⟩
theorem inN {w : Cond} {l : List Cond} (hl : ∀ w ∈ l, w ∈ lw_tbl) (i : Nat) (h : l[i]? = some w) (g : isNest w = true) : w ∈ NST := List.mem_filter.mpr ⟨hl _ (List.mem_of_getElem? h), g⟩
theorem goodT {y : MethodName} {cc : ByteArray} {maxL : Nat} {ret : Option FieldType} (h : Cond.code y cc maxL ret ∈ TBL) : GoodIn TBL (Cond.code y cc maxL ret :: TBL) := fun w hw => by
  have h1 : w ∈ TBL := (List.mem_cons.mp hw).elim (fun e => e ▸ h) id
  exact ⟨h1, good_of_word (List.mem_filter.mp h1).2⟩
theorem inT_list {ws : List Cond} (ps : List Nat) (hp : ws = ps.filterMap (fun i => lw_tbl[i]?)) (h : ws.all goodWord = true) : ∀ w ∈ ws, w ∈ TBL := fun w hw => by
  have h1 := List.all_eq_true.mp h w hw
  rw [hp] at hw
  obtain ⟨i, -, hi⟩ := List.mem_filterMap.mp hw
  exact inT (fun w h => h) i hi h1
theorem mt_0 : ∀ w ∈ k2_sels lw_privs, w ∈ lw_tbl := fun w h => List.mem_append_left _ h
theorem mt_1 : ∀ w ∈ tables_1_1, w ∈ lw_tbl := fun w h => List.mem_append_right _ (List.mem_append_left _ h)
theorem mt_2 : ∀ w ∈ tables_1_2, w ∈ lw_tbl := fun w h => List.mem_append_right _ (List.mem_append_right _ (List.mem_append_left _ h))
theorem mt_3 : ∀ w ∈ tables_1_3, w ∈ lw_tbl := fun w h => List.mem_append_right _ (List.mem_append_right _ (List.mem_append_right _ (List.mem_append_left _ h)))
theorem mt_4 : ∀ w ∈ tables_1_4, w ∈ lw_tbl := fun w h => List.mem_append_right _ (List.mem_append_right _ (List.mem_append_right _ (List.mem_append_right _ (List.mem_append_left _ h))))
theorem mt_5 : ∀ w ∈ tables_1_5, w ∈ lw_tbl := fun w h => List.mem_append_right _ (List.mem_append_right _ (List.mem_append_right _ (List.mem_append_right _ (List.mem_append_right _ (List.mem_append_left _ h)))))
theorem mt_6 : ∀ w ∈ tables_1_6, w ∈ lw_tbl := fun w h => List.mem_append_right _ (List.mem_append_right _ (List.mem_append_right _ (List.mem_append_right _ (List.mem_append_right _ (List.mem_append_right _ (List.mem_append_left _ h))))))
theorem mt_7 : ∀ w ∈ tables_1_7, w ∈ lw_tbl := fun w h => List.mem_append_right _ (List.mem_append_right _ (List.mem_append_right _ (List.mem_append_right _ (List.mem_append_right _ (List.mem_append_right _ (List.mem_append_right _ (List.mem_append_left _ h)))))))
theorem mt_8 : ∀ w ∈ tables_1_8, w ∈ lw_tbl := fun w h => List.mem_append_right _ (List.mem_append_right _ (List.mem_append_right _ (List.mem_append_right _ (List.mem_append_right _ (List.mem_append_right _ (List.mem_append_right _ (List.mem_append_right _ (List.mem_append_left _ h))))))))
theorem mt_9 : ∀ w ∈ tables_1_9, w ∈ lw_tbl := fun w h => List.mem_append_right _ (List.mem_append_right _ (List.mem_append_right _ (List.mem_append_right _ (List.mem_append_right _ (List.mem_append_right _ (List.mem_append_right _ (List.mem_append_right _ (List.mem_append_right _ (List.mem_append_left _ h)))))))))
theorem mt_10 : ∀ w ∈ tables_1_10, w ∈ lw_tbl := fun w h => List.mem_append_right _ (List.mem_append_right _ (List.mem_append_right _ (List.mem_append_right _ (List.mem_append_right _ (List.mem_append_right _ (List.mem_append_right _ (List.mem_append_right _ (List.mem_append_right _ (List.mem_append_right _ (List.mem_append_left _ h))))))))))
theorem mt_11 : ∀ w ∈ tables_1_11, w ∈ lw_tbl := fun w h => List.mem_append_right _ (List.mem_append_right _ (List.mem_append_right _ (List.mem_append_right _ (List.mem_append_right _ (List.mem_append_right _ (List.mem_append_right _ (List.mem_append_right _ (List.mem_append_right _ (List.mem_append_right _ (List.mem_append_right _ (h)))))))))))
set_option maxRecDepth 100000 in
theorem nst_tab : NST.all (fun w => w.onTables) = true := by decide +kernel
/-- a field's type, by class and slot -/
def fty (ci s : Nat) : FieldType := match ci with
  | 0 => tyX0 s
  | 1 => tyX1 s
  | 2 => tyX2 s
  | 3 => tyX3 s
  | 4 => tyX4 s
  | 5 => tyX5 s
  | 6 => tyX6 s
  | 7 => tyX7 s
  | 8 => tyX8 s
  | 9 => tyX9 s
  | 10 => tyX10 s
  | 11 => tyX11 s
  | 12 => tyX12 s
  | _ => .int
def clOk (ci : Nat) (r : vw_C) : Prop := r.2.2 = fn ci ∧ (∀ w ∈ u_ws r.1 r.2.1 r.2.2, w ∈ TBL) ∧ (∀ a, a < r.2.2 → ∀ b, b < r.2.2 → a ≠ b → (r.2.1 a).2.1 ≠ (r.2.1 b).2.1) ∧ ∀ s, s < r.2.2 → (r.2.1 s).1 = r.1 ∧ parseFieldDescriptor (r.2.1 s).2.2.1 = some (fty ci s)
set_option maxRecDepth 100000 in
theorem cl_0 : clOk 0 (RX0, TX0, 15) := ⟨by decide, inT_list [327, 329, 331, 333, 335, 337, 339, 341, 343, 345, 347, 349, 351, 353, 355] (by decide +kernel) (by decide +kernel), nmX0, fun s hs => ⟨(show ∀ s, s < 15 → (TX0 s).1 = RX0 by decide +kernel) s hs, tyX0_ok s hs⟩⟩
set_option maxRecDepth 100000 in
theorem cl_1 : clOk 1 (RX1, TX1, 21) := ⟨by decide, inT_list [580, 582, 584, 586, 588, 590, 592, 594, 596, 598, 600, 602, 604, 606, 608, 610, 612, 614, 616, 618, 620] (by decide +kernel) (by decide +kernel), nmX1, fun s hs => ⟨(show ∀ s, s < 21 → (TX1 s).1 = RX1 by decide +kernel) s hs, tyX1_ok s hs⟩⟩
set_option maxRecDepth 100000 in
theorem cl_2 : clOk 2 (RX2, TX2, 10) := ⟨by decide, inT_list [399, 401, 403, 405, 407, 409, 411, 413, 415, 417] (by decide +kernel) (by decide +kernel), nmX2, fun s hs => ⟨(show ∀ s, s < 10 → (TX2 s).1 = RX2 by decide +kernel) s hs, tyX2_ok s hs⟩⟩
set_option maxRecDepth 100000 in
theorem cl_3 : clOk 3 (RX3, TX3, 21) := ⟨by decide, inT_list [771, 773, 775, 777, 779, 781, 783, 785, 787, 789, 791, 793, 795, 797, 799, 801, 803, 805, 807, 809, 811] (by decide +kernel) (by decide +kernel), nmX3, fun s hs => ⟨(show ∀ s, s < 21 → (TX3 s).1 = RX3 by decide +kernel) s hs, tyX3_ok s hs⟩⟩
set_option maxRecDepth 100000 in
theorem cl_4 : clOk 4 (RX4, TX4, 8) := ⟨by decide, inT_list [515, 517, 519, 521, 523, 525, 527, 529] (by decide +kernel) (by decide +kernel), nmX4, fun s hs => ⟨(show ∀ s, s < 8 → (TX4 s).1 = RX4 by decide +kernel) s hs, tyX4_ok s hs⟩⟩
set_option maxRecDepth 100000 in
theorem cl_5 : clOk 5 (RX5, TX5, 13) := ⟨by decide, inT_list [653, 655, 657, 659, 661, 663, 665, 667, 669, 671, 673, 675, 677] (by decide +kernel) (by decide +kernel), nmX5, fun s hs => ⟨(show ∀ s, s < 13 → (TX5 s).1 = RX5 by decide +kernel) s hs, tyX5_ok s hs⟩⟩
set_option maxRecDepth 100000 in
theorem cl_6 : clOk 6 (RX6, TX6, 10) := ⟨by decide, inT_list [251, 253, 255, 257, 259, 261, 263, 265, 267, 269] (by decide +kernel) (by decide +kernel), nmX6, fun s hs => ⟨(show ∀ s, s < 10 → (TX6 s).1 = RX6 by decide +kernel) s hs, tyX6_ok s hs⟩⟩
set_option maxRecDepth 100000 in
theorem cl_7 : clOk 7 (RX7, TX7, 13) := ⟨by decide, inT_list [464, 466, 468, 470, 472, 474, 476, 478, 480, 482, 484, 486, 488] (by decide +kernel) (by decide +kernel), nmX7, fun s hs => ⟨(show ∀ s, s < 13 → (TX7 s).1 = RX7 by decide +kernel) s hs, tyX7_ok s hs⟩⟩
set_option maxRecDepth 100000 in
theorem cl_8 : clOk 8 (RX8, TX8, 1) := ⟨by decide, inT_list [371] (by decide +kernel) (by decide +kernel), nmX8, fun s hs => ⟨(show ∀ s, s < 1 → (TX8 s).1 = RX8 by decide +kernel) s hs, tyX8_ok s hs⟩⟩
set_option maxRecDepth 100000 in
theorem cl_9 : clOk 9 (RX9, TX9, 19) := ⟨by decide, inT_list [699, 701, 703, 705, 707, 709, 711, 713, 715, 717, 719, 721, 723, 725, 727, 729, 731, 733, 735] (by decide +kernel) (by decide +kernel), nmX9, fun s hs => ⟨(show ∀ s, s < 19 → (TX9 s).1 = RX9 by decide +kernel) s hs, tyX9_ok s hs⟩⟩
set_option maxRecDepth 100000 in
theorem cl_10 : clOk 10 (RX10, TX10, 4) := ⟨by decide, inT_list [297, 299, 301, 303] (by decide +kernel) (by decide +kernel), nmX10, fun s hs => ⟨(show ∀ s, s < 4 → (TX10 s).1 = RX10 by decide +kernel) s hs, tyX10_ok s hs⟩⟩
set_option maxRecDepth 100000 in
theorem cl_11 : clOk 11 (RX11, TX11, 12) := ⟨by decide, inT_list [827, 829, 831, 833, 835, 837, 839, 841, 843, 845, 847, 849] (by decide +kernel) (by decide +kernel), nmX11, fun s hs => ⟨(show ∀ s, s < 12 → (TX11 s).1 = RX11 by decide +kernel) s hs, tyX11_ok s hs⟩⟩
set_option maxRecDepth 100000 in
theorem cl_12 : clOk 12 (RX12, TX12, 80) := ⟨by decide, inT_list [1991, 1993, 1995, 1997, 1999, 2001, 2003, 2005, 2007, 2009, 2011, 2013, 2015, 2017, 2019, 2021, 2023, 2025, 2027, 2029, 2031, 2033, 2035, 2037, 2039, 2041, 2043, 2045, 2047, 2049, 2051, 2053, 2055, 2057, 2059, 2061, 2063, 2065, 2067, 2069, 2071, 2073, 2075, 2077, 2079, 2081, 2083, 2085, 2087, 2089, 2091, 2093, 2095, 2097, 2099, 2101, 2103, 2105, 2107, 2109, 2111, 2113, 2115, 2117, 2119, 2121, 2123, 2125, 2127, 2129, 2131, 2133, 2135, 2137, 2139, 2141, 2143, 2145, 2147, 2149] (by decide +kernel) (by decide +kernel), nmX12, fun s hs => ⟨(show ∀ s, s < 80 → (TX12 s).1 = RX12 by decide +kernel) s hs, tyX12_ok s hs⟩⟩
theorem cl_ok (ci : Nat) (r : vw_C) (h : vwCl[ci]? = some r) : clOk ci r := by
  match ci, h with
  | 0, h => cases h; exact cl_0
  | 1, h => cases h; exact cl_1
  | 2, h => cases h; exact cl_2
  | 3, h => cases h; exact cl_3
  | 4, h => cases h; exact cl_4
  | 5, h => cases h; exact cl_5
  | 6, h => cases h; exact cl_6
  | 7, h => cases h; exact cl_7
  | 8, h => cases h; exact cl_8
  | 9, h => cases h; exact cl_9
  | 10, h => cases h; exact cl_10
  | 11, h => cases h; exact cl_11
  | 12, h => cases h; exact cl_12
  | k + 13, h => simp [vwCl] at h
/-- a field's link: its class and slot, the word (or the nest mates' word) of the constant pool -/
def FL (own : String) (idx ci s : Nat) : Prop := ∃ r : vw_C, vwCl[ci]? = some r ∧ s < r.2.2 ∧ (Cond.fieldLink own idx r.1 (r.2.1 s).2.1 (r.2.1 s).2.2.1 ∈ TBL ∨ ∃ host, Cond.fieldLinkNest own idx r.1 (r.2.1 s).2.1 (r.2.1 s).2.2.1 host ∈ NST)
/-- the same, its own class' field, to be written by its constructor -/
def FLo (own : String) (idx ci s : Nat) : Prop := ∃ r : vw_C, vwCl[ci]? = some r ∧ s < r.2.2 ∧ r.1 = own ∧ Cond.fieldLink own idx r.1 (r.2.1 s).2.1 (r.2.1 s).2.2.1 ∈ TBL
/-- a method's link, plain or of a nest mate -/
def ML (own : String) (idx : Nat) (y : MethodName) : Prop := Cond.methodLink own idx y ∈ TBL ∨ ∃ host, Cond.methodLinkNest own idx y host ∈ NST
/-- a method: initialised, its code, how many arguments -/
def MC (y : MethodName) (cc : ByteArray) (maxL : Nat) (ret : Option FieldType) (np : Nat) : Prop := Cond.initialized y.cls ∈ TBL ∧ Cond.code y cc maxL ret ∈ TBL ∧ (y.cls ≠ "java/lang/invoke/MethodHandle" ∧ y.cls ≠ "java/lang/invoke/VarHandle") ∧ (parseMethodDescriptor y.desc).map (fun d => d.parameters.length) = some np
def MCv (y : MethodName) (cc : ByteArray) (maxL : Nat) (ret : Option FieldType) (np : Nat) : Prop := MC y cc maxL ret np ∧ Cond.instanceMethod y ∈ TBL ∧ Cond.selects y.cls y y ∈ TBL
def MCi (y : MethodName) (cc : ByteArray) (maxL : Nat) (np : Nat) : Prop := MC y cc maxL none np ∧ Cond.instanceMethod y ∈ TBL ∧ y.name = "<init>"
def MCs (y : MethodName) (cc : ByteArray) (maxL : Nat) (ret : Option FieldType) (np : Nat) : Prop := MC y cc maxL ret np ∧ Cond.static y ∈ TBL
theorem kiL : Cond.initialized RL ∈ TBL := inT mt_1 0 (by decide +kernel) rfl
theorem kiX11 : Cond.initialized RX11 ∈ TBL := inT mt_1 1 (by decide +kernel) rfl
theorem kiX6 : Cond.initialized RX6 ∈ TBL := inT mt_1 2 (by decide +kernel) rfl
theorem kiX9 : Cond.initialized RX9 ∈ TBL := inT mt_1 3 (by decide +kernel) rfl
theorem kiX0 : Cond.initialized RX0 ∈ TBL := inT mt_1 4 (by decide +kernel) rfl
theorem kiX10 : Cond.initialized RX10 ∈ TBL := inT mt_1 5 (by decide +kernel) rfl
theorem kiX2 : Cond.initialized RX2 ∈ TBL := inT mt_1 6 (by decide +kernel) rfl
theorem kiX8 : Cond.initialized RX8 ∈ TBL := inT mt_1 7 (by decide +kernel) rfl
theorem kiJ7 : Cond.initialized RJ7 ∈ TBL := inT mt_1 8 (by decide +kernel) rfl
theorem kiJ10 : Cond.initialized RJ10 ∈ TBL := inT mt_1 9 (by decide +kernel) rfl
theorem kiX1 : Cond.initialized RX1 ∈ TBL := inT mt_1 10 (by decide +kernel) rfl
theorem kiX7 : Cond.initialized RX7 ∈ TBL := inT mt_1 11 (by decide +kernel) rfl
theorem kiX4 : Cond.initialized RX4 ∈ TBL := inT mt_1 12 (by decide +kernel) rfl
theorem kiX5 : Cond.initialized RX5 ∈ TBL := inT mt_1 13 (by decide +kernel) rfl
theorem kiX3 : Cond.initialized RX3 ∈ TBL := inT mt_1 14 (by decide +kernel) rfl
theorem kiX12 : Cond.initialized RX12 ∈ TBL := inT mt_1 15 (by decide +kernel) rfl
theorem kiJ0 : Cond.initialized RJ0 ∈ TBL := inT mt_1 16 (by decide +kernel) rfl
theorem kiJ1 : Cond.initialized RJ1 ∈ TBL := inT mt_1 17 (by decide +kernel) rfl
theorem kiJ3 : Cond.initialized RJ3 ∈ TBL := inT mt_1 18 (by decide +kernel) rfl
theorem kiJ2 : Cond.initialized RJ2 ∈ TBL := inT mt_1 19 (by decide +kernel) rfl
theorem kiJ9 : Cond.initialized RJ9 ∈ TBL := inT mt_1 20 (by decide +kernel) rfl
theorem kiJ6 : Cond.initialized RJ6 ∈ TBL := inT mt_1 21 (by decide +kernel) rfl
theorem klL_7 : Cond.classLink RL 7 RX11 ∈ TBL := inT mt_1 22 (by decide +kernel) rfl
theorem knX11 : Cond.instantiable RX11 12 ∈ TBL := inT mt_1 23 (by decide +kernel) rfl
theorem mlL_9 : ML RL 9 yX11_init := Or.inl (inT mt_1 24 (by decide +kernel) rfl)
set_option maxRecDepth 100000 in
theorem mcX11_init : MCi yX11_init cX11_init 1 0 := ⟨⟨inT mt_1 1 (by decide +kernel) rfl, inT mt_1 26 rfl rfl, ⟨by decide +kernel, by decide +kernel⟩, by decide +kernel⟩, inT mt_1 25 (by decide +kernel) rfl, rfl⟩
theorem mlX11_1 : ML RX11 1 objectInit := Or.inl (inT mt_1 27 (by decide +kernel) rfl)
theorem klX11_30 : Cond.classLink RX11 30 RX6 ∈ TBL := inT mt_1 30 (by decide +kernel) rfl
theorem knX6 : Cond.instantiable RX6 10 ∈ TBL := inT mt_1 31 (by decide +kernel) rfl
theorem mlX11_32 : ML RX11 32 yX6_init := Or.inr ⟨"PrinterHouse", inN mt_1 32 (by decide +kernel) rfl⟩
set_option maxRecDepth 100000 in
theorem mcX6_init : MCi yX6_init cX6_init 1 0 := ⟨⟨inT mt_1 2 (by decide +kernel) rfl, inT mt_1 34 rfl rfl, ⟨by decide +kernel, by decide +kernel⟩, by decide +kernel⟩, inT mt_1 33 (by decide +kernel) rfl, rfl⟩
theorem mlX6_3 : ML RX6 3 objectInit := Or.inl (inT mt_1 35 (by decide +kernel) rfl)
theorem kcX6_11 : Cond.constant RX6 11 (60000) ∈ TBL := inT mt_1 36 (by decide +kernel) rfl
theorem klX6_23 : Cond.classLink RX6 23 "[[I" ∈ TBL := inT mt_1 37 (by decide +kernel) rfl
theorem ko_int_at : lw_tbl[232]? = some (Cond.arrayOver (.array .int)) := by decide +kernel
theorem flX6_12 : FL RX6 12 6 0 := ⟨(RX6, TX6, 10), rfl, by decide, Or.inl (inT mt_1 39 (by decide +kernel) rfl)⟩
theorem flX6_12o : FLo RX6 12 6 0 := ⟨(RX6, TX6, 10), rfl, by decide, rfl, inT mt_1 39 (by decide +kernel) rfl⟩
theorem flX11_110 : FL RX11 110 6 0 := ⟨(RX6, TX6, 10), rfl, by decide, Or.inr ⟨"PrinterHouse", inN mt_1 40 (by decide +kernel) rfl⟩⟩
theorem flX6_28 : FL RX6 28 6 1 := ⟨(RX6, TX6, 10), rfl, by decide, Or.inl (inT mt_1 41 (by decide +kernel) rfl)⟩
theorem flX11_99 : FL RX11 99 6 1 := ⟨(RX6, TX6, 10), rfl, by decide, Or.inr ⟨"PrinterHouse", inN mt_1 42 (by decide +kernel) rfl⟩⟩
theorem flX6_32 : FL RX6 32 6 2 := ⟨(RX6, TX6, 10), rfl, by decide, Or.inl (inT mt_1 43 (by decide +kernel) rfl)⟩
theorem flX11_93 : FL RX11 93 6 2 := ⟨(RX6, TX6, 10), rfl, by decide, Or.inr ⟨"PrinterHouse", inN mt_1 44 (by decide +kernel) rfl⟩⟩
theorem flX6_35 : FL RX6 35 6 3 := ⟨(RX6, TX6, 10), rfl, by decide, Or.inl (inT mt_1 45 (by decide +kernel) rfl)⟩
theorem flX9_95 : FL RX9 95 6 3 := ⟨(RX6, TX6, 10), rfl, by decide, Or.inr ⟨"PrinterHouse", inN mt_1 46 (by decide +kernel) rfl⟩⟩
theorem flX3_118 : FL RX3 118 6 3 := ⟨(RX6, TX6, 10), rfl, by decide, Or.inr ⟨"PrinterHouse", inN mt_1 47 (by decide +kernel) rfl⟩⟩
theorem flX6_16 : FL RX6 16 6 4 := ⟨(RX6, TX6, 10), rfl, by decide, Or.inl (inT mt_1 48 (by decide +kernel) rfl)⟩
theorem flX6_16o : FLo RX6 16 6 4 := ⟨(RX6, TX6, 10), rfl, by decide, rfl, inT mt_1 48 (by decide +kernel) rfl⟩
theorem flX11_117 : FL RX11 117 6 4 := ⟨(RX6, TX6, 10), rfl, by decide, Or.inr ⟨"PrinterHouse", inN mt_1 49 (by decide +kernel) rfl⟩⟩
theorem flX6_20 : FL RX6 20 6 5 := ⟨(RX6, TX6, 10), rfl, by decide, Or.inl (inT mt_1 50 (by decide +kernel) rfl)⟩
theorem flX6_20o : FLo RX6 20 6 5 := ⟨(RX6, TX6, 10), rfl, by decide, rfl, inT mt_1 50 (by decide +kernel) rfl⟩
theorem flX11_120 : FL RX11 120 6 5 := ⟨(RX6, TX6, 10), rfl, by decide, Or.inr ⟨"PrinterHouse", inN mt_1 51 (by decide +kernel) rfl⟩⟩
theorem flX6_25 : FL RX6 25 6 6 := ⟨(RX6, TX6, 10), rfl, by decide, Or.inl (inT mt_1 52 (by decide +kernel) rfl)⟩
theorem flX6_25o : FLo RX6 25 6 6 := ⟨(RX6, TX6, 10), rfl, by decide, rfl, inT mt_1 52 (by decide +kernel) rfl⟩
theorem flX11_127 : FL RX11 127 6 6 := ⟨(RX6, TX6, 10), rfl, by decide, Or.inr ⟨"PrinterHouse", inN mt_1 53 (by decide +kernel) rfl⟩⟩
theorem flX6_63 : FL RX6 63 6 7 := ⟨(RX6, TX6, 10), rfl, by decide, Or.inl (inT mt_1 54 (by decide +kernel) rfl)⟩
theorem flX6_66 : FL RX6 66 6 8 := ⟨(RX6, TX6, 10), rfl, by decide, Or.inl (inT mt_1 55 (by decide +kernel) rfl)⟩
theorem flX6_69 : FL RX6 69 6 9 := ⟨(RX6, TX6, 10), rfl, by decide, Or.inl (inT mt_1 56 (by decide +kernel) rfl)⟩
theorem ka_byte : Cond.arrayClass .byte ∈ TBL := inT mt_1 78 (by decide +kernel) rfl
theorem ka_int : Cond.arrayClass .int ∈ TBL := inT mt_1 79 (by decide +kernel) rfl
theorem klX11_37 : Cond.classLink RX11 37 RX9 ∈ TBL := inT mt_1 80 (by decide +kernel) rfl
theorem knX9 : Cond.instantiable RX9 19 ∈ TBL := inT mt_1 81 (by decide +kernel) rfl
theorem mlX11_39 : ML RX11 39 yX9_init := Or.inl (inT mt_1 82 (by decide +kernel) rfl)
set_option maxRecDepth 100000 in
theorem mcX9_init : MCi yX9_init cX9_init 3 1 := ⟨⟨inT mt_1 3 (by decide +kernel) rfl, inT mt_1 84 rfl rfl, ⟨by decide +kernel, by decide +kernel⟩, by decide +kernel⟩, inT mt_1 83 (by decide +kernel) rfl, rfl⟩
theorem mlX9_3 : ML RX9 3 objectInit := Or.inl (inT mt_1 85 (by decide +kernel) rfl)
theorem klX9_9 : Cond.classLink RX9 9 RX0 ∈ TBL := inT mt_1 86 (by decide +kernel) rfl
theorem knX0 : Cond.instantiable RX0 15 ∈ TBL := inT mt_1 87 (by decide +kernel) rfl
theorem mlX9_11 : ML RX9 11 yX0_init := Or.inr ⟨"PrinterHouse", inN mt_1 88 (by decide +kernel) rfl⟩
set_option maxRecDepth 100000 in
theorem mcX0_init : MCi yX0_init cX0_init 1 0 := ⟨⟨inT mt_1 4 (by decide +kernel) rfl, inT mt_1 90 rfl rfl, ⟨by decide +kernel, by decide +kernel⟩, by decide +kernel⟩, inT mt_1 89 (by decide +kernel) rfl, rfl⟩
theorem mlX0_3 : ML RX0 3 objectInit := Or.inl (inT mt_1 91 (by decide +kernel) rfl)
theorem klX0_18 : Cond.classLink RX0 18 RX10 ∈ TBL := inT mt_1 92 (by decide +kernel) rfl
theorem knX10 : Cond.instantiable RX10 4 ∈ TBL := inT mt_1 93 (by decide +kernel) rfl
theorem mlX0_20 : ML RX0 20 yX10_init := Or.inr ⟨"PrinterHouse", inN mt_1 94 (by decide +kernel) rfl⟩
set_option maxRecDepth 100000 in
theorem mcX10_init : MCi yX10_init cX10_init 1 0 := ⟨⟨inT mt_1 5 (by decide +kernel) rfl, inT mt_1 96 rfl rfl, ⟨by decide +kernel, by decide +kernel⟩, by decide +kernel⟩, inT mt_1 95 (by decide +kernel) rfl, rfl⟩
theorem mlX10_1 : ML RX10 1 objectInit := Or.inl (inT mt_1 97 (by decide +kernel) rfl)
theorem flX10_7 : FL RX10 7 10 0 := ⟨(RX10, TX10, 4), rfl, by decide, Or.inl (inT mt_1 98 (by decide +kernel) rfl)⟩
theorem flX10_13 : FL RX10 13 10 1 := ⟨(RX10, TX10, 4), rfl, by decide, Or.inl (inT mt_1 99 (by decide +kernel) rfl)⟩
theorem flX10_20 : FL RX10 20 10 2 := ⟨(RX10, TX10, 4), rfl, by decide, Or.inl (inT mt_1 100 (by decide +kernel) rfl)⟩
theorem flX0_71 : FL RX0 71 10 2 := ⟨(RX10, TX10, 4), rfl, by decide, Or.inr ⟨"PrinterHouse", inN mt_1 101 (by decide +kernel) rfl⟩⟩
theorem flX10_16 : FL RX10 16 10 3 := ⟨(RX10, TX10, 4), rfl, by decide, Or.inl (inT mt_1 102 (by decide +kernel) rfl)⟩
theorem flX10_16o : FLo RX10 16 10 3 := ⟨(RX10, TX10, 4), rfl, by decide, rfl, inT mt_1 102 (by decide +kernel) rfl⟩
theorem ka_long : Cond.arrayClass .long ∈ TBL := inT mt_1 112 (by decide +kernel) rfl
theorem flX0_11 : FL RX0 11 0 0 := ⟨(RX0, TX0, 15), rfl, by decide, Or.inl (inT mt_1 113 (by decide +kernel) rfl)⟩
theorem flX0_11o : FLo RX0 11 0 0 := ⟨(RX0, TX0, 15), rfl, by decide, rfl, inT mt_1 113 (by decide +kernel) rfl⟩
theorem flX0_15 : FL RX0 15 0 1 := ⟨(RX0, TX0, 15), rfl, by decide, Or.inl (inT mt_1 114 (by decide +kernel) rfl)⟩
theorem flX0_15o : FLo RX0 15 0 1 := ⟨(RX0, TX0, 15), rfl, by decide, rfl, inT mt_1 114 (by decide +kernel) rfl⟩
theorem flX0_39 : FL RX0 39 0 2 := ⟨(RX0, TX0, 15), rfl, by decide, Or.inl (inT mt_1 115 (by decide +kernel) rfl)⟩
theorem flX9_505 : FL RX9 505 0 2 := ⟨(RX0, TX0, 15), rfl, by decide, Or.inr ⟨"PrinterHouse", inN mt_1 116 (by decide +kernel) rfl⟩⟩
theorem flX0_25 : FL RX0 25 0 3 := ⟨(RX0, TX0, 15), rfl, by decide, Or.inl (inT mt_1 117 (by decide +kernel) rfl)⟩
theorem flX9_189 : FL RX9 189 0 3 := ⟨(RX0, TX0, 15), rfl, by decide, Or.inr ⟨"PrinterHouse", inN mt_1 118 (by decide +kernel) rfl⟩⟩
theorem flX0_29 : FL RX0 29 0 4 := ⟨(RX0, TX0, 15), rfl, by decide, Or.inl (inT mt_1 119 (by decide +kernel) rfl)⟩
theorem flX0_32 : FL RX0 32 0 5 := ⟨(RX0, TX0, 15), rfl, by decide, Or.inl (inT mt_1 120 (by decide +kernel) rfl)⟩
theorem flX9_91 : FL RX9 91 0 5 := ⟨(RX0, TX0, 15), rfl, by decide, Or.inr ⟨"PrinterHouse", inN mt_1 121 (by decide +kernel) rfl⟩⟩
theorem flX0_83 : FL RX0 83 0 6 := ⟨(RX0, TX0, 15), rfl, by decide, Or.inl (inT mt_1 122 (by decide +kernel) rfl)⟩
theorem flX0_95 : FL RX0 95 0 7 := ⟨(RX0, TX0, 15), rfl, by decide, Or.inl (inT mt_1 123 (by decide +kernel) rfl)⟩
theorem flX0_98 : FL RX0 98 0 8 := ⟨(RX0, TX0, 15), rfl, by decide, Or.inl (inT mt_1 124 (by decide +kernel) rfl)⟩
theorem flX9_549 : FL RX9 549 0 8 := ⟨(RX0, TX0, 15), rfl, by decide, Or.inr ⟨"PrinterHouse", inN mt_1 125 (by decide +kernel) rfl⟩⟩
theorem flX0_104 : FL RX0 104 0 9 := ⟨(RX0, TX0, 15), rfl, by decide, Or.inl (inT mt_1 126 (by decide +kernel) rfl)⟩
theorem flX9_552 : FL RX9 552 0 9 := ⟨(RX0, TX0, 15), rfl, by decide, Or.inr ⟨"PrinterHouse", inN mt_1 127 (by decide +kernel) rfl⟩⟩
theorem flX0_21 : FL RX0 21 0 10 := ⟨(RX0, TX0, 15), rfl, by decide, Or.inl (inT mt_1 128 (by decide +kernel) rfl)⟩
theorem flX0_53 : FL RX0 53 0 11 := ⟨(RX0, TX0, 15), rfl, by decide, Or.inl (inT mt_1 129 (by decide +kernel) rfl)⟩
theorem flX0_59 : FL RX0 59 0 12 := ⟨(RX0, TX0, 15), rfl, by decide, Or.inl (inT mt_1 130 (by decide +kernel) rfl)⟩
theorem flX0_65 : FL RX0 65 0 13 := ⟨(RX0, TX0, 15), rfl, by decide, Or.inl (inT mt_1 131 (by decide +kernel) rfl)⟩
theorem flX0_74 : FL RX0 74 0 14 := ⟨(RX0, TX0, 15), rfl, by decide, Or.inl (inT mt_1 132 (by decide +kernel) rfl)⟩
theorem klX9_18 : Cond.classLink RX9 18 RX2 ∈ TBL := inT mt_1 164 (by decide +kernel) rfl
theorem knX2 : Cond.instantiable RX2 10 ∈ TBL := inT mt_1 165 (by decide +kernel) rfl
theorem mlX9_20 : ML RX9 20 yX2_init := Or.inl (inT mt_1 166 (by decide +kernel) rfl)
set_option maxRecDepth 100000 in
theorem mcX2_init : MCi yX2_init cX2_init 5 0 := ⟨⟨inT mt_1 6 (by decide +kernel) rfl, inT mt_1 168 rfl rfl, ⟨by decide +kernel, by decide +kernel⟩, by decide +kernel⟩, inT mt_1 167 (by decide +kernel) rfl, rfl⟩
theorem mlX2_5 : ML RX2 5 objectInit := Or.inl (inT mt_1 169 (by decide +kernel) rfl)
theorem klX2_11 : Cond.classLink RX2 11 RX8 ∈ TBL := inT mt_1 170 (by decide +kernel) rfl
theorem knX8 : Cond.instantiable RX8 1 ∈ TBL := inT mt_1 171 (by decide +kernel) rfl
theorem mlX2_13 : ML RX2 13 yX8_init := Or.inr ⟨"PrinterHouse", inN mt_1 172 (by decide +kernel) rfl⟩
set_option maxRecDepth 100000 in
theorem mcX8_init : MCi yX8_init cX8_init 1 0 := ⟨⟨inT mt_1 7 (by decide +kernel) rfl, inT mt_1 174 rfl rfl, ⟨by decide +kernel, by decide +kernel⟩, by decide +kernel⟩, inT mt_1 173 (by decide +kernel) rfl, rfl⟩
theorem mlX8_1 : ML RX8 1 objectInit := Or.inl (inT mt_1 175 (by decide +kernel) rfl)
theorem flX8_9 : FL RX8 9 8 0 := ⟨(RX8, TX8, 1), rfl, by decide, Or.inl (inT mt_1 176 (by decide +kernel) rfl)⟩
theorem flX8_9o : FLo RX8 9 8 0 := ⟨(RX8, TX8, 1), rfl, by decide, rfl, inT mt_1 176 (by decide +kernel) rfl⟩
theorem mlX2_38 : ML RX2 38 yX2_firstWishes := Or.inl (inT mt_1 180 (by decide +kernel) rfl)
set_option maxRecDepth 100000 in
theorem mcX2_firstWishes : MCs yX2_firstWishes cX2_firstWishes 1 none 1 := ⟨⟨inT mt_1 6 (by decide +kernel) rfl, inT mt_1 182 rfl rfl, ⟨by decide +kernel, by decide +kernel⟩, by decide +kernel⟩, inT mt_1 181 (by decide +kernel) rfl⟩
theorem mlX2_52 : ML RX2 52 yJ7_fill_53178 := Or.inl (inT mt_1 183 (by decide +kernel) rfl)
set_option maxRecDepth 100000 in
theorem mcJ7_fill_53178 : MCs yJ7_fill_53178 cJ7_fill_53178 4 none 2 := ⟨⟨inT mt_1 8 (by decide +kernel) rfl, inT mt_1 185 rfl rfl, ⟨by decide +kernel, by decide +kernel⟩, by decide +kernel⟩, inT mt_1 184 (by decide +kernel) rfl⟩
theorem mlX2_42 : Cond.methodLink RX2 42 ⟨"java/lang/System", "arraycopy", "(Ljava/lang/Object;ILjava/lang/Object;II)V"⟩ ∈ TBL := inT mt_1 186 (by decide +kernel) rfl
theorem mlX2_48 : ML RX2 48 yX2_setHead := Or.inl (inT mt_1 189 (by decide +kernel) rfl)
set_option maxRecDepth 100000 in
theorem mcX2_setHead : MCv yX2_setHead cX2_setHead 8 none 6 := ⟨⟨inT mt_1 6 (by decide +kernel) rfl, inT mt_1 192 rfl rfl, ⟨by decide +kernel, by decide +kernel⟩, by decide +kernel⟩, inT mt_1 191 (by decide +kernel) rfl, inT mt_0 0 (by decide +kernel) rfl⟩
theorem flX2_14 : FL RX2 14 2 0 := ⟨(RX2, TX2, 10), rfl, by decide, Or.inl (inT mt_1 193 (by decide +kernel) rfl)⟩
theorem flX2_14o : FLo RX2 14 2 0 := ⟨(RX2, TX2, 10), rfl, by decide, rfl, inT mt_1 193 (by decide +kernel) rfl⟩
theorem flX9_176 : FL RX9 176 2 0 := ⟨(RX2, TX2, 10), rfl, by decide, Or.inr ⟨"PrinterHouse", inN mt_1 194 (by decide +kernel) rfl⟩⟩
theorem flX2_18 : FL RX2 18 2 1 := ⟨(RX2, TX2, 10), rfl, by decide, Or.inl (inT mt_1 195 (by decide +kernel) rfl)⟩
theorem flX2_18o : FLo RX2 18 2 1 := ⟨(RX2, TX2, 10), rfl, by decide, rfl, inT mt_1 195 (by decide +kernel) rfl⟩
theorem flX2_22 : FL RX2 22 2 2 := ⟨(RX2, TX2, 10), rfl, by decide, Or.inl (inT mt_1 196 (by decide +kernel) rfl)⟩
theorem flX2_22o : FLo RX2 22 2 2 := ⟨(RX2, TX2, 10), rfl, by decide, rfl, inT mt_1 196 (by decide +kernel) rfl⟩
theorem flX2_25 : FL RX2 25 2 3 := ⟨(RX2, TX2, 10), rfl, by decide, Or.inl (inT mt_1 197 (by decide +kernel) rfl)⟩
theorem flX2_25o : FLo RX2 25 2 3 := ⟨(RX2, TX2, 10), rfl, by decide, rfl, inT mt_1 197 (by decide +kernel) rfl⟩
theorem flX2_29 : FL RX2 29 2 4 := ⟨(RX2, TX2, 10), rfl, by decide, Or.inl (inT mt_1 198 (by decide +kernel) rfl)⟩
theorem flX2_29o : FLo RX2 29 2 4 := ⟨(RX2, TX2, 10), rfl, by decide, rfl, inT mt_1 198 (by decide +kernel) rfl⟩
theorem flX2_32 : FL RX2 32 2 5 := ⟨(RX2, TX2, 10), rfl, by decide, Or.inl (inT mt_1 199 (by decide +kernel) rfl)⟩
theorem flX2_32o : FLo RX2 32 2 5 := ⟨(RX2, TX2, 10), rfl, by decide, rfl, inT mt_1 199 (by decide +kernel) rfl⟩
theorem flX9_183 : FL RX9 183 2 6 := ⟨(RX2, TX2, 10), rfl, by decide, Or.inr ⟨"PrinterHouse", inN mt_1 200 (by decide +kernel) rfl⟩⟩
theorem flX2_91 : FL RX2 91 2 6 := ⟨(RX2, TX2, 10), rfl, by decide, Or.inl (inT mt_1 201 (by decide +kernel) rfl)⟩
theorem flX2_35 : FL RX2 35 2 7 := ⟨(RX2, TX2, 10), rfl, by decide, Or.inl (inT mt_1 202 (by decide +kernel) rfl)⟩
theorem flX2_35o : FLo RX2 35 2 7 := ⟨(RX2, TX2, 10), rfl, by decide, rfl, inT mt_1 202 (by decide +kernel) rfl⟩
theorem flX2_110 : FL RX2 110 2 8 := ⟨(RX2, TX2, 10), rfl, by decide, Or.inl (inT mt_1 203 (by decide +kernel) rfl)⟩
theorem flX2_94 : FL RX2 94 2 9 := ⟨(RX2, TX2, 10), rfl, by decide, Or.inl (inT mt_1 204 (by decide +kernel) rfl)⟩
theorem ka_boolean : Cond.arrayClass .boolean ∈ TBL := inT mt_1 226 (by decide +kernel) rfl
theorem klX9_25 : Cond.classLink RX9 25 RX8 ∈ TBL := inT mt_1 227 (by decide +kernel) rfl
theorem mlX9_27 : ML RX9 27 yX8_init := Or.inr ⟨"PrinterHouse", inN mt_1 228 (by decide +kernel) rfl⟩
theorem klX9_32 : Cond.classLink RX9 32 RX10 ∈ TBL := inT mt_1 229 (by decide +kernel) rfl
theorem ko_Tile_at : lw_tbl[424]? = some (Cond.arrayOver (.object "PrinterHouse$Tile")) := by decide +kernel
theorem mlX9_38 : ML RX9 38 yX10_init := Or.inr ⟨"PrinterHouse", inN mt_1 231 (by decide +kernel) rfl⟩
theorem klX9_54 : Cond.classLink RX9 54 RX1 ∈ TBL := inT mt_1 232 (by decide +kernel) rfl
theorem knX1 : Cond.instantiable RX1 21 ∈ TBL := inT mt_1 233 (by decide +kernel) rfl
theorem mlX9_56 : ML RX9 56 yX1_init := Or.inr ⟨"PrinterHouse", inN mt_1 234 (by decide +kernel) rfl⟩
set_option maxRecDepth 100000 in
theorem mcX1_init : MCi yX1_init cX1_init 1 0 := ⟨⟨inT mt_1 10 (by decide +kernel) rfl, inT mt_1 236 rfl rfl, ⟨by decide +kernel, by decide +kernel⟩, by decide +kernel⟩, inT mt_1 235 (by decide +kernel) rfl, rfl⟩
theorem mlX1_3 : ML RX1 3 objectInit := Or.inl (inT mt_1 237 (by decide +kernel) rfl)
theorem klX1_9 : Cond.classLink RX1 9 RX7 ∈ TBL := inT mt_1 238 (by decide +kernel) rfl
theorem knX7 : Cond.instantiable RX7 13 ∈ TBL := inT mt_1 239 (by decide +kernel) rfl
theorem mlX1_11 : ML RX1 11 yX7_init := Or.inr ⟨"PrinterHouse", inN mt_2 0 (by decide +kernel) rfl⟩
set_option maxRecDepth 100000 in
theorem mcX7_init : MCi yX7_init cX7_init 1 0 := ⟨⟨inT mt_1 11 (by decide +kernel) rfl, inT mt_2 2 rfl rfl, ⟨by decide +kernel, by decide +kernel⟩, by decide +kernel⟩, inT mt_2 1 (by decide +kernel) rfl, rfl⟩
theorem mlX7_3 : ML RX7 3 objectInit := Or.inl (inT mt_2 3 (by decide +kernel) rfl)
theorem flX7_15 : FL RX7 15 7 0 := ⟨(RX7, TX7, 13), rfl, by decide, Or.inl (inT mt_2 4 (by decide +kernel) rfl)⟩
theorem flX9_167 : FL RX9 167 7 0 := ⟨(RX7, TX7, 13), rfl, by decide, Or.inr ⟨"PrinterHouse", inN mt_2 5 (by decide +kernel) rfl⟩⟩
theorem flX7_19 : FL RX7 19 7 1 := ⟨(RX7, TX7, 13), rfl, by decide, Or.inl (inT mt_2 6 (by decide +kernel) rfl)⟩
theorem flX9_170 : FL RX9 170 7 1 := ⟨(RX7, TX7, 13), rfl, by decide, Or.inr ⟨"PrinterHouse", inN mt_2 7 (by decide +kernel) rfl⟩⟩
theorem flX0_148 : FL RX0 148 7 1 := ⟨(RX7, TX7, 13), rfl, by decide, Or.inr ⟨"PrinterHouse", inN mt_2 8 (by decide +kernel) rfl⟩⟩
theorem flX7_22 : FL RX7 22 7 2 := ⟨(RX7, TX7, 13), rfl, by decide, Or.inl (inT mt_2 9 (by decide +kernel) rfl)⟩
theorem flX9_147 : FL RX9 147 7 2 := ⟨(RX7, TX7, 13), rfl, by decide, Or.inr ⟨"PrinterHouse", inN mt_2 10 (by decide +kernel) rfl⟩⟩
theorem flX7_25 : FL RX7 25 7 3 := ⟨(RX7, TX7, 13), rfl, by decide, Or.inl (inT mt_2 11 (by decide +kernel) rfl)⟩
theorem flX9_150 : FL RX9 150 7 3 := ⟨(RX7, TX7, 13), rfl, by decide, Or.inr ⟨"PrinterHouse", inN mt_2 12 (by decide +kernel) rfl⟩⟩
theorem flX7_28 : FL RX7 28 7 4 := ⟨(RX7, TX7, 13), rfl, by decide, Or.inl (inT mt_2 13 (by decide +kernel) rfl)⟩
theorem flX9_153 : FL RX9 153 7 4 := ⟨(RX7, TX7, 13), rfl, by decide, Or.inr ⟨"PrinterHouse", inN mt_2 14 (by decide +kernel) rfl⟩⟩
theorem flX7_31 : FL RX7 31 7 5 := ⟨(RX7, TX7, 13), rfl, by decide, Or.inl (inT mt_2 15 (by decide +kernel) rfl)⟩
theorem flX9_156 : FL RX9 156 7 5 := ⟨(RX7, TX7, 13), rfl, by decide, Or.inr ⟨"PrinterHouse", inN mt_2 16 (by decide +kernel) rfl⟩⟩
theorem flX7_34 : FL RX7 34 7 6 := ⟨(RX7, TX7, 13), rfl, by decide, Or.inl (inT mt_2 17 (by decide +kernel) rfl)⟩
theorem flX9_133 : FL RX9 133 7 6 := ⟨(RX7, TX7, 13), rfl, by decide, Or.inr ⟨"PrinterHouse", inN mt_2 18 (by decide +kernel) rfl⟩⟩
theorem flX7_37 : FL RX7 37 7 7 := ⟨(RX7, TX7, 13), rfl, by decide, Or.inl (inT mt_2 19 (by decide +kernel) rfl)⟩
theorem flX9_138 : FL RX9 138 7 7 := ⟨(RX7, TX7, 13), rfl, by decide, Or.inr ⟨"PrinterHouse", inN mt_2 20 (by decide +kernel) rfl⟩⟩
theorem flX7_40 : FL RX7 40 7 8 := ⟨(RX7, TX7, 13), rfl, by decide, Or.inl (inT mt_2 21 (by decide +kernel) rfl)⟩
theorem flX9_144 : FL RX9 144 7 8 := ⟨(RX7, TX7, 13), rfl, by decide, Or.inr ⟨"PrinterHouse", inN mt_2 22 (by decide +kernel) rfl⟩⟩
theorem flX7_43 : FL RX7 43 7 9 := ⟨(RX7, TX7, 13), rfl, by decide, Or.inl (inT mt_2 23 (by decide +kernel) rfl)⟩
theorem flX9_141 : FL RX9 141 7 9 := ⟨(RX7, TX7, 13), rfl, by decide, Or.inr ⟨"PrinterHouse", inN mt_2 24 (by decide +kernel) rfl⟩⟩
theorem flX7_46 : FL RX7 46 7 10 := ⟨(RX7, TX7, 13), rfl, by decide, Or.inl (inT mt_2 25 (by decide +kernel) rfl)⟩
theorem flX9_243 : FL RX9 243 7 10 := ⟨(RX7, TX7, 13), rfl, by decide, Or.inr ⟨"PrinterHouse", inN mt_2 26 (by decide +kernel) rfl⟩⟩
theorem flX7_49 : FL RX7 49 7 11 := ⟨(RX7, TX7, 13), rfl, by decide, Or.inl (inT mt_2 27 (by decide +kernel) rfl)⟩
theorem flX9_173 : FL RX9 173 7 11 := ⟨(RX7, TX7, 13), rfl, by decide, Or.inr ⟨"PrinterHouse", inN mt_2 28 (by decide +kernel) rfl⟩⟩
theorem flX7_11 : FL RX7 11 7 12 := ⟨(RX7, TX7, 13), rfl, by decide, Or.inl (inT mt_2 29 (by decide +kernel) rfl)⟩
theorem flX7_11o : FLo RX7 11 7 12 := ⟨(RX7, TX7, 13), rfl, by decide, rfl, inT mt_2 29 (by decide +kernel) rfl⟩
theorem klX1_18 : Cond.classLink RX1 18 RX4 ∈ TBL := inT mt_2 57 (by decide +kernel) rfl
theorem knX4 : Cond.instantiable RX4 8 ∈ TBL := inT mt_2 58 (by decide +kernel) rfl
theorem mlX1_20 : ML RX1 20 yX4_init := Or.inr ⟨"PrinterHouse", inN mt_2 59 (by decide +kernel) rfl⟩
set_option maxRecDepth 100000 in
theorem mcX4_init : MCi yX4_init cX4_init 1 0 := ⟨⟨inT mt_1 12 (by decide +kernel) rfl, inT mt_2 61 rfl rfl, ⟨by decide +kernel, by decide +kernel⟩, by decide +kernel⟩, inT mt_2 60 (by decide +kernel) rfl, rfl⟩
theorem mlX4_1 : ML RX4 1 objectInit := Or.inl (inT mt_2 62 (by decide +kernel) rfl)
theorem flX4_13 : FL RX4 13 4 0 := ⟨(RX4, TX4, 8), rfl, by decide, Or.inl (inT mt_2 63 (by decide +kernel) rfl)⟩
theorem flX0_129 : FL RX0 129 4 0 := ⟨(RX4, TX4, 8), rfl, by decide, Or.inr ⟨"PrinterHouse", inN mt_2 64 (by decide +kernel) rfl⟩⟩
theorem flX9_661 : FL RX9 661 4 0 := ⟨(RX4, TX4, 8), rfl, by decide, Or.inr ⟨"PrinterHouse", inN mt_2 65 (by decide +kernel) rfl⟩⟩
theorem flX4_17 : FL RX4 17 4 1 := ⟨(RX4, TX4, 8), rfl, by decide, Or.inl (inT mt_2 66 (by decide +kernel) rfl)⟩
theorem flX9_678 : FL RX9 678 4 1 := ⟨(RX4, TX4, 8), rfl, by decide, Or.inr ⟨"PrinterHouse", inN mt_2 67 (by decide +kernel) rfl⟩⟩
theorem flX4_20 : FL RX4 20 4 2 := ⟨(RX4, TX4, 8), rfl, by decide, Or.inl (inT mt_2 68 (by decide +kernel) rfl)⟩
theorem flX9_669 : FL RX9 669 4 2 := ⟨(RX4, TX4, 8), rfl, by decide, Or.inr ⟨"PrinterHouse", inN mt_2 69 (by decide +kernel) rfl⟩⟩
theorem flX4_23 : FL RX4 23 4 3 := ⟨(RX4, TX4, 8), rfl, by decide, Or.inl (inT mt_2 70 (by decide +kernel) rfl)⟩
theorem flX9_672 : FL RX9 672 4 3 := ⟨(RX4, TX4, 8), rfl, by decide, Or.inr ⟨"PrinterHouse", inN mt_2 71 (by decide +kernel) rfl⟩⟩
theorem flX4_26 : FL RX4 26 4 4 := ⟨(RX4, TX4, 8), rfl, by decide, Or.inl (inT mt_2 72 (by decide +kernel) rfl)⟩
theorem flX9_656 : FL RX9 656 4 4 := ⟨(RX4, TX4, 8), rfl, by decide, Or.inr ⟨"PrinterHouse", inN mt_2 73 (by decide +kernel) rfl⟩⟩
theorem flX4_30 : FL RX4 30 4 5 := ⟨(RX4, TX4, 8), rfl, by decide, Or.inl (inT mt_2 74 (by decide +kernel) rfl)⟩
theorem flX0_126 : FL RX0 126 4 5 := ⟨(RX4, TX4, 8), rfl, by decide, Or.inr ⟨"PrinterHouse", inN mt_2 75 (by decide +kernel) rfl⟩⟩
theorem flX9_707 : FL RX9 707 4 5 := ⟨(RX4, TX4, 8), rfl, by decide, Or.inr ⟨"PrinterHouse", inN mt_2 76 (by decide +kernel) rfl⟩⟩
theorem flX4_33 : FL RX4 33 4 6 := ⟨(RX4, TX4, 8), rfl, by decide, Or.inl (inT mt_2 77 (by decide +kernel) rfl)⟩
theorem flX9_681 : FL RX9 681 4 6 := ⟨(RX4, TX4, 8), rfl, by decide, Or.inr ⟨"PrinterHouse", inN mt_2 78 (by decide +kernel) rfl⟩⟩
theorem flX4_9 : FL RX4 9 4 7 := ⟨(RX4, TX4, 8), rfl, by decide, Or.inl (inT mt_2 79 (by decide +kernel) rfl)⟩
theorem flX4_9o : FLo RX4 9 4 7 := ⟨(RX4, TX4, 8), rfl, by decide, rfl, inT mt_2 79 (by decide +kernel) rfl⟩
theorem flX0_119 : FL RX0 119 4 7 := ⟨(RX4, TX4, 8), rfl, by decide, Or.inr ⟨"PrinterHouse", inN mt_2 80 (by decide +kernel) rfl⟩⟩
theorem klX1_25 : Cond.classLink RX1 25 RX10 ∈ TBL := inT mt_2 98 (by decide +kernel) rfl
theorem mlX1_27 : ML RX1 27 yX10_init := Or.inr ⟨"PrinterHouse", inN mt_2 99 (by decide +kernel) rfl⟩
theorem flX1_12 : FL RX1 12 1 0 := ⟨(RX1, TX1, 21), rfl, by decide, Or.inl (inT mt_2 100 (by decide +kernel) rfl)⟩
theorem flX1_12o : FLo RX1 12 1 0 := ⟨(RX1, TX1, 21), rfl, by decide, rfl, inT mt_2 100 (by decide +kernel) rfl⟩
theorem flX9_129 : FL RX9 129 1 0 := ⟨(RX1, TX1, 21), rfl, by decide, Or.inr ⟨"PrinterHouse", inN mt_2 101 (by decide +kernel) rfl⟩⟩
theorem flX1_21 : FL RX1 21 1 1 := ⟨(RX1, TX1, 21), rfl, by decide, Or.inl (inT mt_2 102 (by decide +kernel) rfl)⟩
theorem flX1_21o : FLo RX1 21 1 1 := ⟨(RX1, TX1, 21), rfl, by decide, rfl, inT mt_2 102 (by decide +kernel) rfl⟩
theorem flX9_652 : FL RX9 652 1 1 := ⟨(RX1, TX1, 21), rfl, by decide, Or.inr ⟨"PrinterHouse", inN mt_2 103 (by decide +kernel) rfl⟩⟩
theorem flX1_28 : FL RX1 28 1 2 := ⟨(RX1, TX1, 21), rfl, by decide, Or.inl (inT mt_2 104 (by decide +kernel) rfl)⟩
theorem flX1_28o : FLo RX1 28 1 2 := ⟨(RX1, TX1, 21), rfl, by decide, rfl, inT mt_2 104 (by decide +kernel) rfl⟩
theorem flX9_539 : FL RX9 539 1 2 := ⟨(RX1, TX1, 21), rfl, by decide, Or.inr ⟨"PrinterHouse", inN mt_2 105 (by decide +kernel) rfl⟩⟩
theorem flX1_34 : FL RX1 34 1 3 := ⟨(RX1, TX1, 21), rfl, by decide, Or.inl (inT mt_2 106 (by decide +kernel) rfl)⟩
theorem flX1_34o : FLo RX1 34 1 3 := ⟨(RX1, TX1, 21), rfl, by decide, rfl, inT mt_2 106 (by decide +kernel) rfl⟩
theorem flX9_386 : FL RX9 386 1 3 := ⟨(RX1, TX1, 21), rfl, by decide, Or.inr ⟨"PrinterHouse", inN mt_2 107 (by decide +kernel) rfl⟩⟩
theorem flX1_38 : FL RX1 38 1 4 := ⟨(RX1, TX1, 21), rfl, by decide, Or.inl (inT mt_2 108 (by decide +kernel) rfl)⟩
theorem flX1_38o : FLo RX1 38 1 4 := ⟨(RX1, TX1, 21), rfl, by decide, rfl, inT mt_2 108 (by decide +kernel) rfl⟩
theorem flX9_389 : FL RX9 389 1 4 := ⟨(RX1, TX1, 21), rfl, by decide, Or.inr ⟨"PrinterHouse", inN mt_2 109 (by decide +kernel) rfl⟩⟩
theorem flX1_57 : FL RX1 57 1 5 := ⟨(RX1, TX1, 21), rfl, by decide, Or.inl (inT mt_2 110 (by decide +kernel) rfl)⟩
theorem flX9_268 : FL RX9 268 1 5 := ⟨(RX1, TX1, 21), rfl, by decide, Or.inr ⟨"PrinterHouse", inN mt_2 111 (by decide +kernel) rfl⟩⟩
theorem flX1_61 : FL RX1 61 1 6 := ⟨(RX1, TX1, 21), rfl, by decide, Or.inl (inT mt_2 112 (by decide +kernel) rfl)⟩
theorem flX9_419 : FL RX9 419 1 6 := ⟨(RX1, TX1, 21), rfl, by decide, Or.inr ⟨"PrinterHouse", inN mt_2 113 (by decide +kernel) rfl⟩⟩
theorem flX1_65 : FL RX1 65 1 7 := ⟨(RX1, TX1, 21), rfl, by decide, Or.inl (inT mt_2 114 (by decide +kernel) rfl)⟩
theorem flX9_280 : FL RX9 280 1 7 := ⟨(RX1, TX1, 21), rfl, by decide, Or.inr ⟨"PrinterHouse", inN mt_2 115 (by decide +kernel) rfl⟩⟩
theorem flX1_68 : FL RX1 68 1 8 := ⟨(RX1, TX1, 21), rfl, by decide, Or.inl (inT mt_2 116 (by decide +kernel) rfl)⟩
theorem flX9_265 : FL RX9 265 1 8 := ⟨(RX1, TX1, 21), rfl, by decide, Or.inr ⟨"PrinterHouse", inN mt_2 117 (by decide +kernel) rfl⟩⟩
theorem flX1_71 : FL RX1 71 1 9 := ⟨(RX1, TX1, 21), rfl, by decide, Or.inl (inT mt_2 118 (by decide +kernel) rfl)⟩
theorem flX9_459 : FL RX9 459 1 9 := ⟨(RX1, TX1, 21), rfl, by decide, Or.inr ⟨"PrinterHouse", inN mt_2 119 (by decide +kernel) rfl⟩⟩
theorem flX1_74 : FL RX1 74 1 10 := ⟨(RX1, TX1, 21), rfl, by decide, Or.inl (inT mt_2 120 (by decide +kernel) rfl)⟩
theorem flX0_62 : FL RX0 62 1 10 := ⟨(RX1, TX1, 21), rfl, by decide, Or.inr ⟨"PrinterHouse", inN mt_2 121 (by decide +kernel) rfl⟩⟩
theorem flX9_646 : FL RX9 646 1 10 := ⟨(RX1, TX1, 21), rfl, by decide, Or.inr ⟨"PrinterHouse", inN mt_2 122 (by decide +kernel) rfl⟩⟩
theorem flX1_77 : FL RX1 77 1 11 := ⟨(RX1, TX1, 21), rfl, by decide, Or.inl (inT mt_2 123 (by decide +kernel) rfl)⟩
theorem flX0_68 : FL RX0 68 1 11 := ⟨(RX1, TX1, 21), rfl, by decide, Or.inr ⟨"PrinterHouse", inN mt_2 124 (by decide +kernel) rfl⟩⟩
theorem flX9_649 : FL RX9 649 1 11 := ⟨(RX1, TX1, 21), rfl, by decide, Or.inr ⟨"PrinterHouse", inN mt_2 125 (by decide +kernel) rfl⟩⟩
theorem flX1_80 : FL RX1 80 1 12 := ⟨(RX1, TX1, 21), rfl, by decide, Or.inl (inT mt_2 126 (by decide +kernel) rfl)⟩
theorem flX0_48 : FL RX0 48 1 12 := ⟨(RX1, TX1, 21), rfl, by decide, Or.inr ⟨"PrinterHouse", inN mt_2 127 (by decide +kernel) rfl⟩⟩
theorem flX9_453 : FL RX9 453 1 12 := ⟨(RX1, TX1, 21), rfl, by decide, Or.inr ⟨"PrinterHouse", inN mt_2 128 (by decide +kernel) rfl⟩⟩
theorem flX1_83 : FL RX1 83 1 13 := ⟨(RX1, TX1, 21), rfl, by decide, Or.inl (inT mt_2 129 (by decide +kernel) rfl)⟩
theorem flX0_56 : FL RX0 56 1 13 := ⟨(RX1, TX1, 21), rfl, by decide, Or.inr ⟨"PrinterHouse", inN mt_2 130 (by decide +kernel) rfl⟩⟩
theorem flX9_456 : FL RX9 456 1 13 := ⟨(RX1, TX1, 21), rfl, by decide, Or.inr ⟨"PrinterHouse", inN mt_2 131 (by decide +kernel) rfl⟩⟩
theorem flX1_86 : FL RX1 86 1 14 := ⟨(RX1, TX1, 21), rfl, by decide, Or.inl (inT mt_2 132 (by decide +kernel) rfl)⟩
theorem flX9_596 : FL RX9 596 1 14 := ⟨(RX1, TX1, 21), rfl, by decide, Or.inr ⟨"PrinterHouse", inN mt_2 133 (by decide +kernel) rfl⟩⟩
theorem flX1_89 : FL RX1 89 1 15 := ⟨(RX1, TX1, 21), rfl, by decide, Or.inl (inT mt_2 134 (by decide +kernel) rfl)⟩
theorem flX9_599 : FL RX9 599 1 15 := ⟨(RX1, TX1, 21), rfl, by decide, Or.inr ⟨"PrinterHouse", inN mt_2 135 (by decide +kernel) rfl⟩⟩
theorem flX1_92 : FL RX1 92 1 16 := ⟨(RX1, TX1, 21), rfl, by decide, Or.inl (inT mt_2 136 (by decide +kernel) rfl)⟩
theorem flX9_399 : FL RX9 399 1 16 := ⟨(RX1, TX1, 21), rfl, by decide, Or.inr ⟨"PrinterHouse", inN mt_2 137 (by decide +kernel) rfl⟩⟩
theorem flX1_95 : FL RX1 95 1 17 := ⟨(RX1, TX1, 21), rfl, by decide, Or.inl (inT mt_2 138 (by decide +kernel) rfl)⟩
theorem flX9_402 : FL RX9 402 1 17 := ⟨(RX1, TX1, 21), rfl, by decide, Or.inr ⟨"PrinterHouse", inN mt_2 139 (by decide +kernel) rfl⟩⟩
theorem flX1_98 : FL RX1 98 1 18 := ⟨(RX1, TX1, 21), rfl, by decide, Or.inl (inT mt_2 140 (by decide +kernel) rfl)⟩
theorem flX9_587 : FL RX9 587 1 18 := ⟨(RX1, TX1, 21), rfl, by decide, Or.inr ⟨"PrinterHouse", inN mt_2 141 (by decide +kernel) rfl⟩⟩
theorem flX1_101 : FL RX1 101 1 19 := ⟨(RX1, TX1, 21), rfl, by decide, Or.inl (inT mt_2 142 (by decide +kernel) rfl)⟩
theorem flX9_462 : FL RX9 462 1 19 := ⟨(RX1, TX1, 21), rfl, by decide, Or.inr ⟨"PrinterHouse", inN mt_2 143 (by decide +kernel) rfl⟩⟩
theorem flX1_104 : FL RX1 104 1 20 := ⟨(RX1, TX1, 21), rfl, by decide, Or.inl (inT mt_2 144 (by decide +kernel) rfl)⟩
theorem flX9_480 : FL RX9 480 1 20 := ⟨(RX1, TX1, 21), rfl, by decide, Or.inr ⟨"PrinterHouse", inN mt_2 145 (by decide +kernel) rfl⟩⟩
theorem ko_Environment_at : lw_tbl[623]? = some (Cond.arrayOver (.object "PrinterHouse$Environment")) := by decide +kernel
theorem klX9_68 : Cond.classLink RX9 68 RX5 ∈ TBL := inT mt_2 190 (by decide +kernel) rfl
theorem ko_Reading_at : lw_tbl[625]? = some (Cond.arrayOver (.object "PrinterHouse$Reading")) := by decide +kernel
theorem knX5 : Cond.instantiable RX5 13 ∈ TBL := inT mt_2 192 (by decide +kernel) rfl
theorem mlX9_81 : ML RX9 81 yX5_init := Or.inr ⟨"PrinterHouse", inN mt_2 193 (by decide +kernel) rfl⟩
set_option maxRecDepth 100000 in
theorem mcX5_init : MCi yX5_init cX5_init 1 0 := ⟨⟨inT mt_1 13 (by decide +kernel) rfl, inT mt_2 195 rfl rfl, ⟨by decide +kernel, by decide +kernel⟩, by decide +kernel⟩, inT mt_2 194 (by decide +kernel) rfl, rfl⟩
theorem mlX5_3 : ML RX5 3 objectInit := Or.inl (inT mt_2 196 (by decide +kernel) rfl)
theorem flX5_9 : FL RX5 9 5 0 := ⟨(RX5, TX5, 13), rfl, by decide, Or.inl (inT mt_2 197 (by decide +kernel) rfl)⟩
theorem flX9_493 : FL RX9 493 5 0 := ⟨(RX5, TX5, 13), rfl, by decide, Or.inr ⟨"PrinterHouse", inN mt_2 198 (by decide +kernel) rfl⟩⟩
theorem flX5_21 : FL RX5 21 5 1 := ⟨(RX5, TX5, 13), rfl, by decide, Or.inl (inT mt_2 199 (by decide +kernel) rfl)⟩
theorem flX9_201 : FL RX9 201 5 1 := ⟨(RX5, TX5, 13), rfl, by decide, Or.inr ⟨"PrinterHouse", inN mt_2 200 (by decide +kernel) rfl⟩⟩
theorem flX5_28 : FL RX5 28 5 2 := ⟨(RX5, TX5, 13), rfl, by decide, Or.inl (inT mt_2 201 (by decide +kernel) rfl)⟩
theorem flX9_336 : FL RX9 336 5 2 := ⟨(RX5, TX5, 13), rfl, by decide, Or.inr ⟨"PrinterHouse", inN mt_2 202 (by decide +kernel) rfl⟩⟩
theorem flX5_31 : FL RX5 31 5 3 := ⟨(RX5, TX5, 13), rfl, by decide, Or.inl (inT mt_2 203 (by decide +kernel) rfl)⟩
theorem flX9_217 : FL RX9 217 5 3 := ⟨(RX5, TX5, 13), rfl, by decide, Or.inr ⟨"PrinterHouse", inN mt_2 204 (by decide +kernel) rfl⟩⟩
theorem flX9_299 : FL RX9 299 5 4 := ⟨(RX5, TX5, 13), rfl, by decide, Or.inr ⟨"PrinterHouse", inN mt_2 205 (by decide +kernel) rfl⟩⟩
theorem flX9_327 : FL RX9 327 5 5 := ⟨(RX5, TX5, 13), rfl, by decide, Or.inr ⟨"PrinterHouse", inN mt_2 206 (by decide +kernel) rfl⟩⟩
theorem flX9_230 : FL RX9 230 5 6 := ⟨(RX5, TX5, 13), rfl, by decide, Or.inr ⟨"PrinterHouse", inN mt_2 207 (by decide +kernel) rfl⟩⟩
theorem flX5_42 : FL RX5 42 5 7 := ⟨(RX5, TX5, 13), rfl, by decide, Or.inl (inT mt_2 208 (by decide +kernel) rfl)⟩
theorem flX9_450 : FL RX9 450 5 7 := ⟨(RX5, TX5, 13), rfl, by decide, Or.inr ⟨"PrinterHouse", inN mt_2 209 (by decide +kernel) rfl⟩⟩
theorem flX5_38 : FL RX5 38 5 8 := ⟨(RX5, TX5, 13), rfl, by decide, Or.inl (inT mt_2 210 (by decide +kernel) rfl)⟩
theorem flX5_45 : FL RX5 45 5 9 := ⟨(RX5, TX5, 13), rfl, by decide, Or.inl (inT mt_2 211 (by decide +kernel) rfl)⟩
theorem flX5_48 : FL RX5 48 5 10 := ⟨(RX5, TX5, 13), rfl, by decide, Or.inl (inT mt_2 212 (by decide +kernel) rfl)⟩
theorem flX5_61 : FL RX5 61 5 11 := ⟨(RX5, TX5, 13), rfl, by decide, Or.inl (inT mt_2 213 (by decide +kernel) rfl)⟩
theorem flX9_330 : FL RX9 330 5 11 := ⟨(RX5, TX5, 13), rfl, by decide, Or.inr ⟨"PrinterHouse", inN mt_2 214 (by decide +kernel) rfl⟩⟩
theorem flX4_71 : FL RX4 71 5 12 := ⟨(RX5, TX5, 13), rfl, by decide, Or.inr ⟨"PrinterHouse", inN mt_2 215 (by decide +kernel) rfl⟩⟩
theorem flX2_69 : FL RX2 69 5 12 := ⟨(RX5, TX5, 13), rfl, by decide, Or.inr ⟨"PrinterHouse", inN mt_2 216 (by decide +kernel) rfl⟩⟩
theorem flX5_64 : FL RX5 64 5 12 := ⟨(RX5, TX5, 13), rfl, by decide, Or.inl (inT mt_2 217 (by decide +kernel) rfl)⟩
theorem flX9_318 : FL RX9 318 5 12 := ⟨(RX5, TX5, 13), rfl, by decide, Or.inr ⟨"PrinterHouse", inN mt_2 218 (by decide +kernel) rfl⟩⟩
theorem flX9_77 : FL RX9 77 9 0 := ⟨(RX9, TX9, 19), rfl, by decide, Or.inl (inT mt_3 6 (by decide +kernel) rfl)⟩
theorem flX9_77o : FLo RX9 77 9 0 := ⟨(RX9, TX9, 19), rfl, by decide, rfl, inT mt_3 6 (by decide +kernel) rfl⟩
theorem flX9_12 : FL RX9 12 9 1 := ⟨(RX9, TX9, 19), rfl, by decide, Or.inl (inT mt_3 7 (by decide +kernel) rfl)⟩
theorem flX9_12o : FLo RX9 12 9 1 := ⟨(RX9, TX9, 19), rfl, by decide, rfl, inT mt_3 7 (by decide +kernel) rfl⟩
theorem flX9_21 : FL RX9 21 9 2 := ⟨(RX9, TX9, 19), rfl, by decide, Or.inl (inT mt_3 8 (by decide +kernel) rfl)⟩
theorem flX9_21o : FLo RX9 21 9 2 := ⟨(RX9, TX9, 19), rfl, by decide, rfl, inT mt_3 8 (by decide +kernel) rfl⟩
theorem flX9_28 : FL RX9 28 9 3 := ⟨(RX9, TX9, 19), rfl, by decide, Or.inl (inT mt_3 9 (by decide +kernel) rfl)⟩
theorem flX9_28o : FLo RX9 28 9 3 := ⟨(RX9, TX9, 19), rfl, by decide, rfl, inT mt_3 9 (by decide +kernel) rfl⟩
theorem flX9_34 : FL RX9 34 9 4 := ⟨(RX9, TX9, 19), rfl, by decide, Or.inl (inT mt_3 10 (by decide +kernel) rfl)⟩
theorem flX9_34o : FLo RX9 34 9 4 := ⟨(RX9, TX9, 19), rfl, by decide, rfl, inT mt_3 10 (by decide +kernel) rfl⟩
theorem flX9_39 : FL RX9 39 9 5 := ⟨(RX9, TX9, 19), rfl, by decide, Or.inl (inT mt_3 11 (by decide +kernel) rfl)⟩
theorem flX9_39o : FLo RX9 39 9 5 := ⟨(RX9, TX9, 19), rfl, by decide, rfl, inT mt_3 11 (by decide +kernel) rfl⟩
theorem flX9_43 : FL RX9 43 9 6 := ⟨(RX9, TX9, 19), rfl, by decide, Or.inl (inT mt_3 12 (by decide +kernel) rfl)⟩
theorem flX9_43o : FLo RX9 43 9 6 := ⟨(RX9, TX9, 19), rfl, by decide, rfl, inT mt_3 12 (by decide +kernel) rfl⟩
theorem flX9_46 : FL RX9 46 9 7 := ⟨(RX9, TX9, 19), rfl, by decide, Or.inl (inT mt_3 13 (by decide +kernel) rfl)⟩
theorem flX9_46o : FLo RX9 46 9 7 := ⟨(RX9, TX9, 19), rfl, by decide, rfl, inT mt_3 13 (by decide +kernel) rfl⟩
theorem flX9_50 : FL RX9 50 9 8 := ⟨(RX9, TX9, 19), rfl, by decide, Or.inl (inT mt_3 14 (by decide +kernel) rfl)⟩
theorem flX9_50o : FLo RX9 50 9 8 := ⟨(RX9, TX9, 19), rfl, by decide, rfl, inT mt_3 14 (by decide +kernel) rfl⟩
theorem flX9_57 : FL RX9 57 9 9 := ⟨(RX9, TX9, 19), rfl, by decide, Or.inl (inT mt_3 15 (by decide +kernel) rfl)⟩
theorem flX9_57o : FLo RX9 57 9 9 := ⟨(RX9, TX9, 19), rfl, by decide, rfl, inT mt_3 15 (by decide +kernel) rfl⟩
theorem flX9_61 : FL RX9 61 9 10 := ⟨(RX9, TX9, 19), rfl, by decide, Or.inl (inT mt_3 16 (by decide +kernel) rfl)⟩
theorem flX9_61o : FLo RX9 61 9 10 := ⟨(RX9, TX9, 19), rfl, by decide, rfl, inT mt_3 16 (by decide +kernel) rfl⟩
theorem flX9_64 : FL RX9 64 9 11 := ⟨(RX9, TX9, 19), rfl, by decide, Or.inl (inT mt_3 17 (by decide +kernel) rfl)⟩
theorem flX9_64o : FLo RX9 64 9 11 := ⟨(RX9, TX9, 19), rfl, by decide, rfl, inT mt_3 17 (by decide +kernel) rfl⟩
theorem flX9_70 : FL RX9 70 9 12 := ⟨(RX9, TX9, 19), rfl, by decide, Or.inl (inT mt_3 18 (by decide +kernel) rfl)⟩
theorem flX9_70o : FLo RX9 70 9 12 := ⟨(RX9, TX9, 19), rfl, by decide, rfl, inT mt_3 18 (by decide +kernel) rfl⟩
theorem flX9_82 : FL RX9 82 9 13 := ⟨(RX9, TX9, 19), rfl, by decide, Or.inl (inT mt_3 19 (by decide +kernel) rfl)⟩
theorem flX9_108 : FL RX9 108 9 14 := ⟨(RX9, TX9, 19), rfl, by decide, Or.inl (inT mt_3 20 (by decide +kernel) rfl)⟩
theorem flX9_111 : FL RX9 111 9 15 := ⟨(RX9, TX9, 19), rfl, by decide, Or.inl (inT mt_3 21 (by decide +kernel) rfl)⟩
theorem flX9_86 : FL RX9 86 9 16 := ⟨(RX9, TX9, 19), rfl, by decide, Or.inl (inT mt_3 22 (by decide +kernel) rfl)⟩
theorem flX9_74 : FL RX9 74 9 17 := ⟨(RX9, TX9, 19), rfl, by decide, Or.inl (inT mt_3 23 (by decide +kernel) rfl)⟩
theorem flX9_74o : FLo RX9 74 9 17 := ⟨(RX9, TX9, 19), rfl, by decide, rfl, inT mt_3 23 (by decide +kernel) rfl⟩
theorem flX9_126 : FL RX9 126 9 18 := ⟨(RX9, TX9, 19), rfl, by decide, Or.inl (inT mt_3 24 (by decide +kernel) rfl)⟩
theorem klX11_46 : Cond.classLink RX11 46 RX3 ∈ TBL := inT mt_3 64 (by decide +kernel) rfl
theorem knX3 : Cond.instantiable RX3 21 ∈ TBL := inT mt_3 65 (by decide +kernel) rfl
theorem mlX11_48 : ML RX11 48 yX3_init := Or.inl (inT mt_3 66 (by decide +kernel) rfl)
set_option maxRecDepth 100000 in
theorem mcX3_init : MCi yX3_init cX3_init 7 1 := ⟨⟨inT mt_1 14 (by decide +kernel) rfl, inT mt_3 68 rfl rfl, ⟨by decide +kernel, by decide +kernel⟩, by decide +kernel⟩, inT mt_3 67 (by decide +kernel) rfl, rfl⟩
theorem mlX3_3 : ML RX3 3 objectInit := Or.inl (inT mt_3 69 (by decide +kernel) rfl)
theorem gsX3_30 : Cond.fieldLinkNest RX3 30 "PrinterHouse" "RUN_CODES" "[I" "PrinterHouse" ∈ NST := inN mt_3 70 (by decide +kernel) rfl
theorem gsX3_34 : Cond.fieldLinkNest RX3 34 "PrinterHouse" "RUN_BITS" "[I" "PrinterHouse" ∈ NST := inN mt_3 72 (by decide +kernel) rfl
theorem flX3_26 : FL RX3 26 3 0 := ⟨(RX3, TX3, 21), rfl, by decide, Or.inl (inT mt_3 74 (by decide +kernel) rfl)⟩
theorem flX3_26o : FLo RX3 26 3 0 := ⟨(RX3, TX3, 21), rfl, by decide, rfl, inT mt_3 74 (by decide +kernel) rfl⟩
theorem flX3_9 : FL RX3 9 3 1 := ⟨(RX3, TX3, 21), rfl, by decide, Or.inl (inT mt_3 75 (by decide +kernel) rfl)⟩
theorem flX3_37 : FL RX3 37 3 2 := ⟨(RX3, TX3, 21), rfl, by decide, Or.inl (inT mt_3 76 (by decide +kernel) rfl)⟩
theorem flX3_41 : FL RX3 41 3 3 := ⟨(RX3, TX3, 21), rfl, by decide, Or.inl (inT mt_3 77 (by decide +kernel) rfl)⟩
theorem flX3_44 : FL RX3 44 3 4 := ⟨(RX3, TX3, 21), rfl, by decide, Or.inl (inT mt_3 78 (by decide +kernel) rfl)⟩
theorem flX11_89 : FL RX11 89 3 4 := ⟨(RX3, TX3, 21), rfl, by decide, Or.inr ⟨"PrinterHouse", inN mt_3 79 (by decide +kernel) rfl⟩⟩
theorem flX3_47 : FL RX3 47 3 5 := ⟨(RX3, TX3, 21), rfl, by decide, Or.inl (inT mt_3 80 (by decide +kernel) rfl)⟩
theorem flX11_92 : FL RX11 92 3 5 := ⟨(RX3, TX3, 21), rfl, by decide, Or.inr ⟨"PrinterHouse", inN mt_3 81 (by decide +kernel) rfl⟩⟩
theorem flX3_72 : FL RX3 72 3 6 := ⟨(RX3, TX3, 21), rfl, by decide, Or.inl (inT mt_3 82 (by decide +kernel) rfl)⟩
theorem flX3_15 : FL RX3 15 3 7 := ⟨(RX3, TX3, 21), rfl, by decide, Or.inl (inT mt_3 83 (by decide +kernel) rfl)⟩
theorem flX3_15o : FLo RX3 15 3 7 := ⟨(RX3, TX3, 21), rfl, by decide, rfl, inT mt_3 83 (by decide +kernel) rfl⟩
theorem flX3_50 : FL RX3 50 3 8 := ⟨(RX3, TX3, 21), rfl, by decide, Or.inl (inT mt_3 84 (by decide +kernel) rfl)⟩
theorem flX3_105 : FL RX3 105 3 9 := ⟨(RX3, TX3, 21), rfl, by decide, Or.inl (inT mt_3 85 (by decide +kernel) rfl)⟩
theorem flX3_109 : FL RX3 109 3 10 := ⟨(RX3, TX3, 21), rfl, by decide, Or.inl (inT mt_3 86 (by decide +kernel) rfl)⟩
theorem flX3_123 : FL RX3 123 3 11 := ⟨(RX3, TX3, 21), rfl, by decide, Or.inl (inT mt_3 87 (by decide +kernel) rfl)⟩
theorem flX3_126 : FL RX3 126 3 12 := ⟨(RX3, TX3, 21), rfl, by decide, Or.inl (inT mt_3 88 (by decide +kernel) rfl)⟩
theorem flX3_129 : FL RX3 129 3 13 := ⟨(RX3, TX3, 21), rfl, by decide, Or.inl (inT mt_3 89 (by decide +kernel) rfl)⟩
theorem flX3_132 : FL RX3 132 3 14 := ⟨(RX3, TX3, 21), rfl, by decide, Or.inl (inT mt_3 90 (by decide +kernel) rfl)⟩
theorem flX3_135 : FL RX3 135 3 15 := ⟨(RX3, TX3, 21), rfl, by decide, Or.inl (inT mt_3 91 (by decide +kernel) rfl)⟩
theorem flX3_138 : FL RX3 138 3 16 := ⟨(RX3, TX3, 21), rfl, by decide, Or.inl (inT mt_3 92 (by decide +kernel) rfl)⟩
theorem flX3_19 : FL RX3 19 3 17 := ⟨(RX3, TX3, 21), rfl, by decide, Or.inl (inT mt_3 93 (by decide +kernel) rfl)⟩
theorem flX3_19o : FLo RX3 19 3 17 := ⟨(RX3, TX3, 21), rfl, by decide, rfl, inT mt_3 93 (by decide +kernel) rfl⟩
theorem flX3_198 : FL RX3 198 3 18 := ⟨(RX3, TX3, 21), rfl, by decide, Or.inl (inT mt_3 94 (by decide +kernel) rfl)⟩
theorem flX3_204 : FL RX3 204 3 19 := ⟨(RX3, TX3, 21), rfl, by decide, Or.inl (inT mt_3 95 (by decide +kernel) rfl)⟩
theorem flX3_22 : FL RX3 22 3 20 := ⟨(RX3, TX3, 21), rfl, by decide, Or.inl (inT mt_3 96 (by decide +kernel) rfl)⟩
theorem flX3_22o : FLo RX3 22 3 20 := ⟨(RX3, TX3, 21), rfl, by decide, rfl, inT mt_3 96 (by decide +kernel) rfl⟩
theorem ka_short : Cond.arrayClass .short ∈ TBL := inT mt_3 140 (by decide +kernel) rfl
theorem flX11_9 : FL RX11 9 11 0 := ⟨(RX11, TX11, 12), rfl, by decide, Or.inl (inT mt_3 141 (by decide +kernel) rfl)⟩
theorem flX11_9o : FLo RX11 9 11 0 := ⟨(RX11, TX11, 12), rfl, by decide, rfl, inT mt_3 141 (by decide +kernel) rfl⟩
theorem flX11_53 : FL RX11 53 11 1 := ⟨(RX11, TX11, 12), rfl, by decide, Or.inl (inT mt_3 142 (by decide +kernel) rfl)⟩
theorem flX11_13 : FL RX11 13 11 2 := ⟨(RX11, TX11, 12), rfl, by decide, Or.inl (inT mt_3 143 (by decide +kernel) rfl)⟩
theorem flX11_13o : FLo RX11 13 11 2 := ⟨(RX11, TX11, 12), rfl, by decide, rfl, inT mt_3 143 (by decide +kernel) rfl⟩
theorem flX11_16 : FL RX11 16 11 3 := ⟨(RX11, TX11, 12), rfl, by decide, Or.inl (inT mt_3 144 (by decide +kernel) rfl)⟩
theorem flX11_16o : FLo RX11 16 11 3 := ⟨(RX11, TX11, 12), rfl, by decide, rfl, inT mt_3 144 (by decide +kernel) rfl⟩
theorem flX11_20 : FL RX11 20 11 4 := ⟨(RX11, TX11, 12), rfl, by decide, Or.inl (inT mt_3 145 (by decide +kernel) rfl)⟩
theorem flX11_20o : FLo RX11 20 11 4 := ⟨(RX11, TX11, 12), rfl, by decide, rfl, inT mt_3 145 (by decide +kernel) rfl⟩
theorem flX11_60 : FL RX11 60 11 5 := ⟨(RX11, TX11, 12), rfl, by decide, Or.inl (inT mt_3 146 (by decide +kernel) rfl)⟩
theorem flX11_33 : FL RX11 33 11 6 := ⟨(RX11, TX11, 12), rfl, by decide, Or.inl (inT mt_3 147 (by decide +kernel) rfl)⟩
theorem flX11_33o : FLo RX11 33 11 6 := ⟨(RX11, TX11, 12), rfl, by decide, rfl, inT mt_3 147 (by decide +kernel) rfl⟩
theorem flX11_42 : FL RX11 42 11 7 := ⟨(RX11, TX11, 12), rfl, by decide, Or.inl (inT mt_3 148 (by decide +kernel) rfl)⟩
theorem flX11_42o : FLo RX11 42 11 7 := ⟨(RX11, TX11, 12), rfl, by decide, rfl, inT mt_3 148 (by decide +kernel) rfl⟩
theorem flX11_49 : FL RX11 49 11 8 := ⟨(RX11, TX11, 12), rfl, by decide, Or.inl (inT mt_3 149 (by decide +kernel) rfl)⟩
theorem flX11_49o : FLo RX11 49 11 8 := ⟨(RX11, TX11, 12), rfl, by decide, rfl, inT mt_3 149 (by decide +kernel) rfl⟩
theorem flX11_69 : FL RX11 69 11 9 := ⟨(RX11, TX11, 12), rfl, by decide, Or.inl (inT mt_3 150 (by decide +kernel) rfl)⟩
theorem flX11_23 : FL RX11 23 11 10 := ⟨(RX11, TX11, 12), rfl, by decide, Or.inl (inT mt_3 151 (by decide +kernel) rfl)⟩
theorem flX11_27 : FL RX11 27 11 11 := ⟨(RX11, TX11, 12), rfl, by decide, Or.inl (inT mt_3 152 (by decide +kernel) rfl)⟩
theorem mlL_13 : ML RL 13 yX11_feed := Or.inl (inT mt_3 178 (by decide +kernel) rfl)
set_option maxRecDepth 100000 in
theorem mcX11_feed : MCv yX11_feed cX11_feed 6 (some .int) 5 := ⟨⟨inT mt_1 1 (by decide +kernel) rfl, inT mt_3 181 rfl rfl, ⟨by decide +kernel, by decide +kernel⟩, by decide +kernel⟩, inT mt_3 179 (by decide +kernel) rfl, inT mt_3 180 (by decide +kernel) rfl⟩
theorem mlX11_56 : ML RX11 56 yX11_feedNumber := Or.inl (inT mt_3 182 (by decide +kernel) rfl)
set_option maxRecDepth 100000 in
theorem mcX11_feedNumber : MCv yX11_feedNumber cX11_feedNumber 3 none 1 := ⟨⟨inT mt_1 1 (by decide +kernel) rfl, inT mt_3 185 rfl rfl, ⟨by decide +kernel, by decide +kernel⟩, by decide +kernel⟩, inT mt_3 184 (by decide +kernel) rfl, inT mt_0 1 (by decide +kernel) rfl⟩
theorem mlL_18 : ML RL 18 yX11_cut := Or.inl (inT mt_3 186 (by decide +kernel) rfl)
set_option maxRecDepth 100000 in
theorem mcX11_cut : MCv yX11_cut cX11_cut 3 (some .int) 1 := ⟨⟨inT mt_1 1 (by decide +kernel) rfl, inT mt_3 189 rfl rfl, ⟨by decide +kernel, by decide +kernel⟩, by decide +kernel⟩, inT mt_3 187 (by decide +kernel) rfl, inT mt_3 188 (by decide +kernel) rfl⟩
theorem mlL_23 : ML RL 23 yX11_part := Or.inl (inT mt_3 190 (by decide +kernel) rfl)
set_option maxRecDepth 100000 in
theorem mcX11_part : MCv yX11_part cX11_part 4 (some .int) 1 := ⟨⟨inT mt_1 1 (by decide +kernel) rfl, inT mt_3 193 rfl rfl, ⟨by decide +kernel, by decide +kernel⟩, by decide +kernel⟩, inT mt_3 191 (by decide +kernel) rfl, inT mt_3 192 (by decide +kernel) rfl⟩
theorem mlX11_63 : Cond.methodLink RX11 63 ⟨"java/lang/System", "arraycopy", "(Ljava/lang/Object;ILjava/lang/Object;II)V"⟩ ∈ TBL := inT mt_3 194 (by decide +kernel) rfl
theorem mlL_27 : ML RL 27 yX11_drop := Or.inl (inT mt_3 195 (by decide +kernel) rfl)
set_option maxRecDepth 100000 in
theorem mcX11_drop : MCv yX11_drop cX11_drop 2 (some .int) 0 := ⟨⟨inT mt_1 1 (by decide +kernel) rfl, inT mt_3 198 rfl rfl, ⟨by decide +kernel, by decide +kernel⟩, by decide +kernel⟩, inT mt_3 196 (by decide +kernel) rfl, inT mt_3 197 (by decide +kernel) rfl⟩
theorem mlL_32 : ML RL 32 yX11_print := Or.inl (inT mt_3 199 (by decide +kernel) rfl)
set_option maxRecDepth 100000 in
theorem mcX11_print : MCv yX11_print cX11_print 3 (some .int) 1 := ⟨⟨inT mt_1 1 (by decide +kernel) rfl, inT mt_3 202 rfl rfl, ⟨by decide +kernel, by decide +kernel⟩, by decide +kernel⟩, inT mt_3 200 (by decide +kernel) rfl, inT mt_3 201 (by decide +kernel) rfl⟩
theorem mlX11_72 : ML RX11 72 yX6_clear := Or.inl (inT mt_3 203 (by decide +kernel) rfl)
set_option maxRecDepth 100000 in
theorem mcX6_clear : MCv yX6_clear cX6_clear 1 none 0 := ⟨⟨inT mt_1 2 (by decide +kernel) rfl, inT mt_3 206 rfl rfl, ⟨by decide +kernel, by decide +kernel⟩, by decide +kernel⟩, inT mt_3 204 (by decide +kernel) rfl, inT mt_3 205 (by decide +kernel) rfl⟩
theorem mlX11_75 : ML RX11 75 yX9_startJob := Or.inl (inT mt_3 207 (by decide +kernel) rfl)
set_option maxRecDepth 100000 in
theorem mcX9_startJob : MCv yX9_startJob cX9_startJob 1 none 0 := ⟨⟨inT mt_1 3 (by decide +kernel) rfl, inT mt_3 210 rfl rfl, ⟨by decide +kernel, by decide +kernel⟩, by decide +kernel⟩, inT mt_3 208 (by decide +kernel) rfl, inT mt_3 209 (by decide +kernel) rfl⟩
theorem mlX9_98 : ML RX9 98 yX0_startJob := Or.inl (inT mt_3 211 (by decide +kernel) rfl)
set_option maxRecDepth 100000 in
theorem mcX0_startJob : MCv yX0_startJob cX0_startJob 1 none 0 := ⟨⟨inT mt_1 4 (by decide +kernel) rfl, inT mt_3 214 rfl rfl, ⟨by decide +kernel, by decide +kernel⟩, by decide +kernel⟩, inT mt_3 212 (by decide +kernel) rfl, inT mt_3 213 (by decide +kernel) rfl⟩
theorem mlX0_36 : ML RX0 36 yX0_clear := Or.inl (inT mt_3 215 (by decide +kernel) rfl)
set_option maxRecDepth 100000 in
theorem mcX0_clear : MCv yX0_clear cX0_clear 1 none 0 := ⟨⟨inT mt_1 4 (by decide +kernel) rfl, inT mt_3 218 rfl rfl, ⟨by decide +kernel, by decide +kernel⟩, by decide +kernel⟩, inT mt_3 216 (by decide +kernel) rfl, inT mt_3 217 (by decide +kernel) rfl⟩
theorem mlX0_42 : ML RX0 42 yJ7_fill_53178 := Or.inl (inT mt_3 219 (by decide +kernel) rfl)
theorem mlX11_78 : ML RX11 78 yX9_run := Or.inl (inT mt_3 220 (by decide +kernel) rfl)
set_option maxRecDepth 100000 in
theorem mcX9_run : MCv yX9_run cX9_run 4 none 3 := ⟨⟨inT mt_1 3 (by decide +kernel) rfl, inT mt_3 223 rfl rfl, ⟨by decide +kernel, by decide +kernel⟩, by decide +kernel⟩, inT mt_3 221 (by decide +kernel) rfl, inT mt_3 222 (by decide +kernel) rfl⟩
theorem mlX9_101 : ML RX9 101 yX1_reset := Or.inl (inT mt_3 224 (by decide +kernel) rfl)
set_option maxRecDepth 100000 in
theorem mcX1_reset : MCv yX1_reset cX1_reset 3 none 2 := ⟨⟨inT mt_1 10 (by decide +kernel) rfl, inT mt_3 227 rfl rfl, ⟨by decide +kernel, by decide +kernel⟩, by decide +kernel⟩, inT mt_3 225 (by decide +kernel) rfl, inT mt_3 226 (by decide +kernel) rfl⟩
theorem mlX1_107 : ML RX1 107 yX7_reset := Or.inl (inT mt_3 228 (by decide +kernel) rfl)
set_option maxRecDepth 100000 in
theorem mcX7_reset : MCv yX7_reset cX7_reset 1 none 0 := ⟨⟨inT mt_1 11 (by decide +kernel) rfl, inT mt_3 231 rfl rfl, ⟨by decide +kernel, by decide +kernel⟩, by decide +kernel⟩, inT mt_3 229 (by decide +kernel) rfl, inT mt_3 230 (by decide +kernel) rfl⟩
theorem mlX1_110 : ML RX1 110 yX7_turn := Or.inl (inT mt_3 232 (by decide +kernel) rfl)
set_option maxRecDepth 100000 in
theorem mcX7_turn : MCv yX7_turn cX7_turn 3 none 2 := ⟨⟨inT mt_1 11 (by decide +kernel) rfl, inT mt_3 235 rfl rfl, ⟨by decide +kernel, by decide +kernel⟩, by decide +kernel⟩, inT mt_3 233 (by decide +kernel) rfl, inT mt_3 234 (by decide +kernel) rfl⟩
theorem mlX7_58 : ML RX7 58 yX7_down := Or.inl (inT mt_3 236 (by decide +kernel) rfl)
set_option maxRecDepth 100000 in
theorem mcX7_down : MCv yX7_down cX7_down 1 (some .int) 0 := ⟨⟨inT mt_1 11 (by decide +kernel) rfl, inT mt_3 239 rfl rfl, ⟨by decide +kernel, by decide +kernel⟩, by decide +kernel⟩, inT mt_3 237 (by decide +kernel) rfl, inT mt_3 238 (by decide +kernel) rfl⟩
theorem mlX7_84 : ML RX7 84 yX7_dotsDown := Or.inl (inT mt_4 0 (by decide +kernel) rfl)
set_option maxRecDepth 100000 in
theorem mcX7_dotsDown : MCv yX7_dotsDown cX7_dotsDown 1 (some .int) 0 := ⟨⟨inT mt_1 11 (by decide +kernel) rfl, inT mt_4 3 rfl rfl, ⟨by decide +kernel, by decide +kernel⟩, by decide +kernel⟩, inT mt_4 1 (by decide +kernel) rfl, inT mt_4 2 (by decide +kernel) rfl⟩
theorem gsX7_78 : Cond.fieldLinkNest RX7 78 "PrinterHouse" "FORMAT_HIGH" "[I" "PrinterHouse" ∈ NST := inN mt_4 4 (by decide +kernel) rfl
theorem gsX7_75 : Cond.fieldLinkNest RX7 75 "PrinterHouse" "FORMAT_WIDE" "[I" "PrinterHouse" ∈ NST := inN mt_4 6 (by decide +kernel) rfl
theorem mlX7_62 : ML RX7 62 yX7_clearMargins := Or.inl (inT mt_4 8 (by decide +kernel) rfl)
set_option maxRecDepth 100000 in
theorem mcX7_clearMargins : MCv yX7_clearMargins cX7_clearMargins 1 none 0 := ⟨⟨inT mt_1 11 (by decide +kernel) rfl, inT mt_4 11 rfl rfl, ⟨by decide +kernel, by decide +kernel⟩, by decide +kernel⟩, inT mt_4 9 (by decide +kernel) rfl, inT mt_4 10 (by decide +kernel) rfl⟩
theorem mlX7_72 : ML RX7 72 yX7_across := Or.inl (inT mt_4 12 (by decide +kernel) rfl)
set_option maxRecDepth 100000 in
theorem mcX7_across : MCv yX7_across cX7_across 1 (some .int) 0 := ⟨⟨inT mt_1 11 (by decide +kernel) rfl, inT mt_4 15 rfl rfl, ⟨by decide +kernel, by decide +kernel⟩, by decide +kernel⟩, inT mt_4 13 (by decide +kernel) rfl, inT mt_4 14 (by decide +kernel) rfl⟩
theorem mlX7_81 : ML RX7 81 yX7_dotsAcross := Or.inl (inT mt_4 16 (by decide +kernel) rfl)
set_option maxRecDepth 100000 in
theorem mcX7_dotsAcross : MCv yX7_dotsAcross cX7_dotsAcross 1 (some .int) 0 := ⟨⟨inT mt_1 11 (by decide +kernel) rfl, inT mt_4 19 rfl rfl, ⟨by decide +kernel, by decide +kernel⟩, by decide +kernel⟩, inT mt_4 17 (by decide +kernel) rfl, inT mt_4 18 (by decide +kernel) rfl⟩
theorem mlX7_65 : ML RX7 65 yX7_moveX := Or.inl (inT mt_4 20 (by decide +kernel) rfl)
set_option maxRecDepth 100000 in
theorem mcX7_moveX : MCv yX7_moveX cX7_moveX 3 none 1 := ⟨⟨inT mt_1 11 (by decide +kernel) rfl, inT mt_4 23 rfl rfl, ⟨by decide +kernel, by decide +kernel⟩, by decide +kernel⟩, inT mt_4 21 (by decide +kernel) rfl, inT mt_4 22 (by decide +kernel) rfl⟩
theorem mlX7_90 : ML RX7 90 yJ9_min_f86c9 := Or.inl (inT mt_4 24 (by decide +kernel) rfl)
set_option maxRecDepth 100000 in
theorem mcJ9_min_f86c9 : MCs yJ9_min_f86c9 cJ9_min_f86c9 4 (some .long) 2 := ⟨⟨inT mt_1 20 (by decide +kernel) rfl, inT mt_4 26 rfl rfl, ⟨by decide +kernel, by decide +kernel⟩, by decide +kernel⟩, inT mt_4 25 (by decide +kernel) rfl⟩
theorem mlX7_96 : ML RX7 96 yJ9_max_f86c9 := Or.inl (inT mt_4 27 (by decide +kernel) rfl)
set_option maxRecDepth 100000 in
theorem mcJ9_max_f86c9 : MCs yJ9_max_f86c9 cJ9_max_f86c9 4 (some .long) 2 := ⟨⟨inT mt_1 20 (by decide +kernel) rfl, inT mt_4 29 rfl rfl, ⟨by decide +kernel, by decide +kernel⟩, by decide +kernel⟩, inT mt_4 28 (by decide +kernel) rfl⟩
theorem mlX7_69 : ML RX7 69 yX7_homeY := Or.inl (inT mt_4 30 (by decide +kernel) rfl)
set_option maxRecDepth 100000 in
theorem mcX7_homeY : MCv yX7_homeY cX7_homeY 1 none 0 := ⟨⟨inT mt_1 11 (by decide +kernel) rfl, inT mt_4 33 rfl rfl, ⟨by decide +kernel, by decide +kernel⟩, by decide +kernel⟩, inT mt_4 31 (by decide +kernel) rfl, inT mt_4 32 (by decide +kernel) rfl⟩
theorem mlX7_87 : ML RX7 87 yX7_moveY := Or.inl (inT mt_4 34 (by decide +kernel) rfl)
set_option maxRecDepth 100000 in
theorem mcX7_moveY : MCv yX7_moveY cX7_moveY 3 none 1 := ⟨⟨inT mt_1 11 (by decide +kernel) rfl, inT mt_4 37 rfl rfl, ⟨by decide +kernel, by decide +kernel⟩, by decide +kernel⟩, inT mt_4 35 (by decide +kernel) rfl, inT mt_4 36 (by decide +kernel) rfl⟩
theorem mlX1_114 : ML RX1 114 yX4_reset := Or.inl (inT mt_4 38 (by decide +kernel) rfl)
set_option maxRecDepth 100000 in
theorem mcX4_reset : MCv yX4_reset cX4_reset 1 none 0 := ⟨⟨inT mt_1 12 (by decide +kernel) rfl, inT mt_4 41 rfl rfl, ⟨by decide +kernel, by decide +kernel⟩, by decide +kernel⟩, inT mt_4 39 (by decide +kernel) rfl, inT mt_4 40 (by decide +kernel) rfl⟩
theorem mlX4_42 : ML RX4 42 yX4_clearRow := Or.inl (inT mt_4 42 (by decide +kernel) rfl)
set_option maxRecDepth 100000 in
theorem mcX4_clearRow : MCv yX4_clearRow cX4_clearRow 1 none 0 := ⟨⟨inT mt_1 12 (by decide +kernel) rfl, inT mt_4 45 rfl rfl, ⟨by decide +kernel, by decide +kernel⟩, by decide +kernel⟩, inT mt_4 43 (by decide +kernel) rfl, inT mt_4 44 (by decide +kernel) rfl⟩
theorem mlX4_49 : ML RX4 49 yJ7_fill_53178 := Or.inl (inT mt_4 46 (by decide +kernel) rfl)
theorem mlX4_45 : ML RX4 45 yX4_end := Or.inl (inT mt_4 47 (by decide +kernel) rfl)
set_option maxRecDepth 100000 in
theorem mcX4_end : MCv yX4_end cX4_end 2 none 1 := ⟨⟨inT mt_1 12 (by decide +kernel) rfl, inT mt_4 50 rfl rfl, ⟨by decide +kernel, by decide +kernel⟩, by decide +kernel⟩, inT mt_4 48 (by decide +kernel) rfl, inT mt_4 49 (by decide +kernel) rfl⟩
theorem mlX1_115 : ML RX1 115 yX10_solid := Or.inl (inT mt_4 51 (by decide +kernel) rfl)
set_option maxRecDepth 100000 in
theorem mcX10_solid : MCv yX10_solid cX10_solid 1 none 0 := ⟨⟨inT mt_1 5 (by decide +kernel) rfl, inT mt_4 54 rfl rfl, ⟨by decide +kernel, by decide +kernel⟩, by decide +kernel⟩, inT mt_4 52 (by decide +kernel) rfl, inT mt_4 53 (by decide +kernel) rfl⟩
theorem mlX10_39 : ML RX10 39 yX10_size := Or.inl (inT mt_4 55 (by decide +kernel) rfl)
set_option maxRecDepth 100000 in
theorem mcX10_size : MCv yX10_size cX10_size 3 none 2 := ⟨⟨inT mt_1 5 (by decide +kernel) rfl, inT mt_4 58 rfl rfl, ⟨by decide +kernel, by decide +kernel⟩, by decide +kernel⟩, inT mt_4 56 (by decide +kernel) rfl, inT mt_4 57 (by decide +kernel) rfl⟩
theorem mlX10_30 : ML RX10 30 yJ9_min_7cf53 := Or.inl (inT mt_4 59 (by decide +kernel) rfl)
set_option maxRecDepth 100000 in
theorem mcJ9_min_7cf53 : MCs yJ9_min_7cf53 cJ9_min_7cf53 2 (some .int) 2 := ⟨⟨inT mt_1 20 (by decide +kernel) rfl, inT mt_4 61 rfl rfl, ⟨by decide +kernel, by decide +kernel⟩, by decide +kernel⟩, inT mt_4 60 (by decide +kernel) rfl⟩
theorem mlX10_36 : ML RX10 36 yJ9_max_7cf53 := Or.inl (inT mt_4 62 (by decide +kernel) rfl)
set_option maxRecDepth 100000 in
theorem mcJ9_max_7cf53 : MCs yJ9_max_7cf53 cJ9_max_7cf53 2 (some .int) 2 := ⟨⟨inT mt_1 20 (by decide +kernel) rfl, inT mt_4 64 rfl rfl, ⟨by decide +kernel, by decide +kernel⟩, by decide +kernel⟩, inT mt_4 63 (by decide +kernel) rfl⟩
theorem mlX10_43 : ML RX10 43 yX10_setRow := Or.inl (inT mt_4 65 (by decide +kernel) rfl)
set_option maxRecDepth 100000 in
theorem mcX10_setRow : MCv yX10_setRow cX10_setRow 6 none 2 := ⟨⟨inT mt_1 5 (by decide +kernel) rfl, inT mt_4 68 rfl rfl, ⟨by decide +kernel, by decide +kernel⟩, by decide +kernel⟩, inT mt_4 66 (by decide +kernel) rfl, inT mt_4 67 (by decide +kernel) rfl⟩
theorem mlX1_118 : ML RX1 118 yX2_firstWishes := Or.inl (inT mt_4 69 (by decide +kernel) rfl)
theorem mlX9_105 : ML RX9 105 yX0_clear := Or.inl (inT mt_4 70 (by decide +kernel) rfl)
theorem mlX9_114 : ML RX9 114 yX9_goThrough := Or.inl (inT mt_4 71 (by decide +kernel) rfl)
set_option maxRecDepth 100000 in
theorem mcX9_goThrough : MCv yX9_goThrough cX9_goThrough 7 none 3 := ⟨⟨inT mt_1 3 (by decide +kernel) rfl, inT mt_4 74 rfl rfl, ⟨by decide +kernel, by decide +kernel⟩, by decide +kernel⟩, inT mt_4 73 (by decide +kernel) rfl, inT mt_0 2 (by decide +kernel) rfl⟩
theorem mlX9_207 : ML RX9 207 yX5_open := Or.inl (inT mt_4 75 (by decide +kernel) rfl)
set_option maxRecDepth 100000 in
theorem mcX5_open : MCv yX5_open cX5_open 4 none 3 := ⟨⟨inT mt_1 13 (by decide +kernel) rfl, inT mt_4 78 rfl rfl, ⟨by decide +kernel, by decide +kernel⟩, by decide +kernel⟩, inT mt_4 76 (by decide +kernel) rfl, inT mt_4 77 (by decide +kernel) rfl⟩
theorem mlX5_15 : ML RX5 15 yJ9_max_7cf53 := Or.inl (inT mt_4 79 (by decide +kernel) rfl)
theorem mlX5_25 : ML RX5 25 yJ9_min_7cf53 := Or.inl (inT mt_4 80 (by decide +kernel) rfl)
theorem kcX9_210 : Cond.constant RX9 210 (1000000) ∈ TBL := inT mt_4 81 (by decide +kernel) rfl
theorem mlX9_211 : ML RX9 211 yX5_hasMore := Or.inl (inT mt_4 82 (by decide +kernel) rfl)
set_option maxRecDepth 100000 in
theorem mcX5_hasMore : MCv yX5_hasMore cX5_hasMore 1 (some .boolean) 0 := ⟨⟨inT mt_1 13 (by decide +kernel) rfl, inT mt_4 85 rfl rfl, ⟨by decide +kernel, by decide +kernel⟩, by decide +kernel⟩, inT mt_4 83 (by decide +kernel) rfl, inT mt_4 84 (by decide +kernel) rfl⟩
theorem mlX9_118 : ML RX9 118 yX9_isMuch := Or.inl (inT mt_4 86 (by decide +kernel) rfl)
set_option maxRecDepth 100000 in
theorem mcX9_isMuch : MCv yX9_isMuch cX9_isMuch 1 (some .boolean) 0 := ⟨⟨inT mt_1 3 (by decide +kernel) rfl, inT mt_4 89 rfl rfl, ⟨by decide +kernel, by decide +kernel⟩, by decide +kernel⟩, inT mt_4 87 (by decide +kernel) rfl, inT mt_4 88 (by decide +kernel) rfl⟩
theorem kcX9_90 : Cond.constant RX9 90 (60000) ∈ TBL := inT mt_4 90 (by decide +kernel) rfl
theorem mlX9_214 : ML RX9 214 yX5_next := Or.inl (inT mt_4 91 (by decide +kernel) rfl)
set_option maxRecDepth 100000 in
theorem mcX5_next : MCv yX5_next cX5_next 1 (some .int) 0 := ⟨⟨inT mt_1 13 (by decide +kernel) rfl, inT mt_4 94 rfl rfl, ⟨by decide +kernel, by decide +kernel⟩, by decide +kernel⟩, inT mt_4 92 (by decide +kernel) rfl, inT mt_4 93 (by decide +kernel) rfl⟩
theorem mlX5_34 : ML RX5 34 yX5_byteAt := Or.inl (inT mt_4 95 (by decide +kernel) rfl)
set_option maxRecDepth 100000 in
theorem mcX5_byteAt : MCv yX5_byteAt cX5_byteAt 2 (some .int) 1 := ⟨⟨inT mt_1 13 (by decide +kernel) rfl, inT mt_4 98 rfl rfl, ⟨by decide +kernel, by decide +kernel⟩, by decide +kernel⟩, inT mt_4 96 (by decide +kernel) rfl, inT mt_4 97 (by decide +kernel) rfl⟩
theorem mlX9_204 : ML RX9 204 yX9_pass := Or.inl (inT mt_4 99 (by decide +kernel) rfl)
set_option maxRecDepth 100000 in
theorem mcX9_pass : MCv yX9_pass cX9_pass 2 (some .boolean) 1 := ⟨⟨inT mt_1 3 (by decide +kernel) rfl, inT mt_4 102 rfl rfl, ⟨by decide +kernel, by decide +kernel⟩, by decide +kernel⟩, inT mt_4 101 (by decide +kernel) rfl, inT mt_0 3 (by decide +kernel) rfl⟩
theorem mlX9_220 : ML RX9 220 yX9_other := Or.inl (inT mt_4 103 (by decide +kernel) rfl)
set_option maxRecDepth 100000 in
theorem mcX9_other : MCv yX9_other cX9_other 2 none 1 := ⟨⟨inT mt_1 3 (by decide +kernel) rfl, inT mt_4 106 rfl rfl, ⟨by decide +kernel, by decide +kernel⟩, by decide +kernel⟩, inT mt_4 105 (by decide +kernel) rfl, inT mt_0 4 (by decide +kernel) rfl⟩
theorem mlX9_246 : ML RX9 246 yX7_moveX := Or.inl (inT mt_4 107 (by decide +kernel) rfl)
theorem mlX9_250 : ML RX9 250 yX7_tab := Or.inl (inT mt_4 108 (by decide +kernel) rfl)
set_option maxRecDepth 100000 in
theorem mcX7_tab : MCv yX7_tab cX7_tab 3 none 0 := ⟨⟨inT mt_1 11 (by decide +kernel) rfl, inT mt_4 111 rfl rfl, ⟨by decide +kernel, by decide +kernel⟩, by decide +kernel⟩, inT mt_4 109 (by decide +kernel) rfl, inT mt_4 110 (by decide +kernel) rfl⟩
theorem mlX7_99 : ML RX7 99 yJ9_min_7cf53 := Or.inl (inT mt_4 112 (by decide +kernel) rfl)
theorem mlX7_102 : ML RX7 102 yJ9_max_7cf53 := Or.inl (inT mt_4 113 (by decide +kernel) rfl)
theorem mlX9_253 : ML RX9 253 yX9_line := Or.inl (inT mt_4 114 (by decide +kernel) rfl)
set_option maxRecDepth 100000 in
theorem mcX9_line : MCv yX9_line cX9_line 3 none 1 := ⟨⟨inT mt_1 3 (by decide +kernel) rfl, inT mt_4 117 rfl rfl, ⟨by decide +kernel, by decide +kernel⟩, by decide +kernel⟩, inT mt_4 116 (by decide +kernel) rfl, inT mt_0 5 (by decide +kernel) rfl⟩
theorem mlX9_283 : ML RX9 283 yX7_down := Or.inl (inT mt_4 118 (by decide +kernel) rfl)
theorem mlX9_259 : ML RX9 259 yX9_form := Or.inl (inT mt_4 119 (by decide +kernel) rfl)
set_option maxRecDepth 100000 in
theorem mcX9_form : MCv yX9_form cX9_form 1 none 0 := ⟨⟨inT mt_1 3 (by decide +kernel) rfl, inT mt_4 122 rfl rfl, ⟨by decide +kernel, by decide +kernel⟩, by decide +kernel⟩, inT mt_4 121 (by decide +kernel) rfl, inT mt_0 6 (by decide +kernel) rfl⟩
theorem mlX9_240 : ML RX9 240 yX9_eject := Or.inl (inT mt_4 123 (by decide +kernel) rfl)
set_option maxRecDepth 100000 in
theorem mcX9_eject : MCv yX9_eject cX9_eject 3 none 0 := ⟨⟨inT mt_1 3 (by decide +kernel) rfl, inT mt_4 126 rfl rfl, ⟨by decide +kernel, by decide +kernel⟩, by decide +kernel⟩, inT mt_4 125 (by decide +kernel) rfl, inT mt_0 7 (by decide +kernel) rfl⟩
theorem mlX9_192 : ML RX9 192 yX8_has := Or.inl (inT mt_4 127 (by decide +kernel) rfl)
set_option maxRecDepth 100000 in
theorem mcX8_has : MCv yX8_has cX8_has 2 (some .boolean) 1 := ⟨⟨inT mt_1 7 (by decide +kernel) rfl, inT mt_4 130 rfl rfl, ⟨by decide +kernel, by decide +kernel⟩, by decide +kernel⟩, inT mt_4 128 (by decide +kernel) rfl, inT mt_4 129 (by decide +kernel) rfl⟩
theorem mlX9_233 : ML RX9 233 yX1_copy := Or.inl (inT mt_4 131 (by decide +kernel) rfl)
set_option maxRecDepth 100000 in
theorem mcX1_copy : MCv yX1_copy cX1_copy 2 none 1 := ⟨⟨inT mt_1 10 (by decide +kernel) rfl, inT mt_4 134 rfl rfl, ⟨by decide +kernel, by decide +kernel⟩, by decide +kernel⟩, inT mt_4 132 (by decide +kernel) rfl, inT mt_4 133 (by decide +kernel) rfl⟩
theorem mlX1_41 : ML RX1 41 yX7_copy := Or.inl (inT mt_4 135 (by decide +kernel) rfl)
set_option maxRecDepth 100000 in
theorem mcX7_copy : MCv yX7_copy cX7_copy 2 none 1 := ⟨⟨inT mt_1 11 (by decide +kernel) rfl, inT mt_4 138 rfl rfl, ⟨by decide +kernel, by decide +kernel⟩, by decide +kernel⟩, inT mt_4 136 (by decide +kernel) rfl, inT mt_4 137 (by decide +kernel) rfl⟩
theorem mlX7_52 : Cond.methodLink RX7 52 ⟨"java/lang/System", "arraycopy", "(Ljava/lang/Object;ILjava/lang/Object;II)V"⟩ ∈ TBL := inT mt_4 139 (by decide +kernel) rfl
theorem mlX1_45 : ML RX1 45 yX4_copy := Or.inl (inT mt_4 140 (by decide +kernel) rfl)
set_option maxRecDepth 100000 in
theorem mcX4_copy : MCv yX4_copy cX4_copy 2 none 1 := ⟨⟨inT mt_1 12 (by decide +kernel) rfl, inT mt_4 143 rfl rfl, ⟨by decide +kernel, by decide +kernel⟩, by decide +kernel⟩, inT mt_4 141 (by decide +kernel) rfl, inT mt_4 142 (by decide +kernel) rfl⟩
theorem mlX4_36 : Cond.methodLink RX4 36 ⟨"java/lang/System", "arraycopy", "(Ljava/lang/Object;ILjava/lang/Object;II)V"⟩ ∈ TBL := inT mt_4 144 (by decide +kernel) rfl
theorem mlX1_48 : ML RX1 48 yX10_copy := Or.inl (inT mt_4 145 (by decide +kernel) rfl)
set_option maxRecDepth 100000 in
theorem mcX10_copy : MCv yX10_copy cX10_copy 2 none 1 := ⟨⟨inT mt_1 5 (by decide +kernel) rfl, inT mt_4 148 rfl rfl, ⟨by decide +kernel, by decide +kernel⟩, by decide +kernel⟩, inT mt_4 146 (by decide +kernel) rfl, inT mt_4 147 (by decide +kernel) rfl⟩
theorem mlX10_24 : Cond.methodLink RX10 24 ⟨"java/lang/System", "arraycopy", "(Ljava/lang/Object;ILjava/lang/Object;II)V"⟩ ∈ TBL := inT mt_4 149 (by decide +kernel) rfl
theorem mlX1_51 : Cond.methodLink RX1 51 ⟨"java/lang/System", "arraycopy", "(Ljava/lang/Object;ILjava/lang/Object;II)V"⟩ ∈ TBL := inT mt_4 150 (by decide +kernel) rfl
theorem mlX9_237 : ML RX9 237 yX9_goMacro := Or.inl (inT mt_4 151 (by decide +kernel) rfl)
set_option maxRecDepth 100000 in
theorem mcX9_goMacro : MCv yX9_goMacro cX9_goMacro 3 none 1 := ⟨⟨inT mt_1 3 (by decide +kernel) rfl, inT mt_4 154 rfl rfl, ⟨by decide +kernel, by decide +kernel⟩, by decide +kernel⟩, inT mt_4 153 (by decide +kernel) rfl, inT mt_0 8 (by decide +kernel) rfl⟩
theorem mlX9_508 : ML RX9 508 yX6_nextPage := Or.inl (inT mt_4 155 (by decide +kernel) rfl)
set_option maxRecDepth 100000 in
theorem mcX6_nextPage : MCv yX6_nextPage cX6_nextPage 1 (some (.array .int)) 0 := ⟨⟨inT mt_1 2 (by decide +kernel) rfl, inT mt_4 158 rfl rfl, ⟨by decide +kernel, by decide +kernel⟩, by decide +kernel⟩, inT mt_4 156 (by decide +kernel) rfl, inT mt_4 157 (by decide +kernel) rfl⟩
theorem mlX6_49 : ML RX6 49 yJ9_min_7cf53 := Or.inl (inT mt_4 159 (by decide +kernel) rfl)
theorem mlX6_55 : ML RX6 55 yJ9_max_7cf53 := Or.inl (inT mt_4 160 (by decide +kernel) rfl)
theorem mlX9_511 : ML RX9 511 yX0_copyTo := Or.inl (inT mt_4 161 (by decide +kernel) rfl)
set_option maxRecDepth 100000 in
theorem mcX0_copyTo : MCv yX0_copyTo cX0_copyTo 7 none 2 := ⟨⟨inT mt_1 4 (by decide +kernel) rfl, inT mt_4 164 rfl rfl, ⟨by decide +kernel, by decide +kernel⟩, by decide +kernel⟩, inT mt_4 162 (by decide +kernel) rfl, inT mt_4 163 (by decide +kernel) rfl⟩
theorem mlX0_86 : ML RX0 86 yX7_dotsAcross := Or.inl (inT mt_4 165 (by decide +kernel) rfl)
theorem mlX0_92 : ML RX0 92 yJ9_min_7cf53 := Or.inl (inT mt_4 166 (by decide +kernel) rfl)
theorem mlX0_101 : ML RX0 101 yX7_dotsDown := Or.inl (inT mt_4 167 (by decide +kernel) rfl)
theorem mlX0_151 : ML RX0 151 yX7_pageHigh := Or.inl (inT mt_4 168 (by decide +kernel) rfl)
set_option maxRecDepth 100000 in
theorem mcX7_pageHigh : MCv yX7_pageHigh cX7_pageHigh 1 (some .int) 0 := ⟨⟨inT mt_1 11 (by decide +kernel) rfl, inT mt_4 171 rfl rfl, ⟨by decide +kernel, by decide +kernel⟩, by decide +kernel⟩, inT mt_4 169 (by decide +kernel) rfl, inT mt_4 170 (by decide +kernel) rfl⟩
theorem mlX0_154 : ML RX0 154 yX0_turnWord := Or.inl (inT mt_4 172 (by decide +kernel) rfl)
set_option maxRecDepth 100000 in
theorem mcX0_turnWord : MCs yX0_turnWord cX0_turnWord 7 none 4 := ⟨⟨inT mt_1 4 (by decide +kernel) rfl, inT mt_4 174 rfl rfl, ⟨by decide +kernel, by decide +kernel⟩, by decide +kernel⟩, inT mt_4 173 (by decide +kernel) rfl⟩
theorem mlX9_515 : ML RX9 515 yX7_pageWide := Or.inl (inT mt_4 175 (by decide +kernel) rfl)
set_option maxRecDepth 100000 in
theorem mcX7_pageWide : MCv yX7_pageWide cX7_pageWide 1 (some .int) 0 := ⟨⟨inT mt_1 11 (by decide +kernel) rfl, inT mt_4 178 rfl rfl, ⟨by decide +kernel, by decide +kernel⟩, by decide +kernel⟩, inT mt_4 176 (by decide +kernel) rfl, inT mt_4 177 (by decide +kernel) rfl⟩
theorem mlX9_518 : ML RX9 518 yX7_pageHigh := Or.inl (inT mt_4 179 (by decide +kernel) rfl)
theorem mlX9_521 : ML RX9 521 yX6_come := Or.inl (inT mt_4 180 (by decide +kernel) rfl)
set_option maxRecDepth 100000 in
theorem mcX6_come : MCv yX6_come cX6_come 6 none 2 := ⟨⟨inT mt_1 2 (by decide +kernel) rfl, inT mt_4 183 rfl rfl, ⟨by decide +kernel, by decide +kernel⟩, by decide +kernel⟩, inT mt_4 181 (by decide +kernel) rfl, inT mt_4 182 (by decide +kernel) rfl⟩
theorem kcX6_58 : Cond.constant RX6 58 (2771273) ∈ TBL := inT mt_4 184 (by decide +kernel) rfl
theorem mlX6_59 : ML RX6 59 yX6_putNumber := Or.inl (inT mt_4 185 (by decide +kernel) rfl)
set_option maxRecDepth 100000 in
theorem mcX6_putNumber : MCv yX6_putNumber cX6_putNumber 4 none 2 := ⟨⟨inT mt_1 2 (by decide +kernel) rfl, inT mt_4 188 rfl rfl, ⟨by decide +kernel, by decide +kernel⟩, by decide +kernel⟩, inT mt_4 187 (by decide +kernel) rfl, inT mt_0 9 (by decide +kernel) rfl⟩
theorem mlX6_83 : ML RX6 83 yX6_putByte := Or.inl (inT mt_4 189 (by decide +kernel) rfl)
set_option maxRecDepth 100000 in
theorem mcX6_putByte : MCv yX6_putByte cX6_putByte 2 none 1 := ⟨⟨inT mt_1 2 (by decide +kernel) rfl, inT mt_4 192 rfl rfl, ⟨by decide +kernel, by decide +kernel⟩, by decide +kernel⟩, inT mt_4 191 (by decide +kernel) rfl, inT mt_0 10 (by decide +kernel) rfl⟩
theorem mlX6_72 : ML RX6 72 yX6_nextPage := Or.inl (inT mt_4 193 (by decide +kernel) rfl)
theorem mlX6_76 : ML RX6 76 yX6_writeRow := Or.inl (inT mt_4 194 (by decide +kernel) rfl)
set_option maxRecDepth 100000 in
theorem mcX6_writeRow : MCv yX6_writeRow cX6_writeRow 15 none 3 := ⟨⟨inT mt_1 2 (by decide +kernel) rfl, inT mt_4 197 rfl rfl, ⟨by decide +kernel, by decide +kernel⟩, by decide +kernel⟩, inT mt_4 196 (by decide +kernel) rfl, inT mt_0 11 (by decide +kernel) rfl⟩
theorem mlX6_104 : ML RX6 104 yX11_firstOther := Or.inr ⟨"PrinterHouse", inN mt_4 198 (by decide +kernel) rfl⟩
set_option maxRecDepth 100000 in
theorem mcX11_firstOther : MCs yX11_firstOther cX11_firstOther 9 (some .int) 5 := ⟨⟨inT mt_1 1 (by decide +kernel) rfl, inT mt_4 200 rfl rfl, ⟨by decide +kernel, by decide +kernel⟩, by decide +kernel⟩, inT mt_4 199 (by decide +kernel) rfl⟩
theorem mlX11_153 : ML RX11 153 yX11_zerosAhead := Or.inl (inT mt_4 201 (by decide +kernel) rfl)
set_option maxRecDepth 100000 in
theorem mcX11_zerosAhead : MCs yX11_zerosAhead cX11_zerosAhead 2 (some .int) 1 := ⟨⟨inT mt_1 1 (by decide +kernel) rfl, inT mt_4 203 rfl rfl, ⟨by decide +kernel, by decide +kernel⟩, by decide +kernel⟩, inT mt_4 202 (by decide +kernel) rfl⟩
theorem mlX11_148 : ML RX11 148 yJ6_bitCount_0f7a4 := Or.inl (inT mt_4 204 (by decide +kernel) rfl)
set_option maxRecDepth 100000 in
theorem mcJ6_bitCount_0f7a4 : MCs yJ6_bitCount_0f7a4 cJ6_bitCount_0f7a4 1 (some .int) 1 := ⟨⟨inT mt_1 21 (by decide +kernel) rfl, inT mt_4 206 rfl rfl, ⟨by decide +kernel, by decide +kernel⟩, by decide +kernel⟩, inT mt_4 205 (by decide +kernel) rfl⟩
theorem kcJ6_265 : Cond.constant RJ6 265 (1431655765) ∈ TBL := inT mt_4 207 (by decide +kernel) rfl
theorem kcJ6_266 : Cond.constant RJ6 266 (858993459) ∈ TBL := inT mt_4 208 (by decide +kernel) rfl
theorem kcJ6_267 : Cond.constant RJ6 267 (252645135) ∈ TBL := inT mt_4 209 (by decide +kernel) rfl
theorem mlX11_156 : ML RX11 156 yJ9_min_7cf53 := Or.inl (inT mt_4 210 (by decide +kernel) rfl)
theorem mlX6_108 : ML RX6 108 yX11_firstChange := Or.inr ⟨"PrinterHouse", inN mt_4 211 (by decide +kernel) rfl⟩
set_option maxRecDepth 100000 in
theorem mcX11_firstChange : MCs yX11_firstChange cX11_firstChange 8 (some .int) 5 := ⟨⟨inT mt_1 1 (by decide +kernel) rfl, inT mt_4 213 rfl rfl, ⟨by decide +kernel, by decide +kernel⟩, by decide +kernel⟩, inT mt_4 212 (by decide +kernel) rfl⟩
theorem mlX11_131 : ML RX11 131 yX11_dotAt := Or.inl (inT mt_4 214 (by decide +kernel) rfl)
set_option maxRecDepth 100000 in
theorem mcX11_dotAt : MCs yX11_dotAt cX11_dotAt 4 (some .int) 3 := ⟨⟨inT mt_1 1 (by decide +kernel) rfl, inT mt_4 216 rfl rfl, ⟨by decide +kernel, by decide +kernel⟩, by decide +kernel⟩, inT mt_4 215 (by decide +kernel) rfl⟩
theorem mlX11_161 : ML RX11 161 yX11_firstOther := Or.inl (inT mt_4 217 (by decide +kernel) rfl)
theorem mlX6_80 : ML RX6 80 yX6_putBits := Or.inl (inT mt_4 218 (by decide +kernel) rfl)
set_option maxRecDepth 100000 in
theorem mcX6_putBits : MCv yX6_putBits cX6_putBits 3 none 2 := ⟨⟨inT mt_1 2 (by decide +kernel) rfl, inT mt_4 221 rfl rfl, ⟨by decide +kernel, by decide +kernel⟩, by decide +kernel⟩, inT mt_4 220 (by decide +kernel) rfl, inT mt_0 12 (by decide +kernel) rfl⟩
theorem gsX6_111 : Cond.fieldLinkNest RX6 111 "PrinterHouse" "NEAR_CODES" "[I" "PrinterHouse" ∈ NST := inN mt_4 222 (by decide +kernel) rfl
theorem gsX6_114 : Cond.fieldLinkNest RX6 114 "PrinterHouse" "NEAR_BITS" "[I" "PrinterHouse" ∈ NST := inN mt_4 224 (by decide +kernel) rfl
theorem mlX6_117 : ML RX6 117 yX6_putRun := Or.inl (inT mt_4 226 (by decide +kernel) rfl)
set_option maxRecDepth 100000 in
theorem mcX6_putRun : MCv yX6_putRun cX6_putRun 5 none 2 := ⟨⟨inT mt_1 2 (by decide +kernel) rfl, inT mt_4 229 rfl rfl, ⟨by decide +kernel, by decide +kernel⟩, by decide +kernel⟩, inT mt_4 228 (by decide +kernel) rfl, inT mt_0 13 (by decide +kernel) rfl⟩
theorem gsX6_98 : Cond.fieldLinkNest RX6 98 "PrinterHouse" "RUN_CODES" "[I" "PrinterHouse" ∈ NST := inN mt_4 230 (by decide +kernel) rfl
theorem gsX6_101 : Cond.fieldLinkNest RX6 101 "PrinterHouse" "RUN_BITS" "[I" "PrinterHouse" ∈ NST := inN mt_4 231 (by decide +kernel) rfl
theorem mlX6_87 : ML RX6 87 yX6_writeDirectory := Or.inl (inT mt_4 232 (by decide +kernel) rfl)
set_option maxRecDepth 100000 in
theorem mcX6_writeDirectory : MCv yX6_writeDirectory cX6_writeDirectory 6 none 4 := ⟨⟨inT mt_1 2 (by decide +kernel) rfl, inT mt_4 235 rfl rfl, ⟨by decide +kernel, by decide +kernel⟩, by decide +kernel⟩, inT mt_4 234 (by decide +kernel) rfl, inT mt_0 14 (by decide +kernel) rfl⟩
theorem mlX6_91 : ML RX6 91 yX6_setNumber := Or.inl (inT mt_4 236 (by decide +kernel) rfl)
set_option maxRecDepth 100000 in
theorem mcX6_setNumber : MCv yX6_setNumber cX6_setNumber 4 none 2 := ⟨⟨inT mt_1 2 (by decide +kernel) rfl, inT mt_4 239 rfl rfl, ⟨by decide +kernel, by decide +kernel⟩, by decide +kernel⟩, inT mt_4 238 (by decide +kernel) rfl, inT mt_0 15 (by decide +kernel) rfl⟩
theorem mlX6_94 : ML RX6 94 yX6_putEntry := Or.inl (inT mt_5 0 (by decide +kernel) rfl)
set_option maxRecDepth 100000 in
theorem mcX6_putEntry : MCv yX6_putEntry cX6_putEntry 4 none 3 := ⟨⟨inT mt_1 2 (by decide +kernel) rfl, inT mt_5 3 rfl rfl, ⟨by decide +kernel, by decide +kernel⟩, by decide +kernel⟩, inT mt_5 2 (by decide +kernel) rfl, inT mt_0 16 (by decide +kernel) rfl⟩
theorem mlX9_289 : ML RX9 289 yX7_homeY := Or.inl (inT mt_5 4 (by decide +kernel) rfl)
theorem mlX9_286 : ML RX9 286 yX7_moveY := Or.inl (inT mt_5 5 (by decide +kernel) rfl)
theorem mlX9_256 : ML RX9 256 yX9_endWithReturn := Or.inl (inT mt_5 6 (by decide +kernel) rfl)
set_option maxRecDepth 100000 in
theorem mcX9_endWithReturn : MCv yX9_endWithReturn cX9_endWithReturn 1 none 0 := ⟨⟨inT mt_1 3 (by decide +kernel) rfl, inT mt_5 9 rfl rfl, ⟨by decide +kernel, by decide +kernel⟩, by decide +kernel⟩, inT mt_5 8 (by decide +kernel) rfl, inT mt_0 17 (by decide +kernel) rfl⟩
theorem mlX9_262 : ML RX9 262 yX9_carriageReturn := Or.inl (inT mt_5 10 (by decide +kernel) rfl)
set_option maxRecDepth 100000 in
theorem mcX9_carriageReturn : MCv yX9_carriageReturn cX9_carriageReturn 1 none 0 := ⟨⟨inT mt_1 3 (by decide +kernel) rfl, inT mt_5 13 rfl rfl, ⟨by decide +kernel, by decide +kernel⟩, by decide +kernel⟩, inT mt_5 12 (by decide +kernel) rfl, inT mt_0 18 (by decide +kernel) rfl⟩
theorem mlX9_271 : ML RX9 271 yX9_followPitch := Or.inl (inT mt_5 14 (by decide +kernel) rfl)
set_option maxRecDepth 100000 in
theorem mcX9_followPitch : MCv yX9_followPitch cX9_followPitch 1 none 0 := ⟨⟨inT mt_1 3 (by decide +kernel) rfl, inT mt_5 17 rfl rfl, ⟨by decide +kernel, by decide +kernel⟩, by decide +kernel⟩, inT mt_5 16 (by decide +kernel) rfl, inT mt_0 19 (by decide +kernel) rfl⟩
theorem mlX9_159 : ML RX9 159 yX1_wishes := Or.inl (inT mt_5 18 (by decide +kernel) rfl)
set_option maxRecDepth 100000 in
theorem mcX1_wishes : MCv yX1_wishes cX1_wishes 1 (some (.array .int)) 0 := ⟨⟨inT mt_1 10 (by decide +kernel) rfl, inT mt_5 21 rfl rfl, ⟨by decide +kernel, by decide +kernel⟩, by decide +kernel⟩, inT mt_5 19 (by decide +kernel) rfl, inT mt_5 20 (by decide +kernel) rfl⟩
theorem mlX9_163 : ML RX9 163 yX2_inUse := Or.inl (inT mt_5 22 (by decide +kernel) rfl)
set_option maxRecDepth 100000 in
theorem mcX2_inUse : MCv yX2_inUse cX2_inUse 4 (some .int) 1 := ⟨⟨inT mt_1 6 (by decide +kernel) rfl, inT mt_5 25 rfl rfl, ⟨by decide +kernel, by decide +kernel⟩, by decide +kernel⟩, inT mt_5 23 (by decide +kernel) rfl, inT mt_5 24 (by decide +kernel) rfl⟩
theorem mlX2_62 : ML RX2 62 yX2_has := Or.inl (inT mt_5 26 (by decide +kernel) rfl)
set_option maxRecDepth 100000 in
theorem mcX2_has : MCv yX2_has cX2_has 2 (some .boolean) 1 := ⟨⟨inT mt_1 6 (by decide +kernel) rfl, inT mt_5 29 rfl rfl, ⟨by decide +kernel, by decide +kernel⟩, by decide +kernel⟩, inT mt_5 27 (by decide +kernel) rfl, inT mt_5 28 (by decide +kernel) rfl⟩
theorem mlX2_58 : ML RX2 58 yX8_has := Or.inl (inT mt_5 30 (by decide +kernel) rfl)
theorem mlX2_106 : ML RX2 106 yX2_choose := Or.inl (inT mt_5 31 (by decide +kernel) rfl)
set_option maxRecDepth 100000 in
theorem mcX2_choose : MCv yX2_choose cX2_choose 3 (some .int) 0 := ⟨⟨inT mt_1 6 (by decide +kernel) rfl, inT mt_5 34 rfl rfl, ⟨by decide +kernel, by decide +kernel⟩, by decide +kernel⟩, inT mt_5 33 (by decide +kernel) rfl, inT mt_0 20 (by decide +kernel) rfl⟩
theorem kcX2_113 : Cond.constant RX2 113 (65536) ∈ TBL := inT mt_5 35 (by decide +kernel) rfl
theorem mlX2_114 : ML RX2 114 yX2_alike := Or.inl (inT mt_5 36 (by decide +kernel) rfl)
set_option maxRecDepth 100000 in
theorem mcX2_alike : MCv yX2_alike cX2_alike 8 (some .int) 3 := ⟨⟨inT mt_1 6 (by decide +kernel) rfl, inT mt_5 39 rfl rfl, ⟨by decide +kernel, by decide +kernel⟩, by decide +kernel⟩, inT mt_5 38 (by decide +kernel) rfl, inT mt_0 21 (by decide +kernel) rfl⟩
theorem mlX2_118 : ML RX2 118 yX2_nearest := Or.inl (inT mt_5 40 (by decide +kernel) rfl)
set_option maxRecDepth 100000 in
theorem mcX2_nearest : MCv yX2_nearest cX2_nearest 10 (some .int) 2 := ⟨⟨inT mt_1 6 (by decide +kernel) rfl, inT mt_5 43 rfl rfl, ⟨by decide +kernel, by decide +kernel⟩, by decide +kernel⟩, inT mt_5 42 (by decide +kernel) rfl, inT mt_0 22 (by decide +kernel) rfl⟩
theorem mlX2_124 : ML RX2 124 yJ9_abs_0f7a4 := Or.inl (inT mt_5 44 (by decide +kernel) rfl)
set_option maxRecDepth 100000 in
theorem mcJ9_abs_0f7a4 : MCs yJ9_abs_0f7a4 cJ9_abs_0f7a4 1 (some .int) 1 := ⟨⟨inT mt_1 20 (by decide +kernel) rfl, inT mt_5 46 rfl rfl, ⟨by decide +kernel, by decide +kernel⟩, by decide +kernel⟩, inT mt_5 45 (by decide +kernel) rfl⟩
theorem mlX2_121 : ML RX2 121 yX11_zerosAhead := Or.inr ⟨"PrinterHouse", inN mt_5 47 (by decide +kernel) rfl⟩
theorem mlX9_292 : ML RX9 292 yX2_number := Or.inl (inT mt_5 48 (by decide +kernel) rfl)
set_option maxRecDepth 100000 in
theorem mcX2_number : MCv yX2_number cX2_number 4 (some .int) 2 := ⟨⟨inT mt_1 6 (by decide +kernel) rfl, inT mt_5 51 rfl rfl, ⟨by decide +kernel, by decide +kernel⟩, by decide +kernel⟩, inT mt_5 49 (by decide +kernel) rfl, inT mt_5 50 (by decide +kernel) rfl⟩
theorem mlX9_274 : ML RX9 274 yX9_beginSequence := Or.inl (inT mt_5 52 (by decide +kernel) rfl)
set_option maxRecDepth 100000 in
theorem mcX9_beginSequence : MCv yX9_beginSequence cX9_beginSequence 3 none 0 := ⟨⟨inT mt_1 3 (by decide +kernel) rfl, inT mt_5 55 rfl rfl, ⟨by decide +kernel, by decide +kernel⟩, by decide +kernel⟩, inT mt_5 54 (by decide +kernel) rfl, inT mt_0 23 (by decide +kernel) rfl⟩
theorem mlX9_296 : ML RX9 296 yX9_twoBytes := Or.inl (inT mt_5 56 (by decide +kernel) rfl)
set_option maxRecDepth 100000 in
theorem mcX9_twoBytes : MCv yX9_twoBytes cX9_twoBytes 2 none 1 := ⟨⟨inT mt_1 3 (by decide +kernel) rfl, inT mt_5 59 rfl rfl, ⟨by decide +kernel, by decide +kernel⟩, by decide +kernel⟩, inT mt_5 58 (by decide +kernel) rfl, inT mt_0 24 (by decide +kernel) rfl⟩
theorem mlX9_124 : ML RX9 124 yX9_reset := Or.inl (inT mt_5 60 (by decide +kernel) rfl)
set_option maxRecDepth 100000 in
theorem mcX9_reset : MCv yX9_reset cX9_reset 1 none 0 := ⟨⟨inT mt_1 3 (by decide +kernel) rfl, inT mt_5 63 rfl rfl, ⟨by decide +kernel, by decide +kernel⟩, by decide +kernel⟩, inT mt_5 62 (by decide +kernel) rfl, inT mt_0 25 (by decide +kernel) rfl⟩
theorem mlX9_308 : ML RX9 308 yX9_dropTemporary := Or.inl (inT mt_5 64 (by decide +kernel) rfl)
set_option maxRecDepth 100000 in
theorem mcX9_dropTemporary : MCv yX9_dropTemporary cX9_dropTemporary 1 none 0 := ⟨⟨inT mt_1 3 (by decide +kernel) rfl, inT mt_5 67 rfl rfl, ⟨by decide +kernel, by decide +kernel⟩, by decide +kernel⟩, inT mt_5 65 (by decide +kernel) rfl, inT mt_5 66 (by decide +kernel) rfl⟩
theorem mlX9_196 : ML RX9 196 yX2_removeMany := Or.inl (inT mt_5 68 (by decide +kernel) rfl)
set_option maxRecDepth 100000 in
theorem mcX2_removeMany : MCv yX2_removeMany cX2_removeMany 3 none 1 := ⟨⟨inT mt_1 6 (by decide +kernel) rfl, inT mt_5 71 rfl rfl, ⟨by decide +kernel, by decide +kernel⟩, by decide +kernel⟩, inT mt_5 69 (by decide +kernel) rfl, inT mt_5 70 (by decide +kernel) rfl⟩
theorem mlX2_103 : ML RX2 103 yX8_isTemporary := Or.inl (inT mt_5 72 (by decide +kernel) rfl)
set_option maxRecDepth 100000 in
theorem mcX8_isTemporary : MCv yX8_isTemporary cX8_isTemporary 2 (some .boolean) 1 := ⟨⟨inT mt_1 7 (by decide +kernel) rfl, inT mt_5 75 rfl rfl, ⟨by decide +kernel, by decide +kernel⟩, by decide +kernel⟩, inT mt_5 73 (by decide +kernel) rfl, inT mt_5 74 (by decide +kernel) rfl⟩
theorem mlX8_13 : ML RX8 13 yX8_has := Or.inl (inT mt_5 76 (by decide +kernel) rfl)
theorem mlX2_73 : ML RX2 73 yX2_remove := Or.inl (inT mt_5 77 (by decide +kernel) rfl)
set_option maxRecDepth 100000 in
theorem mcX2_remove : MCv yX2_remove cX2_remove 3 none 1 := ⟨⟨inT mt_1 6 (by decide +kernel) rfl, inT mt_5 80 rfl rfl, ⟨by decide +kernel, by decide +kernel⟩, by decide +kernel⟩, inT mt_5 78 (by decide +kernel) rfl, inT mt_5 79 (by decide +kernel) rfl⟩
theorem mlX2_98 : ML RX2 98 yX2_removeGlyph := Or.inl (inT mt_5 81 (by decide +kernel) rfl)
set_option maxRecDepth 100000 in
theorem mcX2_removeGlyph : MCv yX2_removeGlyph cX2_removeGlyph 5 none 2 := ⟨⟨inT mt_1 6 (by decide +kernel) rfl, inT mt_5 84 rfl rfl, ⟨by decide +kernel, by decide +kernel⟩, by decide +kernel⟩, inT mt_5 82 (by decide +kernel) rfl, inT mt_5 83 (by decide +kernel) rfl⟩
theorem mlX2_102 : ML RX2 102 yX8_remove := Or.inl (inT mt_5 85 (by decide +kernel) rfl)
set_option maxRecDepth 100000 in
theorem mcX8_remove : MCv yX8_remove cX8_remove 2 none 1 := ⟨⟨inT mt_1 7 (by decide +kernel) rfl, inT mt_5 88 rfl rfl, ⟨by decide +kernel, by decide +kernel⟩, by decide +kernel⟩, inT mt_5 86 (by decide +kernel) rfl, inT mt_5 87 (by decide +kernel) rfl⟩
theorem mlX9_200 : ML RX9 200 yX8_removeMany := Or.inl (inT mt_5 89 (by decide +kernel) rfl)
set_option maxRecDepth 100000 in
theorem mcX8_removeMany : MCv yX8_removeMany cX8_removeMany 3 none 1 := ⟨⟨inT mt_1 7 (by decide +kernel) rfl, inT mt_5 92 rfl rfl, ⟨by decide +kernel, by decide +kernel⟩, by decide +kernel⟩, inT mt_5 90 (by decide +kernel) rfl, inT mt_5 91 (by decide +kernel) rfl⟩
theorem mlX9_302 : ML RX9 302 yX7_clearMargins := Or.inl (inT mt_5 93 (by decide +kernel) rfl)
theorem mlX9_305 : ML RX9 305 yX9_showAll := Or.inl (inT mt_5 94 (by decide +kernel) rfl)
set_option maxRecDepth 100000 in
theorem mcX9_showAll : MCv yX9_showAll cX9_showAll 5 none 0 := ⟨⟨inT mt_1 3 (by decide +kernel) rfl, inT mt_5 97 rfl rfl, ⟨by decide +kernel, by decide +kernel⟩, by decide +kernel⟩, inT mt_5 96 (by decide +kernel) rfl, inT mt_0 26 (by decide +kernel) rfl⟩
theorem mlX9_311 : ML RX9 311 yX5_byteAt := Or.inl (inT mt_5 98 (by decide +kernel) rfl)
theorem mlX9_315 : ML RX9 315 yX9_passEach := Or.inl (inT mt_5 99 (by decide +kernel) rfl)
set_option maxRecDepth 100000 in
theorem mcX9_passEach : MCv yX9_passEach cX9_passEach 4 (some .boolean) 1 := ⟨⟨inT mt_1 3 (by decide +kernel) rfl, inT mt_5 102 rfl rfl, ⟨by decide +kernel, by decide +kernel⟩, by decide +kernel⟩, inT mt_5 101 (by decide +kernel) rfl, inT mt_0 27 (by decide +kernel) rfl⟩
theorem mlX9_277 : ML RX9 277 yX9_show := Or.inl (inT mt_5 103 (by decide +kernel) rfl)
set_option maxRecDepth 100000 in
theorem mcX9_show : MCv yX9_show cX9_show 6 none 1 := ⟨⟨inT mt_1 3 (by decide +kernel) rfl, inT mt_5 106 rfl rfl, ⟨by decide +kernel, by decide +kernel⟩, by decide +kernel⟩, inT mt_5 105 (by decide +kernel) rfl, inT mt_0 28 (by decide +kernel) rfl⟩
theorem mlX9_527 : ML RX9 527 yX2_glyphOf := Or.inl (inT mt_5 107 (by decide +kernel) rfl)
set_option maxRecDepth 100000 in
theorem mcX2_glyphOf : MCv yX2_glyphOf cX2_glyphOf 4 (some .int) 2 := ⟨⟨inT mt_1 6 (by decide +kernel) rfl, inT mt_5 110 rfl rfl, ⟨by decide +kernel, by decide +kernel⟩, by decide +kernel⟩, inT mt_5 108 (by decide +kernel) rfl, inT mt_5 109 (by decide +kernel) rfl⟩
theorem mlX9_530 : ML RX9 530 yX9_advance := Or.inl (inT mt_5 111 (by decide +kernel) rfl)
set_option maxRecDepth 100000 in
theorem mcX9_advance : MCv yX9_advance cX9_advance 4 (some .int) 2 := ⟨⟨inT mt_1 3 (by decide +kernel) rfl, inT mt_5 114 rfl rfl, ⟨by decide +kernel, by decide +kernel⟩, by decide +kernel⟩, inT mt_5 113 (by decide +kernel) rfl, inT mt_0 29 (by decide +kernel) rfl⟩
theorem mlX9_524 : ML RX9 524 yX2_head := Or.inl (inT mt_5 115 (by decide +kernel) rfl)
set_option maxRecDepth 100000 in
theorem mcX2_head : MCv yX2_head cX2_head 4 (some .int) 2 := ⟨⟨inT mt_1 6 (by decide +kernel) rfl, inT mt_5 118 rfl rfl, ⟨by decide +kernel, by decide +kernel⟩, by decide +kernel⟩, inT mt_5 116 (by decide +kernel) rfl, inT mt_5 117 (by decide +kernel) rfl⟩
theorem mlX9_533 : ML RX9 533 yX7_across := Or.inl (inT mt_5 119 (by decide +kernel) rfl)
theorem mlX9_536 : ML RX9 536 yX9_markGlyph := Or.inl (inT mt_5 120 (by decide +kernel) rfl)
set_option maxRecDepth 100000 in
theorem mcX9_markGlyph : MCv yX9_markGlyph cX9_markGlyph 7 none 1 := ⟨⟨inT mt_1 3 (by decide +kernel) rfl, inT mt_5 123 rfl rfl, ⟨by decide +kernel, by decide +kernel⟩, by decide +kernel⟩, inT mt_5 122 (by decide +kernel) rfl, inT mt_0 30 (by decide +kernel) rfl⟩
theorem mlX9_542 : ML RX9 542 yX0_ink := Or.inl (inT mt_5 124 (by decide +kernel) rfl)
set_option maxRecDepth 100000 in
theorem mcX0_ink : MCv yX0_ink cX0_ink 3 none 2 := ⟨⟨inT mt_1 4 (by decide +kernel) rfl, inT mt_5 127 rfl rfl, ⟨by decide +kernel, by decide +kernel⟩, by decide +kernel⟩, inT mt_5 125 (by decide +kernel) rfl, inT mt_5 126 (by decide +kernel) rfl⟩
theorem mlX9_546 : ML RX9 546 yX0_mark := Or.inl (inT mt_5 128 (by decide +kernel) rfl)
set_option maxRecDepth 100000 in
theorem mcX0_mark : MCv yX0_mark cX0_mark 7 (some .boolean) 5 := ⟨⟨inT mt_1 4 (by decide +kernel) rfl, inT mt_5 131 rfl rfl, ⟨by decide +kernel, by decide +kernel⟩, by decide +kernel⟩, inT mt_5 129 (by decide +kernel) rfl, inT mt_5 130 (by decide +kernel) rfl⟩
theorem mlX0_77 : ML RX0 77 yJ9_max_7cf53 := Or.inl (inT mt_5 132 (by decide +kernel) rfl)
theorem kcX0_107 : Cond.constant RX0 107 (5000000) ∈ TBL := inT mt_5 133 (by decide +kernel) rfl
theorem mlX9_555 : ML RX9 555 yX2_rowOf := Or.inl (inT mt_5 134 (by decide +kernel) rfl)
set_option maxRecDepth 100000 in
theorem mcX2_rowOf : MCv yX2_rowOf cX2_rowOf 4 (some .int) 2 := ⟨⟨inT mt_1 6 (by decide +kernel) rfl, inT mt_5 137 rfl rfl, ⟨by decide +kernel, by decide +kernel⟩, by decide +kernel⟩, inT mt_5 135 (by decide +kernel) rfl, inT mt_5 136 (by decide +kernel) rfl⟩
theorem mlX9_558 : ML RX9 558 yX0_layWord := Or.inl (inT mt_5 138 (by decide +kernel) rfl)
set_option maxRecDepth 100000 in
theorem mcX0_layWord : MCv yX0_layWord cX0_layWord 5 none 2 := ⟨⟨inT mt_1 4 (by decide +kernel) rfl, inT mt_5 141 rfl rfl, ⟨by decide +kernel, by decide +kernel⟩, by decide +kernel⟩, inT mt_5 139 (by decide +kernel) rfl, inT mt_5 140 (by decide +kernel) rfl⟩
theorem mlX0_108 : ML RX0 108 yJ9_floorDiv_7cf53 := Or.inl (inT mt_5 142 (by decide +kernel) rfl)
set_option maxRecDepth 100000 in
theorem mcJ9_floorDiv_7cf53 : MCs yJ9_floorDiv_7cf53 cJ9_floorDiv_7cf53 3 (some .int) 2 := ⟨⟨inT mt_1 20 (by decide +kernel) rfl, inT mt_5 144 rfl rfl, ⟨by decide +kernel, by decide +kernel⟩, by decide +kernel⟩, inT mt_5 143 (by decide +kernel) rfl⟩
theorem mlX0_111 : ML RX0 111 yJ9_floorMod_7cf53 := Or.inl (inT mt_5 145 (by decide +kernel) rfl)
set_option maxRecDepth 100000 in
theorem mcJ9_floorMod_7cf53 : MCs yJ9_floorMod_7cf53 cJ9_floorMod_7cf53 3 (some .int) 2 := ⟨⟨inT mt_1 20 (by decide +kernel) rfl, inT mt_5 147 rfl rfl, ⟨by decide +kernel, by decide +kernel⟩, by decide +kernel⟩, inT mt_5 146 (by decide +kernel) rfl⟩
theorem mlX9_561 : ML RX9 561 yX0_paintRow := Or.inl (inT mt_5 148 (by decide +kernel) rfl)
set_option maxRecDepth 100000 in
theorem mcX0_paintRow : MCv yX0_paintRow cX0_paintRow 14 none 1 := ⟨⟨inT mt_1 4 (by decide +kernel) rfl, inT mt_5 151 rfl rfl, ⟨by decide +kernel, by decide +kernel⟩, by decide +kernel⟩, inT mt_5 149 (by decide +kernel) rfl, inT mt_5 150 (by decide +kernel) rfl⟩
theorem mlX0_136 : ML RX0 136 yX10_rowAt := Or.inl (inT mt_5 152 (by decide +kernel) rfl)
set_option maxRecDepth 100000 in
theorem mcX10_rowAt : MCv yX10_rowAt cX10_rowAt 3 (some .long) 1 := ⟨⟨inT mt_1 5 (by decide +kernel) rfl, inT mt_5 155 rfl rfl, ⟨by decide +kernel, by decide +kernel⟩, by decide +kernel⟩, inT mt_5 153 (by decide +kernel) rfl, inT mt_5 154 (by decide +kernel) rfl⟩
theorem mlX10_54 : ML RX10 54 yJ9_floorMod_7cf53 := Or.inl (inT mt_5 156 (by decide +kernel) rfl)
theorem mlX0_140 : ML RX0 140 yX11_maskOf := Or.inr ⟨"PrinterHouse", inN mt_5 157 (by decide +kernel) rfl⟩
set_option maxRecDepth 100000 in
theorem mcX11_maskOf : MCs yX11_maskOf cX11_maskOf 5 (some .int) 3 := ⟨⟨inT mt_1 1 (by decide +kernel) rfl, inT mt_5 159 rfl rfl, ⟨by decide +kernel, by decide +kernel⟩, by decide +kernel⟩, inT mt_5 158 (by decide +kernel) rfl⟩
theorem mlX11_165 : ML RX11 165 yJ9_max_7cf53 := Or.inl (inT mt_5 160 (by decide +kernel) rfl)
theorem mlX0_144 : ML RX0 144 yX10_dotsFrom := Or.inl (inT mt_5 161 (by decide +kernel) rfl)
set_option maxRecDepth 100000 in
theorem mcX10_dotsFrom : MCv yX10_dotsFrom cX10_dotsFrom 4 (some .int) 2 := ⟨⟨inT mt_1 5 (by decide +kernel) rfl, inT mt_5 164 rfl rfl, ⟨by decide +kernel, by decide +kernel⟩, by decide +kernel⟩, inT mt_5 162 (by decide +kernel) rfl, inT mt_5 163 (by decide +kernel) rfl⟩
theorem mlX9_224 : ML RX9 224 yX9_readField := Or.inl (inT mt_5 165 (by decide +kernel) rfl)
set_option maxRecDepth 100000 in
theorem mcX9_readField : MCv yX9_readField cX9_readField 5 (some .boolean) 0 := ⟨⟨inT mt_1 3 (by decide +kernel) rfl, inT mt_5 168 rfl rfl, ⟨by decide +kernel, by decide +kernel⟩, by decide +kernel⟩, inT mt_5 167 (by decide +kernel) rfl, inT mt_0 31 (by decide +kernel) rfl⟩
theorem mlX9_324 : ML RX9 324 yX5_readValue := Or.inl (inT mt_5 169 (by decide +kernel) rfl)
set_option maxRecDepth 100000 in
theorem mcX5_readValue : MCv yX5_readValue cX5_readValue 4 (some .int) 0 := ⟨⟨inT mt_1 13 (by decide +kernel) rfl, inT mt_5 172 rfl rfl, ⟨by decide +kernel, by decide +kernel⟩, by decide +kernel⟩, inT mt_5 170 (by decide +kernel) rfl, inT mt_5 171 (by decide +kernel) rfl⟩
theorem mlX5_51 : ML RX5 51 yX5_isDigit := Or.inl (inT mt_5 173 (by decide +kernel) rfl)
set_option maxRecDepth 100000 in
theorem mcX5_isDigit : MCv yX5_isDigit cX5_isDigit 3 (some .boolean) 1 := ⟨⟨inT mt_1 13 (by decide +kernel) rfl, inT mt_5 176 rfl rfl, ⟨by decide +kernel, by decide +kernel⟩, by decide +kernel⟩, inT mt_5 175 (by decide +kernel) rfl, inT mt_0 32 (by decide +kernel) rfl⟩
theorem mlX9_333 : ML RX9 333 yX5_n := Or.inl (inT mt_5 177 (by decide +kernel) rfl)
set_option maxRecDepth 100000 in
theorem mcX5_n : MCv yX5_n cX5_n 1 (some .int) 0 := ⟨⟨inT mt_1 13 (by decide +kernel) rfl, inT mt_5 180 rfl rfl, ⟨by decide +kernel, by decide +kernel⟩, by decide +kernel⟩, inT mt_5 178 (by decide +kernel) rfl, inT mt_5 179 (by decide +kernel) rfl⟩
theorem mlX9_339 : ML RX9 339 yJ9_min_7cf53 := Or.inl (inT mt_5 181 (by decide +kernel) rfl)
theorem mlX9_344 : ML RX9 344 yJ9_max_7cf53 := Or.inl (inT mt_5 182 (by decide +kernel) rfl)
theorem mlX9_227 : ML RX9 227 yX9_obey := Or.inl (inT mt_5 183 (by decide +kernel) rfl)
set_option maxRecDepth 100000 in
theorem mcX9_obey : MCv yX9_obey cX9_obey 1 none 0 := ⟨⟨inT mt_1 3 (by decide +kernel) rfl, inT mt_5 186 rfl rfl, ⟨by decide +kernel, by decide +kernel⟩, by decide +kernel⟩, inT mt_5 185 (by decide +kernel) rfl, inT mt_0 33 (by decide +kernel) rfl⟩
theorem mlX9_347 : ML RX9 347 yX9_pageField := Or.inl (inT mt_5 187 (by decide +kernel) rfl)
set_option maxRecDepth 100000 in
theorem mcX9_pageField : MCv yX9_pageField cX9_pageField 3 none 1 := ⟨⟨inT mt_1 3 (by decide +kernel) rfl, inT mt_5 190 rfl rfl, ⟨by decide +kernel, by decide +kernel⟩, by decide +kernel⟩, inT mt_5 189 (by decide +kernel) rfl, inT mt_0 34 (by decide +kernel) rfl⟩
theorem gsX9_413 : Cond.fieldLinkNest RX9 413 "PrinterHouse" "FORMAT_WIDE" "[I" "PrinterHouse" ∈ NST := inN mt_5 191 (by decide +kernel) rfl
theorem mlX9_416 : ML RX9 416 yX7_turn := Or.inl (inT mt_5 192 (by decide +kernel) rfl)
theorem mlX9_422 : ML RX9 422 yX9_spacing := Or.inl (inT mt_5 193 (by decide +kernel) rfl)
set_option maxRecDepth 100000 in
theorem mcX9_spacing : MCv yX9_spacing cX9_spacing 5 (some .int) 2 := ⟨⟨inT mt_1 3 (by decide +kernel) rfl, inT mt_5 196 rfl rfl, ⟨by decide +kernel, by decide +kernel⟩, by decide +kernel⟩, inT mt_5 195 (by decide +kernel) rfl, inT mt_0 35 (by decide +kernel) rfl⟩
theorem mlX9_431 : ML RX9 431 yX5_units := Or.inl (inT mt_5 197 (by decide +kernel) rfl)
set_option maxRecDepth 100000 in
theorem mcX5_units : MCv yX5_units cX5_units 2 (some .long) 1 := ⟨⟨inT mt_1 13 (by decide +kernel) rfl, inT mt_5 200 rfl rfl, ⟨by decide +kernel, by decide +kernel⟩, by decide +kernel⟩, inT mt_5 198 (by decide +kernel) rfl, inT mt_5 199 (by decide +kernel) rfl⟩
theorem mlX5_57 : ML RX5 57 yX5_exact := Or.inl (inT mt_5 201 (by decide +kernel) rfl)
set_option maxRecDepth 100000 in
theorem mcX5_exact : MCv yX5_exact cX5_exact 3 (some .long) 0 := ⟨⟨inT mt_1 13 (by decide +kernel) rfl, inT mt_5 204 rfl rfl, ⟨by decide +kernel, by decide +kernel⟩, by decide +kernel⟩, inT mt_5 202 (by decide +kernel) rfl, inT mt_5 203 (by decide +kernel) rfl⟩
theorem kcX5_55 : Cond.constantLong RX5 55 (10000) ∈ TBL := inT mt_5 205 (by decide +kernel) rfl
theorem kcX9_435 : Cond.constantLong RX9 435 (32000) ∈ TBL := inT mt_5 206 (by decide +kernel) rfl
theorem mlX9_425 : ML RX9 425 yX7_topMargin := Or.inl (inT mt_5 207 (by decide +kernel) rfl)
set_option maxRecDepth 100000 in
theorem mcX7_topMargin : MCv yX7_topMargin cX7_topMargin 2 none 1 := ⟨⟨inT mt_1 11 (by decide +kernel) rfl, inT mt_5 210 rfl rfl, ⟨by decide +kernel, by decide +kernel⟩, by decide +kernel⟩, inT mt_5 208 (by decide +kernel) rfl, inT mt_5 209 (by decide +kernel) rfl⟩
theorem mlX9_428 : ML RX9 428 yX7_bottomMargin := Or.inl (inT mt_5 211 (by decide +kernel) rfl)
set_option maxRecDepth 100000 in
theorem mcX7_bottomMargin : MCv yX7_bottomMargin cX7_bottomMargin 3 none 1 := ⟨⟨inT mt_1 11 (by decide +kernel) rfl, inT mt_5 214 rfl rfl, ⟨by decide +kernel, by decide +kernel⟩, by decide +kernel⟩, inT mt_5 212 (by decide +kernel) rfl, inT mt_5 213 (by decide +kernel) rfl⟩
theorem mlX9_350 : ML RX9 350 yX9_placeField := Or.inl (inT mt_5 215 (by decide +kernel) rfl)
set_option maxRecDepth 100000 in
theorem mcX9_placeField : MCv yX9_placeField cX9_placeField 3 none 1 := ⟨⟨inT mt_1 3 (by decide +kernel) rfl, inT mt_5 218 rfl rfl, ⟨by decide +kernel, by decide +kernel⟩, by decide +kernel⟩, inT mt_5 217 (by decide +kernel) rfl, inT mt_0 36 (by decide +kernel) rfl⟩
theorem mlX9_437 : ML RX9 437 yX9_moveAcross := Or.inl (inT mt_5 219 (by decide +kernel) rfl)
set_option maxRecDepth 100000 in
theorem mcX9_moveAcross : MCv yX9_moveAcross cX9_moveAcross 3 none 1 := ⟨⟨inT mt_1 3 (by decide +kernel) rfl, inT mt_5 222 rfl rfl, ⟨by decide +kernel, by decide +kernel⟩, by decide +kernel⟩, inT mt_5 221 (by decide +kernel) rfl, inT mt_0 37 (by decide +kernel) rfl⟩
theorem mlX9_440 : ML RX9 440 yX9_moveDown := Or.inl (inT mt_5 223 (by decide +kernel) rfl)
set_option maxRecDepth 100000 in
theorem mcX9_moveDown : MCv yX9_moveDown cX9_moveDown 4 none 2 := ⟨⟨inT mt_1 3 (by decide +kernel) rfl, inT mt_5 226 rfl rfl, ⟨by decide +kernel, by decide +kernel⟩, by decide +kernel⟩, inT mt_5 225 (by decide +kernel) rfl, inT mt_0 38 (by decide +kernel) rfl⟩
theorem mlX9_444 : ML RX9 444 yX7_leftMargin := Or.inl (inT mt_5 227 (by decide +kernel) rfl)
set_option maxRecDepth 100000 in
theorem mcX7_leftMargin : MCv yX7_leftMargin cX7_leftMargin 2 none 1 := ⟨⟨inT mt_1 11 (by decide +kernel) rfl, inT mt_5 230 rfl rfl, ⟨by decide +kernel, by decide +kernel⟩, by decide +kernel⟩, inT mt_5 228 (by decide +kernel) rfl, inT mt_5 229 (by decide +kernel) rfl⟩
theorem mlX9_447 : ML RX9 447 yX7_rightMargin := Or.inl (inT mt_5 231 (by decide +kernel) rfl)
set_option maxRecDepth 100000 in
theorem mcX7_rightMargin : MCv yX7_rightMargin cX7_rightMargin 3 none 1 := ⟨⟨inT mt_1 11 (by decide +kernel) rfl, inT mt_5 234 rfl rfl, ⟨by decide +kernel, by decide +kernel⟩, by decide +kernel⟩, inT mt_5 232 (by decide +kernel) rfl, inT mt_5 233 (by decide +kernel) rfl⟩
theorem mlX9_353 : ML RX9 353 yX9_spaceField := Or.inl (inT mt_5 235 (by decide +kernel) rfl)
set_option maxRecDepth 100000 in
theorem mcX9_spaceField : MCv yX9_spaceField cX9_spaceField 2 none 1 := ⟨⟨inT mt_1 3 (by decide +kernel) rfl, inT mt_5 238 rfl rfl, ⟨by decide +kernel, by decide +kernel⟩, by decide +kernel⟩, inT mt_5 237 (by decide +kernel) rfl, inT mt_0 39 (by decide +kernel) rfl⟩
theorem mlX9_356 : ML RX9 356 yX9_wrapField := Or.inl (inT mt_5 239 (by decide +kernel) rfl)
set_option maxRecDepth 100000 in
theorem mcX9_wrapField : MCv yX9_wrapField cX9_wrapField 2 none 1 := ⟨⟨inT mt_1 3 (by decide +kernel) rfl, inT mt_6 2 rfl rfl, ⟨by decide +kernel, by decide +kernel⟩, by decide +kernel⟩, inT mt_6 1 (by decide +kernel) rfl, inT mt_0 40 (by decide +kernel) rfl⟩
theorem mlX9_359 : ML RX9 359 yX9_macroField := Or.inl (inT mt_6 3 (by decide +kernel) rfl)
set_option maxRecDepth 100000 in
theorem mcX9_macroField : MCv yX9_macroField cX9_macroField 2 none 1 := ⟨⟨inT mt_1 3 (by decide +kernel) rfl, inT mt_6 6 rfl rfl, ⟨by decide +kernel, by decide +kernel⟩, by decide +kernel⟩, inT mt_6 5 (by decide +kernel) rfl, inT mt_0 41 (by decide +kernel) rfl⟩
theorem mlX9_465 : ML RX9 465 yX7_keepPlace := Or.inl (inT mt_6 7 (by decide +kernel) rfl)
set_option maxRecDepth 100000 in
theorem mcX7_keepPlace : MCv yX7_keepPlace cX7_keepPlace 2 none 0 := ⟨⟨inT mt_1 11 (by decide +kernel) rfl, inT mt_6 10 rfl rfl, ⟨by decide +kernel, by decide +kernel⟩, by decide +kernel⟩, inT mt_6 8 (by decide +kernel) rfl, inT mt_6 9 (by decide +kernel) rfl⟩
theorem mlX9_468 : ML RX9 468 yX7_recallPlace := Or.inl (inT mt_6 11 (by decide +kernel) rfl)
set_option maxRecDepth 100000 in
theorem mcX7_recallPlace : MCv yX7_recallPlace cX7_recallPlace 2 none 0 := ⟨⟨inT mt_1 11 (by decide +kernel) rfl, inT mt_6 14 rfl rfl, ⟨by decide +kernel, by decide +kernel⟩, by decide +kernel⟩, inT mt_6 12 (by decide +kernel) rfl, inT mt_6 13 (by decide +kernel) rfl⟩
theorem mlX9_471 : ML RX9 471 yX9_macroTask := Or.inl (inT mt_6 15 (by decide +kernel) rfl)
set_option maxRecDepth 100000 in
theorem mcX9_macroTask : MCv yX9_macroTask cX9_macroTask 2 none 1 := ⟨⟨inT mt_1 3 (by decide +kernel) rfl, inT mt_6 18 rfl rfl, ⟨by decide +kernel, by decide +kernel⟩, by decide +kernel⟩, inT mt_6 17 (by decide +kernel) rfl, inT mt_0 42 (by decide +kernel) rfl⟩
theorem mlX9_474 : ML RX9 474 yX9_tellMacro := Or.inl (inT mt_6 19 (by decide +kernel) rfl)
set_option maxRecDepth 100000 in
theorem mcX9_tellMacro : MCv yX9_tellMacro cX9_tellMacro 6 none 1 := ⟨⟨inT mt_1 3 (by decide +kernel) rfl, inT mt_6 22 rfl rfl, ⟨by decide +kernel, by decide +kernel⟩, by decide +kernel⟩, inT mt_6 21 (by decide +kernel) rfl, inT mt_0 43 (by decide +kernel) rfl⟩
theorem mlX9_490 : ML RX9 490 yX9_isMacroEnd := Or.inl (inT mt_6 23 (by decide +kernel) rfl)
set_option maxRecDepth 100000 in
theorem mcX9_isMacroEnd : MCv yX9_isMacroEnd cX9_isMacroEnd 2 (some .boolean) 1 := ⟨⟨inT mt_1 3 (by decide +kernel) rfl, inT mt_6 26 rfl rfl, ⟨by decide +kernel, by decide +kernel⟩, by decide +kernel⟩, inT mt_6 25 (by decide +kernel) rfl, inT mt_0 44 (by decide +kernel) rfl⟩
theorem mlX9_496 : Cond.methodLink RX9 496 ⟨"java/lang/System", "arraycopy", "(Ljava/lang/Object;ILjava/lang/Object;II)V"⟩ ∈ TBL := inT mt_6 27 (by decide +kernel) rfl
theorem mlX9_502 : ML RX9 502 yX8_put := Or.inl (inT mt_6 28 (by decide +kernel) rfl)
set_option maxRecDepth 100000 in
theorem mcX8_put : MCv yX8_put cX8_put 2 none 1 := ⟨⟨inT mt_1 7 (by decide +kernel) rfl, inT mt_6 31 rfl rfl, ⟨by decide +kernel, by decide +kernel⟩, by decide +kernel⟩, inT mt_6 29 (by decide +kernel) rfl, inT mt_6 30 (by decide +kernel) rfl⟩
theorem mlX9_477 : ML RX9 477 yX9_callMacro := Or.inl (inT mt_6 32 (by decide +kernel) rfl)
set_option maxRecDepth 100000 in
theorem mcX9_callMacro : MCv yX9_callMacro cX9_callMacro 4 none 1 := ⟨⟨inT mt_1 3 (by decide +kernel) rfl, inT mt_6 35 rfl rfl, ⟨by decide +kernel, by decide +kernel⟩, by decide +kernel⟩, inT mt_6 34 (by decide +kernel) rfl, inT mt_0 45 (by decide +kernel) rfl⟩
theorem mlX9_483 : ML RX9 483 yX8_remove := Or.inl (inT mt_6 36 (by decide +kernel) rfl)
theorem mlX9_486 : ML RX9 486 yX8_mark := Or.inl (inT mt_6 37 (by decide +kernel) rfl)
set_option maxRecDepth 100000 in
theorem mcX8_mark : MCv yX8_mark cX8_mark 3 none 2 := ⟨⟨inT mt_1 7 (by decide +kernel) rfl, inT mt_6 40 rfl rfl, ⟨by decide +kernel, by decide +kernel⟩, by decide +kernel⟩, inT mt_6 38 (by decide +kernel) rfl, inT mt_6 39 (by decide +kernel) rfl⟩
theorem mlX9_362 : ML RX9 362 yX9_showData := Or.inl (inT mt_6 41 (by decide +kernel) rfl)
set_option maxRecDepth 100000 in
theorem mcX9_showData : MCv yX9_showData cX9_showData 3 none 0 := ⟨⟨inT mt_1 3 (by decide +kernel) rfl, inT mt_6 44 rfl rfl, ⟨by decide +kernel, by decide +kernel⟩, by decide +kernel⟩, inT mt_6 43 (by decide +kernel) rfl, inT mt_0 46 (by decide +kernel) rfl⟩
theorem mlX9_321 : ML RX9 321 yX5_dataByte := Or.inl (inT mt_6 45 (by decide +kernel) rfl)
set_option maxRecDepth 100000 in
theorem mcX5_dataByte : MCv yX5_dataByte cX5_dataByte 3 (some .int) 1 := ⟨⟨inT mt_1 13 (by decide +kernel) rfl, inT mt_6 48 rfl rfl, ⟨by decide +kernel, by decide +kernel⟩, by decide +kernel⟩, inT mt_6 46 (by decide +kernel) rfl, inT mt_6 47 (by decide +kernel) rfl⟩
theorem mlX9_365 : ML RX9 365 yX9_dotPlaceField := Or.inl (inT mt_6 49 (by decide +kernel) rfl)
set_option maxRecDepth 100000 in
theorem mcX9_dotPlaceField : MCv yX9_dotPlaceField cX9_dotPlaceField 1 none 0 := ⟨⟨inT mt_1 3 (by decide +kernel) rfl, inT mt_6 52 rfl rfl, ⟨by decide +kernel, by decide +kernel⟩, by decide +kernel⟩, inT mt_6 51 (by decide +kernel) rfl, inT mt_0 47 (by decide +kernel) rfl⟩
theorem mlX9_368 : ML RX9 368 yX9_controlField := Or.inl (inT mt_6 53 (by decide +kernel) rfl)
set_option maxRecDepth 100000 in
theorem mcX9_controlField : MCv yX9_controlField cX9_controlField 2 none 1 := ⟨⟨inT mt_1 3 (by decide +kernel) rfl, inT mt_6 56 rfl rfl, ⟨by decide +kernel, by decide +kernel⟩, by decide +kernel⟩, inT mt_6 55 (by decide +kernel) rfl, inT mt_0 48 (by decide +kernel) rfl⟩
theorem mlX9_584 : ML RX9 584 yX9_fontTask := Or.inl (inT mt_6 57 (by decide +kernel) rfl)
set_option maxRecDepth 100000 in
theorem mcX9_fontTask : MCv yX9_fontTask cX9_fontTask 2 none 1 := ⟨⟨inT mt_1 3 (by decide +kernel) rfl, inT mt_6 60 rfl rfl, ⟨by decide +kernel, by decide +kernel⟩, by decide +kernel⟩, inT mt_6 59 (by decide +kernel) rfl, inT mt_0 49 (by decide +kernel) rfl⟩
theorem mlX9_621 : ML RX9 621 yX2_remove := Or.inl (inT mt_6 61 (by decide +kernel) rfl)
theorem mlX9_622 : ML RX9 622 yX2_removeGlyph := Or.inl (inT mt_6 62 (by decide +kernel) rfl)
theorem mlX9_590 : ML RX9 590 yX9_tellTile := Or.inl (inT mt_6 63 (by decide +kernel) rfl)
set_option maxRecDepth 100000 in
theorem mcX9_tellTile : MCv yX9_tellTile cX9_tellTile 10 none 1 := ⟨⟨inT mt_1 3 (by decide +kernel) rfl, inT mt_6 66 rfl rfl, ⟨by decide +kernel, by decide +kernel⟩, by decide +kernel⟩, inT mt_6 65 (by decide +kernel) rfl, inT mt_0 50 (by decide +kernel) rfl⟩
theorem mlX9_625 : ML RX9 625 yX10_size := Or.inl (inT mt_6 67 (by decide +kernel) rfl)
theorem mlX9_628 : ML RX9 628 yX10_setRow := Or.inl (inT mt_6 68 (by decide +kernel) rfl)
theorem mlX9_593 : ML RX9 593 yX9_tileTask := Or.inl (inT mt_6 69 (by decide +kernel) rfl)
set_option maxRecDepth 100000 in
theorem mcX9_tileTask : MCv yX9_tileTask cX9_tileTask 2 none 1 := ⟨⟨inT mt_1 3 (by decide +kernel) rfl, inT mt_6 72 rfl rfl, ⟨by decide +kernel, by decide +kernel⟩, by decide +kernel⟩, inT mt_6 71 (by decide +kernel) rfl, inT mt_0 51 (by decide +kernel) rfl⟩
theorem mlX9_602 : ML RX9 602 yX9_boxSide := Or.inl (inT mt_6 73 (by decide +kernel) rfl)
set_option maxRecDepth 100000 in
theorem mcX9_boxSide : MCv yX9_boxSide cX9_boxSide 4 (some .int) 1 := ⟨⟨inT mt_1 3 (by decide +kernel) rfl, inT mt_6 76 rfl rfl, ⟨by decide +kernel, by decide +kernel⟩, by decide +kernel⟩, inT mt_6 75 (by decide +kernel) rfl, inT mt_0 52 (by decide +kernel) rfl⟩
theorem kcX9_608 : Cond.constantLong RX9 608 (96) ∈ TBL := inT mt_6 77 (by decide +kernel) rfl
theorem mlX9_605 : ML RX9 605 yX9_box := Or.inl (inT mt_6 78 (by decide +kernel) rfl)
set_option maxRecDepth 100000 in
theorem mcX9_box : MCv yX9_box cX9_box 5 none 1 := ⟨⟨inT mt_1 3 (by decide +kernel) rfl, inT mt_6 81 rfl rfl, ⟨by decide +kernel, by decide +kernel⟩, by decide +kernel⟩, inT mt_6 80 (by decide +kernel) rfl, inT mt_0 53 (by decide +kernel) rfl⟩
theorem mlX9_610 : ML RX9 610 yX9_setTile := Or.inl (inT mt_6 82 (by decide +kernel) rfl)
set_option maxRecDepth 100000 in
theorem mcX9_setTile : MCv yX9_setTile cX9_setTile 4 (some .boolean) 2 := ⟨⟨inT mt_1 3 (by decide +kernel) rfl, inT mt_6 85 rfl rfl, ⟨by decide +kernel, by decide +kernel⟩, by decide +kernel⟩, inT mt_6 84 (by decide +kernel) rfl, inT mt_0 54 (by decide +kernel) rfl⟩
theorem mlX9_631 : ML RX9 631 yX10_solid := Or.inl (inT mt_6 86 (by decide +kernel) rfl)
theorem mlX9_634 : ML RX9 634 yX10_white := Or.inl (inT mt_6 87 (by decide +kernel) rfl)
set_option maxRecDepth 100000 in
theorem mcX10_white : MCv yX10_white cX10_white 1 none 0 := ⟨⟨inT mt_1 5 (by decide +kernel) rfl, inT mt_6 90 rfl rfl, ⟨by decide +kernel, by decide +kernel⟩, by decide +kernel⟩, inT mt_6 88 (by decide +kernel) rfl, inT mt_6 89 (by decide +kernel) rfl⟩
theorem mlX9_637 : ML RX9 637 yX10_shade := Or.inl (inT mt_6 91 (by decide +kernel) rfl)
set_option maxRecDepth 100000 in
theorem mcX10_shade : MCv yX10_shade cX10_shade 6 none 1 := ⟨⟨inT mt_1 5 (by decide +kernel) rfl, inT mt_6 94 rfl rfl, ⟨by decide +kernel, by decide +kernel⟩, by decide +kernel⟩, inT mt_6 92 (by decide +kernel) rfl, inT mt_6 93 (by decide +kernel) rfl⟩
theorem gsX10_46 : Cond.fieldLink RX10 46 "PrinterHouse$Tile" "SHADES" "[I" ∈ TBL := inT mt_6 95 (by decide +kernel) rfl
theorem mlX9_640 : ML RX9 640 yX10_hatch := Or.inl (inT mt_6 97 (by decide +kernel) rfl)
set_option maxRecDepth 100000 in
theorem mcX10_hatch : MCv yX10_hatch cX10_hatch 5 none 1 := ⟨⟨inT mt_1 5 (by decide +kernel) rfl, inT mt_6 100 rfl rfl, ⟨by decide +kernel, by decide +kernel⟩, by decide +kernel⟩, inT mt_6 98 (by decide +kernel) rfl, inT mt_6 99 (by decide +kernel) rfl⟩
theorem mlX10_50 : ML RX10 50 yX10_isHatched := Or.inl (inT mt_6 101 (by decide +kernel) rfl)
set_option maxRecDepth 100000 in
theorem mcX10_isHatched : MCs yX10_isHatched cX10_isHatched 5 (some .boolean) 3 := ⟨⟨inT mt_1 5 (by decide +kernel) rfl, inT mt_6 103 rfl rfl, ⟨by decide +kernel, by decide +kernel⟩, by decide +kernel⟩, inT mt_6 102 (by decide +kernel) rfl⟩
theorem mlX9_643 : ML RX9 643 yX10_copy := Or.inl (inT mt_6 104 (by decide +kernel) rfl)
theorem mlX9_614 : ML RX9 614 yX0_layBlack := Or.inl (inT mt_6 105 (by decide +kernel) rfl)
set_option maxRecDepth 100000 in
theorem mcX0_layBlack : MCv yX0_layBlack cX0_layBlack 1 none 0 := ⟨⟨inT mt_1 4 (by decide +kernel) rfl, inT mt_6 108 rfl rfl, ⟨by decide +kernel, by decide +kernel⟩, by decide +kernel⟩, inT mt_6 106 (by decide +kernel) rfl, inT mt_6 107 (by decide +kernel) rfl⟩
theorem mlX9_617 : ML RX9 617 yX9_markBox := Or.inl (inT mt_6 109 (by decide +kernel) rfl)
set_option maxRecDepth 100000 in
theorem mcX9_markBox : MCv yX9_markBox cX9_markBox 7 none 5 := ⟨⟨inT mt_1 3 (by decide +kernel) rfl, inT mt_6 112 rfl rfl, ⟨by decide +kernel, by decide +kernel⟩, by decide +kernel⟩, inT mt_6 111 (by decide +kernel) rfl, inT mt_0 55 (by decide +kernel) rfl⟩
theorem mlX9_371 : ML RX9 371 yX9_inkField := Or.inl (inT mt_6 113 (by decide +kernel) rfl)
set_option maxRecDepth 100000 in
theorem mcX9_inkField : MCv yX9_inkField cX9_inkField 3 none 1 := ⟨⟨inT mt_1 3 (by decide +kernel) rfl, inT mt_6 116 rfl rfl, ⟨by decide +kernel, by decide +kernel⟩, by decide +kernel⟩, inT mt_6 115 (by decide +kernel) rfl, inT mt_0 56 (by decide +kernel) rfl⟩
theorem mlX9_374 : ML RX9 374 yX9_scaleField := Or.inl (inT mt_6 117 (by decide +kernel) rfl)
set_option maxRecDepth 100000 in
theorem mcX9_scaleField : MCv yX9_scaleField cX9_scaleField 3 none 1 := ⟨⟨inT mt_1 3 (by decide +kernel) rfl, inT mt_6 120 rfl rfl, ⟨by decide +kernel, by decide +kernel⟩, by decide +kernel⟩, inT mt_6 119 (by decide +kernel) rfl, inT mt_0 57 (by decide +kernel) rfl⟩
theorem mlX9_377 : ML RX9 377 yX9_rasterField := Or.inl (inT mt_6 121 (by decide +kernel) rfl)
set_option maxRecDepth 100000 in
theorem mcX9_rasterField : MCv yX9_rasterField cX9_rasterField 3 none 1 := ⟨⟨inT mt_1 3 (by decide +kernel) rfl, inT mt_6 124 rfl rfl, ⟨by decide +kernel, by decide +kernel⟩, by decide +kernel⟩, inT mt_6 123 (by decide +kernel) rfl, inT mt_0 58 (by decide +kernel) rfl⟩
theorem mlX9_664 : ML RX9 664 yX9_beginRaster := Or.inl (inT mt_6 125 (by decide +kernel) rfl)
set_option maxRecDepth 100000 in
theorem mcX9_beginRaster : MCv yX9_beginRaster cX9_beginRaster 2 none 1 := ⟨⟨inT mt_1 3 (by decide +kernel) rfl, inT mt_6 128 rfl rfl, ⟨by decide +kernel, by decide +kernel⟩, by decide +kernel⟩, inT mt_6 127 (by decide +kernel) rfl, inT mt_0 59 (by decide +kernel) rfl⟩
theorem mlX9_675 : ML RX9 675 yX4_begin := Or.inl (inT mt_6 129 (by decide +kernel) rfl)
set_option maxRecDepth 100000 in
theorem mcX4_begin : MCv yX4_begin cX4_begin 2 none 1 := ⟨⟨inT mt_1 12 (by decide +kernel) rfl, inT mt_6 132 rfl rfl, ⟨by decide +kernel, by decide +kernel⟩, by decide +kernel⟩, inT mt_6 130 (by decide +kernel) rfl, inT mt_6 131 (by decide +kernel) rfl⟩
theorem mlX9_667 : ML RX9 667 yX4_end := Or.inl (inT mt_6 133 (by decide +kernel) rfl)
theorem mlX9_380 : ML RX9 380 yX9_rowField := Or.inl (inT mt_6 134 (by decide +kernel) rfl)
set_option maxRecDepth 100000 in
theorem mcX9_rowField : MCv yX9_rowField cX9_rowField 4 none 1 := ⟨⟨inT mt_1 3 (by decide +kernel) rfl, inT mt_6 137 rfl rfl, ⟨by decide +kernel, by decide +kernel⟩, by decide +kernel⟩, inT mt_6 136 (by decide +kernel) rfl, inT mt_0 60 (by decide +kernel) rfl⟩
theorem mlX9_684 : ML RX9 684 yX4_clearRow := Or.inl (inT mt_6 138 (by decide +kernel) rfl)
theorem mlX9_687 : ML RX9 687 yX9_growRows := Or.inl (inT mt_6 139 (by decide +kernel) rfl)
set_option maxRecDepth 100000 in
theorem mcX9_growRows : MCv yX9_growRows cX9_growRows 3 none 1 := ⟨⟨inT mt_1 3 (by decide +kernel) rfl, inT mt_6 142 rfl rfl, ⟨by decide +kernel, by decide +kernel⟩, by decide +kernel⟩, inT mt_6 141 (by decide +kernel) rfl, inT mt_0 61 (by decide +kernel) rfl⟩
theorem mlX9_690 : ML RX9 690 yX9_rasterRow := Or.inl (inT mt_6 143 (by decide +kernel) rfl)
set_option maxRecDepth 100000 in
theorem mcX9_rasterRow : MCv yX9_rasterRow cX9_rasterRow 4 none 0 := ⟨⟨inT mt_1 3 (by decide +kernel) rfl, inT mt_6 146 rfl rfl, ⟨by decide +kernel, by decide +kernel⟩, by decide +kernel⟩, inT mt_6 145 (by decide +kernel) rfl, inT mt_0 62 (by decide +kernel) rfl⟩
theorem mlX9_693 : ML RX9 693 yX4_isFull := Or.inl (inT mt_6 147 (by decide +kernel) rfl)
set_option maxRecDepth 100000 in
theorem mcX4_isFull : MCv yX4_isFull cX4_isFull 1 (some .boolean) 0 := ⟨⟨inT mt_1 12 (by decide +kernel) rfl, inT mt_6 150 rfl rfl, ⟨by decide +kernel, by decide +kernel⟩, by decide +kernel⟩, inT mt_6 148 (by decide +kernel) rfl, inT mt_6 149 (by decide +kernel) rfl⟩
theorem mlX9_696 : ML RX9 696 yX4_unpack := Or.inl (inT mt_6 151 (by decide +kernel) rfl)
set_option maxRecDepth 100000 in
theorem mcX4_unpack : MCv yX4_unpack cX4_unpack 3 none 1 := ⟨⟨inT mt_1 12 (by decide +kernel) rfl, inT mt_6 154 rfl rfl, ⟨by decide +kernel, by decide +kernel⟩, by decide +kernel⟩, inT mt_6 152 (by decide +kernel) rfl, inT mt_6 153 (by decide +kernel) rfl⟩
theorem mlX4_61 : ML RX4 61 yX4_unpackPairs := Or.inl (inT mt_6 155 (by decide +kernel) rfl)
set_option maxRecDepth 100000 in
theorem mcX4_unpackPairs : MCv yX4_unpackPairs cX4_unpackPairs 5 none 1 := ⟨⟨inT mt_1 12 (by decide +kernel) rfl, inT mt_6 158 rfl rfl, ⟨by decide +kernel, by decide +kernel⟩, by decide +kernel⟩, inT mt_6 157 (by decide +kernel) rfl, inT mt_0 63 (by decide +kernel) rfl⟩
theorem mlX4_76 : ML RX4 76 yX5_dataByte := Or.inl (inT mt_6 159 (by decide +kernel) rfl)
theorem mlX4_80 : ML RX4 80 yX4_put := Or.inl (inT mt_6 160 (by decide +kernel) rfl)
set_option maxRecDepth 100000 in
theorem mcX4_put : MCv yX4_put cX4_put 7 none 3 := ⟨⟨inT mt_1 12 (by decide +kernel) rfl, inT mt_6 163 rfl rfl, ⟨by decide +kernel, by decide +kernel⟩, by decide +kernel⟩, inT mt_6 162 (by decide +kernel) rfl, inT mt_0 64 (by decide +kernel) rfl⟩
theorem mlX4_65 : ML RX4 65 yX4_unpackMixed := Or.inl (inT mt_6 164 (by decide +kernel) rfl)
set_option maxRecDepth 100000 in
theorem mcX4_unpackMixed : MCv yX4_unpackMixed cX4_unpackMixed 6 none 1 := ⟨⟨inT mt_1 12 (by decide +kernel) rfl, inT mt_6 167 rfl rfl, ⟨by decide +kernel, by decide +kernel⟩, by decide +kernel⟩, inT mt_6 166 (by decide +kernel) rfl, inT mt_0 65 (by decide +kernel) rfl⟩
theorem mlX4_68 : ML RX4 68 yX4_unpackChanges := Or.inl (inT mt_6 168 (by decide +kernel) rfl)
set_option maxRecDepth 100000 in
theorem mcX4_unpackChanges : MCv yX4_unpackChanges cX4_unpackChanges 8 none 1 := ⟨⟨inT mt_1 12 (by decide +kernel) rfl, inT mt_6 171 rfl rfl, ⟨by decide +kernel, by decide +kernel⟩, by decide +kernel⟩, inT mt_6 170 (by decide +kernel) rfl, inT mt_0 66 (by decide +kernel) rfl⟩
theorem mlX9_700 : ML RX9 700 yX0_layRow := Or.inl (inT mt_6 172 (by decide +kernel) rfl)
set_option maxRecDepth 100000 in
theorem mcX0_layRow : MCv yX0_layRow cX0_layRow 8 none 1 := ⟨⟨inT mt_1 4 (by decide +kernel) rfl, inT mt_6 175 rfl rfl, ⟨by decide +kernel, by decide +kernel⟩, by decide +kernel⟩, inT mt_6 173 (by decide +kernel) rfl, inT mt_6 174 (by decide +kernel) rfl⟩
theorem mlX0_114 : ML RX0 114 yX4_dotsInRow := Or.inl (inT mt_6 176 (by decide +kernel) rfl)
set_option maxRecDepth 100000 in
theorem mcX4_dotsInRow : MCv yX4_dotsInRow cX4_dotsInRow 1 (some .int) 0 := ⟨⟨inT mt_1 12 (by decide +kernel) rfl, inT mt_6 179 rfl rfl, ⟨by decide +kernel, by decide +kernel⟩, by decide +kernel⟩, inT mt_6 177 (by decide +kernel) rfl, inT mt_6 178 (by decide +kernel) rfl⟩
theorem mlX4_55 : ML RX4 55 yJ9_min_7cf53 := Or.inl (inT mt_6 180 (by decide +kernel) rfl)
theorem mlX0_122 : ML RX0 122 yX11_firstOther := Or.inr ⟨"PrinterHouse", inN mt_6 181 (by decide +kernel) rfl⟩
theorem mlX0_132 : ML RX0 132 yX11_blacken := Or.inr ⟨"PrinterHouse", inN mt_6 182 (by decide +kernel) rfl⟩
set_option maxRecDepth 100000 in
theorem mcX11_blacken : MCs yX11_blacken cX11_blacken 6 none 4 := ⟨⟨inT mt_1 1 (by decide +kernel) rfl, inT mt_6 184 rfl rfl, ⟨by decide +kernel, by decide +kernel⟩, by decide +kernel⟩, inT mt_6 183 (by decide +kernel) rfl⟩
theorem mlX11_168 : ML RX11 168 yX11_maskOf := Or.inl (inT mt_6 185 (by decide +kernel) rfl)
theorem mlX9_704 : ML RX9 704 yX4_dotsInRow := Or.inl (inT mt_6 186 (by decide +kernel) rfl)
theorem mlX9_383 : ML RX9 383 yX9_obeyFont := Or.inl (inT mt_6 187 (by decide +kernel) rfl)
set_option maxRecDepth 100000 in
theorem mcX9_obeyFont : MCv yX9_obeyFont cX9_obeyFont 4 none 0 := ⟨⟨inT mt_1 3 (by decide +kernel) rfl, inT mt_6 190 rfl rfl, ⟨by decide +kernel, by decide +kernel⟩, by decide +kernel⟩, inT mt_6 189 (by decide +kernel) rfl, inT mt_0 67 (by decide +kernel) rfl⟩
theorem mlX9_392 : ML RX9 392 yX9_fontField := Or.inl (inT mt_6 191 (by decide +kernel) rfl)
set_option maxRecDepth 100000 in
theorem mcX9_fontField : MCv yX9_fontField cX9_fontField 5 (some .boolean) 2 := ⟨⟨inT mt_1 3 (by decide +kernel) rfl, inT mt_6 194 rfl rfl, ⟨by decide +kernel, by decide +kernel⟩, by decide +kernel⟩, inT mt_6 193 (by decide +kernel) rfl, inT mt_0 68 (by decide +kernel) rfl⟩
theorem mlX9_564 : ML RX9 564 yX2_wishFor := Or.inl (inT mt_6 195 (by decide +kernel) rfl)
set_option maxRecDepth 100000 in
theorem mcX2_wishFor : MCv yX2_wishFor cX2_wishFor 3 (some .boolean) 2 := ⟨⟨inT mt_1 6 (by decide +kernel) rfl, inT mt_6 198 rfl rfl, ⟨by decide +kernel, by decide +kernel⟩, by decide +kernel⟩, inT mt_6 196 (by decide +kernel) rfl, inT mt_6 197 (by decide +kernel) rfl⟩
theorem mlX9_568 : ML RX9 568 yX9_wish := Or.inl (inT mt_6 199 (by decide +kernel) rfl)
set_option maxRecDepth 100000 in
theorem mcX9_wish : MCs yX9_wish cX9_wish 3 (some .boolean) 3 := ⟨⟨inT mt_1 3 (by decide +kernel) rfl, inT mt_6 201 rfl rfl, ⟨by decide +kernel, by decide +kernel⟩, by decide +kernel⟩, inT mt_6 200 (by decide +kernel) rfl⟩
theorem mlX9_396 : ML RX9 396 yX9_styleField := Or.inl (inT mt_6 202 (by decide +kernel) rfl)
set_option maxRecDepth 100000 in
theorem mcX9_styleField : MCv yX9_styleField cX9_styleField 4 (some .boolean) 2 := ⟨⟨inT mt_1 3 (by decide +kernel) rfl, inT mt_6 205 rfl rfl, ⟨by decide +kernel, by decide +kernel⟩, by decide +kernel⟩, inT mt_6 204 (by decide +kernel) rfl, inT mt_0 69 (by decide +kernel) rfl⟩
theorem mlX9_572 : ML RX9 572 yX9_wishPitch := Or.inl (inT mt_6 206 (by decide +kernel) rfl)
set_option maxRecDepth 100000 in
theorem mcX9_wishPitch : MCv yX9_wishPitch cX9_wishPitch 7 (some .boolean) 1 := ⟨⟨inT mt_1 3 (by decide +kernel) rfl, inT mt_6 209 rfl rfl, ⟨by decide +kernel, by decide +kernel⟩, by decide +kernel⟩, inT mt_6 208 (by decide +kernel) rfl, inT mt_0 70 (by decide +kernel) rfl⟩
theorem mlX9_576 : ML RX9 576 yX5_exact := Or.inl (inT mt_6 210 (by decide +kernel) rfl)
theorem kcX9_580 : Cond.constantLong RX9 580 (72000000) ∈ TBL := inT mt_6 211 (by decide +kernel) rfl
theorem kcX9_582 : Cond.constantLong RX9 582 (7200) ∈ TBL := inT mt_6 212 (by decide +kernel) rfl
theorem mlX9_405 : ML RX9 405 yX2_sendGlyph := Or.inl (inT mt_6 213 (by decide +kernel) rfl)
set_option maxRecDepth 100000 in
theorem mcX2_sendGlyph : MCv yX2_sendGlyph cX2_sendGlyph 12 none 3 := ⟨⟨inT mt_1 6 (by decide +kernel) rfl, inT mt_6 216 rfl rfl, ⟨by decide +kernel, by decide +kernel⟩, by decide +kernel⟩, inT mt_6 214 (by decide +kernel) rfl, inT mt_6 215 (by decide +kernel) rfl⟩
theorem mlX2_80 : ML RX2 80 yX5_dataByte := Or.inl (inT mt_6 217 (by decide +kernel) rfl)
theorem mlX2_63 : ML RX2 63 yX5_dataTwo := Or.inl (inT mt_6 218 (by decide +kernel) rfl)
set_option maxRecDepth 100000 in
theorem mcX5_dataTwo : MCv yX5_dataTwo cX5_dataTwo 2 (some .int) 1 := ⟨⟨inT mt_1 13 (by decide +kernel) rfl, inT mt_6 221 rfl rfl, ⟨by decide +kernel, by decide +kernel⟩, by decide +kernel⟩, inT mt_6 219 (by decide +kernel) rfl, inT mt_6 220 (by decide +kernel) rfl⟩
theorem mlX5_67 : ML RX5 67 yX5_dataByte := Or.inl (inT mt_6 222 (by decide +kernel) rfl)
theorem mlX2_87 : ML RX2 87 yX2_slotFor := Or.inl (inT mt_6 223 (by decide +kernel) rfl)
set_option maxRecDepth 100000 in
theorem mcX2_slotFor : MCv yX2_slotFor cX2_slotFor 5 (some .int) 2 := ⟨⟨inT mt_1 6 (by decide +kernel) rfl, inT mt_6 226 rfl rfl, ⟨by decide +kernel, by decide +kernel⟩, by decide +kernel⟩, inT mt_6 225 (by decide +kernel) rfl, inT mt_0 71 (by decide +kernel) rfl⟩
theorem mlX9_409 : ML RX9 409 yX2_send := Or.inl (inT mt_6 227 (by decide +kernel) rfl)
set_option maxRecDepth 100000 in
theorem mcX2_send : MCv yX2_send cX2_send 5 none 2 := ⟨⟨inT mt_1 6 (by decide +kernel) rfl, inT mt_6 230 rfl rfl, ⟨by decide +kernel, by decide +kernel⟩, by decide +kernel⟩, inT mt_6 228 (by decide +kernel) rfl, inT mt_6 229 (by decide +kernel) rfl⟩
theorem mlX2_77 : ML RX2 77 yX8_put := Or.inl (inT mt_6 231 (by decide +kernel) rfl)
theorem mlX2_83 : ML RX2 83 yX2_setNumber := Or.inl (inT mt_6 232 (by decide +kernel) rfl)
set_option maxRecDepth 100000 in
theorem mcX2_setNumber : MCv yX2_setNumber cX2_setNumber 5 none 3 := ⟨⟨inT mt_1 6 (by decide +kernel) rfl, inT mt_6 235 rfl rfl, ⟨by decide +kernel, by decide +kernel⟩, by decide +kernel⟩, inT mt_6 234 (by decide +kernel) rfl, inT mt_0 72 (by decide +kernel) rfl⟩
theorem mlX9_121 : ML RX9 121 yX9_keepStates := Or.inl (inT mt_6 236 (by decide +kernel) rfl)
set_option maxRecDepth 100000 in
theorem mcX9_keepStates : MCv yX9_keepStates cX9_keepStates 2 none 0 := ⟨⟨inT mt_1 3 (by decide +kernel) rfl, inT mt_6 239 rfl rfl, ⟨by decide +kernel, by decide +kernel⟩, by decide +kernel⟩, inT mt_6 238 (by decide +kernel) rfl, inT mt_0 73 (by decide +kernel) rfl⟩
theorem mlX11_82 : ML RX11 82 yX9_isMuch := Or.inl (inT mt_7 0 (by decide +kernel) rfl)
theorem mlX11_86 : ML RX11 86 yX3_read := Or.inl (inT mt_7 1 (by decide +kernel) rfl)
set_option maxRecDepth 100000 in
theorem mcX3_read : MCv yX3_read cX3_read 7 none 3 := ⟨⟨inT mt_1 14 (by decide +kernel) rfl, inT mt_7 4 rfl rfl, ⟨by decide +kernel, by decide +kernel⟩, by decide +kernel⟩, inT mt_7 2 (by decide +kernel) rfl, inT mt_7 3 (by decide +kernel) rfl⟩
theorem mlX3_53 : ML RX3 53 yX3_readHeader := Or.inl (inT mt_7 5 (by decide +kernel) rfl)
set_option maxRecDepth 100000 in
theorem mcX3_readHeader : MCv yX3_readHeader cX3_readHeader 4 none 0 := ⟨⟨inT mt_1 14 (by decide +kernel) rfl, inT mt_7 8 rfl rfl, ⟨by decide +kernel, by decide +kernel⟩, by decide +kernel⟩, inT mt_7 7 (by decide +kernel) rfl, inT mt_0 74 (by decide +kernel) rfl⟩
theorem mlX3_76 : ML RX3 76 yX3_byteAt := Or.inl (inT mt_7 9 (by decide +kernel) rfl)
set_option maxRecDepth 100000 in
theorem mcX3_byteAt : MCv yX3_byteAt cX3_byteAt 5 (some .int) 1 := ⟨⟨inT mt_1 14 (by decide +kernel) rfl, inT mt_7 12 rfl rfl, ⟨by decide +kernel, by decide +kernel⟩, by decide +kernel⟩, inT mt_7 11 (by decide +kernel) rfl, inT mt_0 75 (by decide +kernel) rfl⟩
theorem mlX3_80 : ML RX3 80 yX3_fail := Or.inl (inT mt_7 13 (by decide +kernel) rfl)
set_option maxRecDepth 100000 in
theorem mcX3_fail : MCv yX3_fail cX3_fail 4 none 2 := ⟨⟨inT mt_1 14 (by decide +kernel) rfl, inT mt_7 16 rfl rfl, ⟨by decide +kernel, by decide +kernel⟩, by decide +kernel⟩, inT mt_7 15 (by decide +kernel) rfl, inT mt_0 76 (by decide +kernel) rfl⟩
theorem mlX3_66 : ML RX3 66 yJ9_min_f86c9 := Or.inl (inT mt_7 17 (by decide +kernel) rfl)
theorem kcX3_56 : Cond.constantLong RX3 56 (4) ∈ TBL := inT mt_7 18 (by decide +kernel) rfl
theorem mlX3_58 : ML RX3 58 yX3_number := Or.inl (inT mt_7 19 (by decide +kernel) rfl)
set_option maxRecDepth 100000 in
theorem mcX3_number : MCv yX3_number cX3_number 7 (some .long) 2 := ⟨⟨inT mt_1 14 (by decide +kernel) rfl, inT mt_7 22 rfl rfl, ⟨by decide +kernel, by decide +kernel⟩, by decide +kernel⟩, inT mt_7 21 (by decide +kernel) rfl, inT mt_0 77 (by decide +kernel) rfl⟩
theorem mlX3_62 : ML RX3 62 yX3_readDirectory := Or.inl (inT mt_7 23 (by decide +kernel) rfl)
set_option maxRecDepth 100000 in
theorem mcX3_readDirectory : MCv yX3_readDirectory cX3_readDirectory 7 (some .long) 1 := ⟨⟨inT mt_1 14 (by decide +kernel) rfl, inT mt_7 26 rfl rfl, ⟨by decide +kernel, by decide +kernel⟩, by decide +kernel⟩, inT mt_7 25 (by decide +kernel) rfl, inT mt_0 78 (by decide +kernel) rfl⟩
theorem kcX3_84 : Cond.constantLong RX3 84 (2) ∈ TBL := inT mt_7 27 (by decide +kernel) rfl
theorem kcX3_86 : Cond.constantLong RX3 86 (12) ∈ TBL := inT mt_7 28 (by decide +kernel) rfl
theorem mlX3_88 : ML RX3 88 yX3_isDirectory := Or.inl (inT mt_7 29 (by decide +kernel) rfl)
set_option maxRecDepth 100000 in
theorem mcX3_isDirectory : MCv yX3_isDirectory cX3_isDirectory 7 (some .boolean) 2 := ⟨⟨inT mt_1 14 (by decide +kernel) rfl, inT mt_7 32 rfl rfl, ⟨by decide +kernel, by decide +kernel⟩, by decide +kernel⟩, inT mt_7 31 (by decide +kernel) rfl, inT mt_0 79 (by decide +kernel) rfl⟩
theorem mlX3_92 : ML RX3 92 yX3_startEntries := Or.inl (inT mt_7 33 (by decide +kernel) rfl)
set_option maxRecDepth 100000 in
theorem mcX3_startEntries : MCv yX3_startEntries cX3_startEntries 1 none 0 := ⟨⟨inT mt_1 14 (by decide +kernel) rfl, inT mt_7 36 rfl rfl, ⟨by decide +kernel, by decide +kernel⟩, by decide +kernel⟩, inT mt_7 35 (by decide +kernel) rfl, inT mt_0 80 (by decide +kernel) rfl⟩
theorem kcX3_121 : Cond.constantLong RX3 121 (-1) ∈ TBL := inT mt_7 37 (by decide +kernel) rfl
theorem mlX3_95 : ML RX3 95 yX3_readEntry := Or.inl (inT mt_7 38 (by decide +kernel) rfl)
set_option maxRecDepth 100000 in
theorem mcX3_readEntry : MCv yX3_readEntry cX3_readEntry 10 none 1 := ⟨⟨inT mt_1 14 (by decide +kernel) rfl, inT mt_7 41 rfl rfl, ⟨by decide +kernel, by decide +kernel⟩, by decide +kernel⟩, inT mt_7 40 (by decide +kernel) rfl, inT mt_0 81 (by decide +kernel) rfl⟩
theorem mlX3_141 : ML RX3 141 yX3_isOfOne := Or.inl (inT mt_7 42 (by decide +kernel) rfl)
set_option maxRecDepth 100000 in
theorem mcX3_isOfOne : MCs yX3_isOfOne cX3_isOfOne 1 (some .boolean) 1 := ⟨⟨inT mt_1 14 (by decide +kernel) rfl, inT mt_7 44 rfl rfl, ⟨by decide +kernel, by decide +kernel⟩, by decide +kernel⟩, inT mt_7 43 (by decide +kernel) rfl⟩
theorem kcX3_145 : Cond.constantLong RX3 145 (8) ∈ TBL := inT mt_7 45 (by decide +kernel) rfl
theorem mlX3_147 : ML RX3 147 yX3_tell := Or.inl (inT mt_7 46 (by decide +kernel) rfl)
set_option maxRecDepth 100000 in
theorem mcX3_tell : MCv yX3_tell cX3_tell 4 (some .boolean) 2 := ⟨⟨inT mt_1 14 (by decide +kernel) rfl, inT mt_7 49 rfl rfl, ⟨by decide +kernel, by decide +kernel⟩, by decide +kernel⟩, inT mt_7 48 (by decide +kernel) rfl, inT mt_0 82 (by decide +kernel) rfl⟩
theorem kcX3_151 : Cond.constantLong RX3 151 (640) ∈ TBL := inT mt_7 50 (by decide +kernel) rfl
theorem kcX3_153 : Cond.constantLong RX3 153 (800) ∈ TBL := inT mt_7 51 (by decide +kernel) rfl
theorem mlX3_99 : ML RX3 99 yX3_checkEntries := Or.inl (inT mt_7 52 (by decide +kernel) rfl)
set_option maxRecDepth 100000 in
theorem mcX3_checkEntries : MCv yX3_checkEntries cX3_checkEntries 3 none 1 := ⟨⟨inT mt_1 14 (by decide +kernel) rfl, inT mt_7 55 rfl rfl, ⟨by decide +kernel, by decide +kernel⟩, by decide +kernel⟩, inT mt_7 54 (by decide +kernel) rfl, inT mt_0 83 (by decide +kernel) rfl⟩
theorem mlX3_155 : ML RX3 155 yX3_isList := Or.inl (inT mt_7 56 (by decide +kernel) rfl)
set_option maxRecDepth 100000 in
theorem mcX3_isList : MCv yX3_isList cX3_isList 9 (some .boolean) 1 := ⟨⟨inT mt_1 14 (by decide +kernel) rfl, inT mt_7 59 rfl rfl, ⟨by decide +kernel, by decide +kernel⟩, by decide +kernel⟩, inT mt_7 58 (by decide +kernel) rfl, inT mt_0 84 (by decide +kernel) rfl⟩
theorem kcX3_162 : Cond.constantLong RX3 162 (3) ∈ TBL := inT mt_7 60 (by decide +kernel) rfl
theorem mlX3_164 : ML RX3 164 yX3_strips := Or.inl (inT mt_7 61 (by decide +kernel) rfl)
set_option maxRecDepth 100000 in
theorem mcX3_strips : MCv yX3_strips cX3_strips 1 (some .long) 0 := ⟨⟨inT mt_1 14 (by decide +kernel) rfl, inT mt_7 64 rfl rfl, ⟨by decide +kernel, by decide +kernel⟩, by decide +kernel⟩, inT mt_7 63 (by decide +kernel) rfl, inT mt_0 85 (by decide +kernel) rfl⟩
theorem mlX3_159 : ML RX3 159 yJ9_max_f86c9 := Or.inl (inT mt_7 65 (by decide +kernel) rfl)
theorem kcX3_168 : Cond.constantLong RX3 168 (40) ∈ TBL := inT mt_7 66 (by decide +kernel) rfl
theorem mlX3_102 : ML RX3 102 yX3_readStrips := Or.inl (inT mt_7 67 (by decide +kernel) rfl)
set_option maxRecDepth 100000 in
theorem mcX3_readStrips : MCv yX3_readStrips cX3_readStrips 11 none 0 := ⟨⟨inT mt_1 14 (by decide +kernel) rfl, inT mt_7 70 rfl rfl, ⟨by decide +kernel, by decide +kernel⟩, by decide +kernel⟩, inT mt_7 69 (by decide +kernel) rfl, inT mt_0 86 (by decide +kernel) rfl⟩
theorem mlX3_170 : ML RX3 170 yX6_nextPage := Or.inl (inT mt_7 71 (by decide +kernel) rfl)
theorem mlX3_174 : ML RX3 174 yJ7_fill_53178 := Or.inl (inT mt_7 72 (by decide +kernel) rfl)
theorem mlX3_180 : ML RX3 180 yX3_listed := Or.inl (inT mt_7 73 (by decide +kernel) rfl)
set_option maxRecDepth 100000 in
theorem mcX3_listed : MCv yX3_listed cX3_listed 7 (some .long) 2 := ⟨⟨inT mt_1 14 (by decide +kernel) rfl, inT mt_7 76 rfl rfl, ⟨by decide +kernel, by decide +kernel⟩, by decide +kernel⟩, inT mt_7 75 (by decide +kernel) rfl, inT mt_0 87 (by decide +kernel) rfl⟩
theorem mlX3_183 : ML RX3 183 yX3_openStrip := Or.inl (inT mt_7 77 (by decide +kernel) rfl)
set_option maxRecDepth 100000 in
theorem mcX3_openStrip : MCv yX3_openStrip cX3_openStrip 5 none 2 := ⟨⟨inT mt_1 14 (by decide +kernel) rfl, inT mt_7 80 rfl rfl, ⟨by decide +kernel, by decide +kernel⟩, by decide +kernel⟩, inT mt_7 79 (by decide +kernel) rfl, inT mt_0 88 (by decide +kernel) rfl⟩
theorem mlX3_201 : ML RX3 201 yJ9_min_7cf53 := Or.inl (inT mt_7 81 (by decide +kernel) rfl)
theorem mlX3_186 : ML RX3 186 yX3_readRow := Or.inl (inT mt_7 82 (by decide +kernel) rfl)
set_option maxRecDepth 100000 in
theorem mcX3_readRow : MCv yX3_readRow cX3_readRow 14 (some .boolean) 3 := ⟨⟨inT mt_1 14 (by decide +kernel) rfl, inT mt_7 85 rfl rfl, ⟨by decide +kernel, by decide +kernel⟩, by decide +kernel⟩, inT mt_7 84 (by decide +kernel) rfl, inT mt_0 89 (by decide +kernel) rfl⟩
theorem kcX3_220 : Cond.constant RX3 220 (1000000) ∈ TBL := inT mt_7 86 (by decide +kernel) rfl
theorem mlX3_221 : ML RX3 221 yJ9_max_7cf53 := Or.inl (inT mt_7 87 (by decide +kernel) rfl)
theorem mlX3_223 : ML RX3 223 yX11_firstChange := Or.inr ⟨"PrinterHouse", inN mt_7 88 (by decide +kernel) rfl⟩
theorem mlX3_227 : ML RX3 227 yX3_readMode := Or.inl (inT mt_7 89 (by decide +kernel) rfl)
set_option maxRecDepth 100000 in
theorem mcX3_readMode : MCv yX3_readMode cX3_readMode 3 (some .int) 0 := ⟨⟨inT mt_1 14 (by decide +kernel) rfl, inT mt_7 92 rfl rfl, ⟨by decide +kernel, by decide +kernel⟩, by decide +kernel⟩, inT mt_7 91 (by decide +kernel) rfl, inT mt_0 90 (by decide +kernel) rfl⟩
theorem mlX3_207 : ML RX3 207 yX3_peek := Or.inl (inT mt_7 93 (by decide +kernel) rfl)
set_option maxRecDepth 100000 in
theorem mcX3_peek : MCv yX3_peek cX3_peek 6 (some .int) 1 := ⟨⟨inT mt_1 14 (by decide +kernel) rfl, inT mt_7 96 rfl rfl, ⟨by decide +kernel, by decide +kernel⟩, by decide +kernel⟩, inT mt_7 95 (by decide +kernel) rfl, inT mt_0 91 (by decide +kernel) rfl⟩
theorem mlX3_211 : ML RX3 211 yX3_skipBits := Or.inl (inT mt_7 97 (by decide +kernel) rfl)
set_option maxRecDepth 100000 in
theorem mcX3_skipBits : MCv yX3_skipBits cX3_skipBits 2 (some .boolean) 1 := ⟨⟨inT mt_1 14 (by decide +kernel) rfl, inT mt_7 100 rfl rfl, ⟨by decide +kernel, by decide +kernel⟩, by decide +kernel⟩, inT mt_7 99 (by decide +kernel) rfl, inT mt_0 92 (by decide +kernel) rfl⟩
theorem gsX3_214 : Cond.fieldLinkNest RX3 214 "PrinterHouse" "NEAR_CODES" "[I" "PrinterHouse" ∈ NST := inN mt_7 101 (by decide +kernel) rfl
theorem gsX3_217 : Cond.fieldLinkNest RX3 217 "PrinterHouse" "NEAR_BITS" "[I" "PrinterHouse" ∈ NST := inN mt_7 102 (by decide +kernel) rfl
theorem mlX3_231 : ML RX3 231 yX11_firstOther := Or.inr ⟨"PrinterHouse", inN mt_7 103 (by decide +kernel) rfl⟩
theorem mlX3_234 : ML RX3 234 yX3_readRun := Or.inl (inT mt_7 104 (by decide +kernel) rfl)
set_option maxRecDepth 100000 in
theorem mcX3_readRun : MCv yX3_readRun cX3_readRun 7 (some .int) 1 := ⟨⟨inT mt_1 14 (by decide +kernel) rfl, inT mt_7 107 rfl rfl, ⟨by decide +kernel, by decide +kernel⟩, by decide +kernel⟩, inT mt_7 106 (by decide +kernel) rfl, inT mt_0 93 (by decide +kernel) rfl⟩
theorem mlX3_237 : ML RX3 237 yX11_blacken := Or.inr ⟨"PrinterHouse", inN mt_7 108 (by decide +kernel) rfl⟩
theorem mlX3_190 : ML RX3 190 yX3_invert := Or.inl (inT mt_7 109 (by decide +kernel) rfl)
set_option maxRecDepth 100000 in
theorem mcX3_invert : MCv yX3_invert cX3_invert 5 none 1 := ⟨⟨inT mt_1 14 (by decide +kernel) rfl, inT mt_7 112 rfl rfl, ⟨by decide +kernel, by decide +kernel⟩, by decide +kernel⟩, inT mt_7 111 (by decide +kernel) rfl, inT mt_0 94 (by decide +kernel) rfl⟩
theorem mlX3_194 : ML RX3 194 yX11_maskOf := Or.inr ⟨"PrinterHouse", inN mt_7 113 (by decide +kernel) rfl⟩
theorem mlX3_112 : ML RX3 112 yX6_come := Or.inl (inT mt_7 114 (by decide +kernel) rfl)
theorem mlX11_96 : ML RX11 96 yX9_dropTemporary := Or.inl (inT mt_7 115 (by decide +kernel) rfl)
theorem mlL_36 : ML RL 36 yX11_fault := Or.inl (inT mt_7 116 (by decide +kernel) rfl)
set_option maxRecDepth 100000 in
theorem mcX11_fault : MCv yX11_fault cX11_fault 2 (some .int) 1 := ⟨⟨inT mt_1 1 (by decide +kernel) rfl, inT mt_7 119 rfl rfl, ⟨by decide +kernel, by decide +kernel⟩, by decide +kernel⟩, inT mt_7 117 (by decide +kernel) rfl, inT mt_7 118 (by decide +kernel) rfl⟩
theorem mlL_40 : ML RL 40 yX11_outs := Or.inl (inT mt_7 120 (by decide +kernel) rfl)
set_option maxRecDepth 100000 in
theorem mcX11_outs : MCv yX11_outs cX11_outs 1 (some .int) 0 := ⟨⟨inT mt_1 1 (by decide +kernel) rfl, inT mt_7 123 rfl rfl, ⟨by decide +kernel, by decide +kernel⟩, by decide +kernel⟩, inT mt_7 121 (by decide +kernel) rfl, inT mt_7 122 (by decide +kernel) rfl⟩
theorem mlL_44 : ML RL 44 yX11_out := Or.inl (inT mt_7 124 (by decide +kernel) rfl)
set_option maxRecDepth 100000 in
theorem mcX11_out : MCv yX11_out cX11_out 2 (some .int) 1 := ⟨⟨inT mt_1 1 (by decide +kernel) rfl, inT mt_7 127 rfl rfl, ⟨by decide +kernel, by decide +kernel⟩, by decide +kernel⟩, inT mt_7 125 (by decide +kernel) rfl, inT mt_7 126 (by decide +kernel) rfl⟩
theorem mlX11_102 : ML RX11 102 yX6_byteAt := Or.inl (inT mt_7 128 (by decide +kernel) rfl)
set_option maxRecDepth 100000 in
theorem mcX6_byteAt : MCv yX6_byteAt cX6_byteAt 2 (some .int) 1 := ⟨⟨inT mt_1 2 (by decide +kernel) rfl, inT mt_7 131 rfl rfl, ⟨by decide +kernel, by decide +kernel⟩, by decide +kernel⟩, inT mt_7 129 (by decide +kernel) rfl, inT mt_7 130 (by decide +kernel) rfl⟩
theorem mlL_48 : ML RL 48 yX11_sum := Or.inl (inT mt_7 132 (by decide +kernel) rfl)
set_option maxRecDepth 100000 in
theorem mcX11_sum : MCv yX11_sum cX11_sum 1 (some .int) 0 := ⟨⟨inT mt_1 1 (by decide +kernel) rfl, inT mt_7 135 rfl rfl, ⟨by decide +kernel, by decide +kernel⟩, by decide +kernel⟩, inT mt_7 133 (by decide +kernel) rfl, inT mt_7 134 (by decide +kernel) rfl⟩
theorem mlX11_106 : ML RX11 106 yX6_sumOfBytes := Or.inl (inT mt_7 136 (by decide +kernel) rfl)
set_option maxRecDepth 100000 in
theorem mcX6_sumOfBytes : MCv yX6_sumOfBytes cX6_sumOfBytes 3 (some .int) 0 := ⟨⟨inT mt_1 2 (by decide +kernel) rfl, inT mt_7 139 rfl rfl, ⟨by decide +kernel, by decide +kernel⟩, by decide +kernel⟩, inT mt_7 137 (by decide +kernel) rfl, inT mt_7 138 (by decide +kernel) rfl⟩
theorem mlL_52 : ML RL 52 yX11_take := Or.inl (inT mt_7 140 (by decide +kernel) rfl)
set_option maxRecDepth 100000 in
theorem mcX11_take : MCv yX11_take cX11_take 2 (some .int) 0 := ⟨⟨inT mt_1 1 (by decide +kernel) rfl, inT mt_7 143 rfl rfl, ⟨by decide +kernel, by decide +kernel⟩, by decide +kernel⟩, inT mt_7 141 (by decide +kernel) rfl, inT mt_7 142 (by decide +kernel) rfl⟩
theorem mlL_56 : ML RL 56 yX11_pages := Or.inl (inT mt_7 144 (by decide +kernel) rfl)
set_option maxRecDepth 100000 in
theorem mcX11_pages : MCv yX11_pages cX11_pages 1 (some .int) 0 := ⟨⟨inT mt_1 1 (by decide +kernel) rfl, inT mt_7 147 rfl rfl, ⟨by decide +kernel, by decide +kernel⟩, by decide +kernel⟩, inT mt_7 145 (by decide +kernel) rfl, inT mt_7 146 (by decide +kernel) rfl⟩
theorem mlL_60 : ML RL 60 yX11_width := Or.inl (inT mt_7 148 (by decide +kernel) rfl)
set_option maxRecDepth 100000 in
theorem mcX11_width : MCv yX11_width cX11_width 2 (some .int) 1 := ⟨⟨inT mt_1 1 (by decide +kernel) rfl, inT mt_7 151 rfl rfl, ⟨by decide +kernel, by decide +kernel⟩, by decide +kernel⟩, inT mt_7 149 (by decide +kernel) rfl, inT mt_7 150 (by decide +kernel) rfl⟩
theorem mlX11_113 : ML RX11 113 yX6_hasPage := Or.inl (inT mt_7 152 (by decide +kernel) rfl)
set_option maxRecDepth 100000 in
theorem mcX6_hasPage : MCv yX6_hasPage cX6_hasPage 2 (some .boolean) 1 := ⟨⟨inT mt_1 2 (by decide +kernel) rfl, inT mt_7 155 rfl rfl, ⟨by decide +kernel, by decide +kernel⟩, by decide +kernel⟩, inT mt_7 153 (by decide +kernel) rfl, inT mt_7 154 (by decide +kernel) rfl⟩
theorem mlL_64 : ML RL 64 yX11_height := Or.inl (inT mt_7 156 (by decide +kernel) rfl)
set_option maxRecDepth 100000 in
theorem mcX11_height : MCv yX11_height cX11_height 2 (some .int) 1 := ⟨⟨inT mt_1 1 (by decide +kernel) rfl, inT mt_7 159 rfl rfl, ⟨by decide +kernel, by decide +kernel⟩, by decide +kernel⟩, inT mt_7 157 (by decide +kernel) rfl, inT mt_7 158 (by decide +kernel) rfl⟩
theorem mlL_68 : ML RL 68 yX11_dot := Or.inl (inT mt_7 160 (by decide +kernel) rfl)
set_option maxRecDepth 100000 in
theorem mcX11_dot : MCv yX11_dot cX11_dot 4 (some .int) 3 := ⟨⟨inT mt_1 1 (by decide +kernel) rfl, inT mt_7 163 rfl rfl, ⟨by decide +kernel, by decide +kernel⟩, by decide +kernel⟩, inT mt_7 161 (by decide +kernel) rfl, inT mt_7 162 (by decide +kernel) rfl⟩
theorem mlX11_123 : ML RX11 123 yX6_hasRow := Or.inl (inT mt_7 164 (by decide +kernel) rfl)
set_option maxRecDepth 100000 in
theorem mcX6_hasRow : MCv yX6_hasRow cX6_hasRow 3 (some .boolean) 2 := ⟨⟨inT mt_1 2 (by decide +kernel) rfl, inT mt_7 167 rfl rfl, ⟨by decide +kernel, by decide +kernel⟩, by decide +kernel⟩, inT mt_7 165 (by decide +kernel) rfl, inT mt_7 166 (by decide +kernel) rfl⟩
theorem mlX6_39 : ML RX6 39 yX6_hasPage := Or.inl (inT mt_7 168 (by decide +kernel) rfl)
theorem mlL_73 : ML RL 73 yX11_black := Or.inl (inT mt_7 169 (by decide +kernel) rfl)
set_option maxRecDepth 100000 in
theorem mcX11_black : MCv yX11_black cX11_black 3 (some .int) 2 := ⟨⟨inT mt_1 1 (by decide +kernel) rfl, inT mt_7 172 rfl rfl, ⟨by decide +kernel, by decide +kernel⟩, by decide +kernel⟩, inT mt_7 170 (by decide +kernel) rfl, inT mt_7 171 (by decide +kernel) rfl⟩
theorem mlX11_135 : ML RX11 135 yX6_blackDots := Or.inl (inT mt_7 173 (by decide +kernel) rfl)
set_option maxRecDepth 100000 in
theorem mcX6_blackDots : MCv yX6_blackDots cX6_blackDots 7 (some .int) 2 := ⟨⟨inT mt_1 2 (by decide +kernel) rfl, inT mt_7 176 rfl rfl, ⟨by decide +kernel, by decide +kernel⟩, by decide +kernel⟩, inT mt_7 174 (by decide +kernel) rfl, inT mt_7 175 (by decide +kernel) rfl⟩
theorem mlX6_43 : ML RX6 43 yJ6_bitCount_0f7a4 := Or.inl (inT mt_7 177 (by decide +kernel) rfl)
theorem mlL_78 : ML RL 78 yX11_state := Or.inl (inT mt_7 178 (by decide +kernel) rfl)
set_option maxRecDepth 100000 in
theorem mcX11_state : MCv yX11_state cX11_state 2 (some .int) 1 := ⟨⟨inT mt_1 1 (by decide +kernel) rfl, inT mt_7 181 rfl rfl, ⟨by decide +kernel, by decide +kernel⟩, by decide +kernel⟩, inT mt_7 179 (by decide +kernel) rfl, inT mt_7 180 (by decide +kernel) rfl⟩
theorem mlX11_139 : ML RX11 139 yX9_lastState := Or.inl (inT mt_7 182 (by decide +kernel) rfl)
set_option maxRecDepth 100000 in
theorem mcX9_lastState : MCv yX9_lastState cX9_lastState 2 (some .int) 1 := ⟨⟨inT mt_1 3 (by decide +kernel) rfl, inT mt_7 185 rfl rfl, ⟨by decide +kernel, by decide +kernel⟩, by decide +kernel⟩, inT mt_7 183 (by decide +kernel) rfl, inT mt_7 184 (by decide +kernel) rfl⟩
theorem mlL_82 : ML RL 82 yX11_held := Or.inl (inT mt_7 186 (by decide +kernel) rfl)
set_option maxRecDepth 100000 in
theorem mcX11_held : MCv yX11_held cX11_held 2 (some .int) 1 := ⟨⟨inT mt_1 1 (by decide +kernel) rfl, inT mt_7 189 rfl rfl, ⟨by decide +kernel, by decide +kernel⟩, by decide +kernel⟩, inT mt_7 187 (by decide +kernel) rfl, inT mt_7 188 (by decide +kernel) rfl⟩
theorem mlX11_142 : ML RX11 142 yX9_number := Or.inl (inT mt_7 190 (by decide +kernel) rfl)
set_option maxRecDepth 100000 in
theorem mcX9_number : MCv yX9_number cX9_number 2 (some .int) 1 := ⟨⟨inT mt_1 3 (by decide +kernel) rfl, inT mt_7 193 rfl rfl, ⟨by decide +kernel, by decide +kernel⟩, by decide +kernel⟩, inT mt_7 191 (by decide +kernel) rfl, inT mt_7 192 (by decide +kernel) rfl⟩
theorem mlX9_179 : ML RX9 179 yX8_count := Or.inl (inT mt_7 194 (by decide +kernel) rfl)
set_option maxRecDepth 100000 in
theorem mcX8_count : MCv yX8_count cX8_count 3 (some .int) 0 := ⟨⟨inT mt_1 7 (by decide +kernel) rfl, inT mt_7 197 rfl rfl, ⟨by decide +kernel, by decide +kernel⟩, by decide +kernel⟩, inT mt_7 195 (by decide +kernel) rfl, inT mt_7 196 (by decide +kernel) rfl⟩
theorem mlX9_186 : ML RX9 186 yX9_bytesOfMacros := Or.inl (inT mt_7 198 (by decide +kernel) rfl)
set_option maxRecDepth 100000 in
theorem mcX9_bytesOfMacros : MCv yX9_bytesOfMacros cX9_bytesOfMacros 3 (some .int) 0 := ⟨⟨inT mt_1 3 (by decide +kernel) rfl, inT mt_7 201 rfl rfl, ⟨by decide +kernel, by decide +kernel⟩, by decide +kernel⟩, inT mt_7 200 (by decide +kernel) rfl, inT mt_0 95 (by decide +kernel) rfl⟩
theorem mlL_86 : ML RL 86 yX11_off := Or.inl (inT mt_7 202 (by decide +kernel) rfl)
set_option maxRecDepth 100000 in
theorem mcX11_off : MCv yX11_off cX11_off 1 (some .int) 0 := ⟨⟨inT mt_1 1 (by decide +kernel) rfl, inT mt_7 205 rfl rfl, ⟨by decide +kernel, by decide +kernel⟩, by decide +kernel⟩, inT mt_7 203 (by decide +kernel) rfl, inT mt_7 204 (by decide +kernel) rfl⟩
theorem mlX11_145 : ML RX11 145 yX9_dropAll := Or.inl (inT mt_7 206 (by decide +kernel) rfl)
set_option maxRecDepth 100000 in
theorem mcX9_dropAll : MCv yX9_dropAll cX9_dropAll 2 (some .int) 0 := ⟨⟨inT mt_1 3 (by decide +kernel) rfl, inT mt_7 209 rfl rfl, ⟨by decide +kernel, by decide +kernel⟩, by decide +kernel⟩, inT mt_7 207 (by decide +kernel) rfl, inT mt_7 208 (by decide +kernel) rfl⟩
theorem klL_10 : Cond.classLink RL 10 RX12 ∈ TBL := inT mt_7 210 (by decide +kernel) rfl
theorem knX12 : Cond.instantiable RX12 80 ∈ TBL := inT mt_7 211 (by decide +kernel) rfl
theorem mlL_12 : ML RL 12 yX12_init := Or.inl (inT mt_7 212 (by decide +kernel) rfl)
set_option maxRecDepth 100000 in
theorem mcX12_init : MCi yX12_init cX12_init 2 0 := ⟨⟨inT mt_1 15 (by decide +kernel) rfl, inT mt_7 214 rfl rfl, ⟨by decide +kernel, by decide +kernel⟩, by decide +kernel⟩, inT mt_7 213 (by decide +kernel) rfl, rfl⟩
theorem mlX12_1 : ML RX12 1 objectInit := Or.inl (inT mt_7 215 (by decide +kernel) rfl)
theorem kcX12_81 : Cond.constant RX12 81 (64000) ∈ TBL := inT mt_7 216 (by decide +kernel) rfl
theorem kcX12_85 : Cond.constant RX12 85 (768000) ∈ TBL := inT mt_7 217 (by decide +kernel) rfl
theorem kcX12_95 : Cond.constant RX12 95 (60008) ∈ TBL := inT mt_7 218 (by decide +kernel) rfl
theorem mlX12_143 : ML RX12 143 yX12_readCodes := Or.inl (inT mt_7 219 (by decide +kernel) rfl)
set_option maxRecDepth 100000 in
theorem mcX12_readCodes : MCv yX12_readCodes cX12_readCodes 1 none 0 := ⟨⟨inT mt_1 15 (by decide +kernel) rfl, inT mt_7 222 rfl rfl, ⟨by decide +kernel, by decide +kernel⟩, by decide +kernel⟩, inT mt_7 221 (by decide +kernel) rfl, inT mt_0 96 (by decide +kernel) rfl⟩
theorem mlX12_507 : ML RX12 507 yX12_readRow := Or.inl (inT mt_7 224 (by decide +kernel) rfl)
set_option maxRecDepth 100000 in
theorem mcX12_readRow : MCv yX12_readRow cX12_readRow 9 none 2 := ⟨⟨inT mt_1 15 (by decide +kernel) rfl, inT mt_7 227 rfl rfl, ⟨by decide +kernel, by decide +kernel⟩, by decide +kernel⟩, inT mt_7 226 (by decide +kernel) rfl, inT mt_0 97 (by decide +kernel) rfl⟩
theorem mlX12_513 : ML RX12 513 yJ0_length_8abf5 := Or.inl (inT mt_7 228 (by decide +kernel) rfl)
set_option maxRecDepth 100000 in
theorem mcJ0_length_8abf5 : MCv yJ0_length_8abf5 cJ0_length_8abf5 1 (some .int) 0 := ⟨⟨inT mt_1 16 (by decide +kernel) rfl, inT mt_7 231 rfl rfl, ⟨by decide +kernel, by decide +kernel⟩, by decide +kernel⟩, inT mt_7 229 (by decide +kernel) rfl, inT mt_7 230 (by decide +kernel) rfl⟩
theorem mlJ0_335 : ML RJ0 335 yJ0_coder_7d493 := Or.inl (inT mt_7 232 (by decide +kernel) rfl)
set_option maxRecDepth 100000 in
theorem mcJ0_coder_7d493 : MCv yJ0_coder_7d493 cJ0_coder_7d493 1 (some .byte) 0 := ⟨⟨inT mt_1 16 (by decide +kernel) rfl, inT mt_7 235 rfl rfl, ⟨by decide +kernel, by decide +kernel⟩, by decide +kernel⟩, inT mt_7 233 (by decide +kernel) rfl, inT mt_7 234 (by decide +kernel) rfl⟩
theorem gsJ0_38 : Cond.fieldLink RJ0 38 "java/lang/String" "COMPACT_STRINGS" "Z" ∈ TBL := inT mt_7 236 (by decide +kernel) rfl
theorem mlX12_518 : ML RX12 518 yJ0_charAt_5068e := Or.inl (inT mt_7 238 (by decide +kernel) rfl)
set_option maxRecDepth 100000 in
theorem mcJ0_charAt_5068e : MCv yJ0_charAt_5068e cJ0_charAt_5068e 2 (some .char) 1 := ⟨⟨inT mt_1 16 (by decide +kernel) rfl, inT mt_8 1 rfl rfl, ⟨by decide +kernel, by decide +kernel⟩, by decide +kernel⟩, inT mt_7 239 (by decide +kernel) rfl, inT mt_8 0 (by decide +kernel) rfl⟩
theorem mlJ0_492 : ML RJ0 492 yJ0_isLatin1_aae02 := Or.inl (inT mt_8 2 (by decide +kernel) rfl)
set_option maxRecDepth 100000 in
theorem mcJ0_isLatin1_aae02 : MCv yJ0_isLatin1_aae02 cJ0_isLatin1_aae02 1 (some .boolean) 0 := ⟨⟨inT mt_1 16 (by decide +kernel) rfl, inT mt_8 5 rfl rfl, ⟨by decide +kernel, by decide +kernel⟩, by decide +kernel⟩, inT mt_8 3 (by decide +kernel) rfl, inT mt_8 4 (by decide +kernel) rfl⟩
theorem mlJ0_495 : ML RJ0 495 yJ1_charAt_3b067 := Or.inl (inT mt_8 6 (by decide +kernel) rfl)
set_option maxRecDepth 100000 in
theorem mcJ1_charAt_3b067 : MCs yJ1_charAt_3b067 cJ1_charAt_3b067 2 (some .char) 2 := ⟨⟨inT mt_1 17 (by decide +kernel) rfl, inT mt_8 8 rfl rfl, ⟨by decide +kernel, by decide +kernel⟩, by decide +kernel⟩, inT mt_8 7 (by decide +kernel) rfl⟩
theorem mlJ1_9 : ML RJ1 9 yJ0_checkIndex_df160 := Or.inl (inT mt_8 9 (by decide +kernel) rfl)
set_option maxRecDepth 100000 in
theorem mcJ0_checkIndex_df160 : MCs yJ0_checkIndex_df160 cJ0_checkIndex_df160 2 none 2 := ⟨⟨inT mt_1 16 (by decide +kernel) rfl, inT mt_8 11 rfl rfl, ⟨by decide +kernel, by decide +kernel⟩, by decide +kernel⟩, inT mt_8 10 (by decide +kernel) rfl⟩
theorem gsJ0_1053 : Cond.fieldLink RJ0 1053 "jdk/internal/util/Preconditions" "SIOOBE_FORMATTER" "Ljava/util/function/BiFunction;" ∈ TBL := inT mt_8 12 (by decide +kernel) rfl
theorem mlJ0_1059 : ML RJ0 1059 yJ3_checkIndex_8e157 := Or.inl (inT mt_8 14 (by decide +kernel) rfl)
set_option maxRecDepth 100000 in
theorem mcJ3_checkIndex_8e157 : MCs yJ3_checkIndex_8e157 cJ3_checkIndex_8e157 3 (some .int) 3 := ⟨⟨inT mt_1 18 (by decide +kernel) rfl, inT mt_8 16 rfl rfl, ⟨by decide +kernel, by decide +kernel⟩, by decide +kernel⟩, inT mt_8 15 (by decide +kernel) rfl⟩
theorem mlJ0_498 : ML RJ0 498 yJ2_charAt_3b067 := Or.inl (inT mt_8 17 (by decide +kernel) rfl)
set_option maxRecDepth 100000 in
theorem mcJ2_charAt_3b067 : MCs yJ2_charAt_3b067 cJ2_charAt_3b067 2 (some .char) 2 := ⟨⟨inT mt_1 19 (by decide +kernel) rfl, inT mt_8 19 rfl rfl, ⟨by decide +kernel, by decide +kernel⟩, by decide +kernel⟩, inT mt_8 18 (by decide +kernel) rfl⟩
theorem mlJ2_67 : ML RJ2 67 yJ2_checkIndex_2214a := Or.inl (inT mt_8 20 (by decide +kernel) rfl)
set_option maxRecDepth 100000 in
theorem mcJ2_checkIndex_2214a : MCs yJ2_checkIndex_2214a cJ2_checkIndex_2214a 2 none 2 := ⟨⟨inT mt_1 19 (by decide +kernel) rfl, inT mt_8 22 rfl rfl, ⟨by decide +kernel, by decide +kernel⟩, by decide +kernel⟩, inT mt_8 21 (by decide +kernel) rfl⟩
theorem mlJ2_48 : ML RJ2 48 yJ2_length_9d52b := Or.inl (inT mt_8 23 (by decide +kernel) rfl)
set_option maxRecDepth 100000 in
theorem mcJ2_length_9d52b : MCs yJ2_length_9d52b cJ2_length_9d52b 1 (some .int) 1 := ⟨⟨inT mt_1 19 (by decide +kernel) rfl, inT mt_8 25 rfl rfl, ⟨by decide +kernel, by decide +kernel⟩, by decide +kernel⟩, inT mt_8 24 (by decide +kernel) rfl⟩
theorem mlJ2_414 : ML RJ2 414 yJ0_checkIndex_df160 := Or.inl (inT mt_8 26 (by decide +kernel) rfl)
theorem mlJ2_71 : ML RJ2 71 yJ2_getChar_3b067 := Or.inl (inT mt_8 27 (by decide +kernel) rfl)
set_option maxRecDepth 100000 in
theorem mcJ2_getChar_3b067 : MCs yJ2_getChar_3b067 cJ2_getChar_3b067 2 (some .char) 2 := ⟨⟨inT mt_1 19 (by decide +kernel) rfl, inT mt_8 29 rfl rfl, ⟨by decide +kernel, by decide +kernel⟩, by decide +kernel⟩, inT mt_8 28 (by decide +kernel) rfl⟩
theorem gsJ2_44 : Cond.fieldLink RJ2 44 "java/lang/StringUTF16" "$assertionsDisabled" "Z" ∈ TBL := inT mt_8 30 (by decide +kernel) rfl
theorem gsJ2_59 : Cond.fieldLink RJ2 59 "java/lang/StringUTF16" "HI_BYTE_SHIFT" "I" ∈ TBL := inT mt_8 32 (by decide +kernel) rfl
theorem gsJ2_63 : Cond.fieldLink RJ2 63 "java/lang/StringUTF16" "LO_BYTE_SHIFT" "I" ∈ TBL := inT mt_8 34 (by decide +kernel) rfl
theorem flX12_9 : FL RX12 9 12 0 := ⟨(RX12, TX12, 80), rfl, by decide, Or.inl (inT mt_8 37 (by decide +kernel) rfl)⟩
theorem flX12_9o : FLo RX12 9 12 0 := ⟨(RX12, TX12, 80), rfl, by decide, rfl, inT mt_8 37 (by decide +kernel) rfl⟩
theorem flX12_13 : FL RX12 13 12 1 := ⟨(RX12, TX12, 80), rfl, by decide, Or.inl (inT mt_8 38 (by decide +kernel) rfl)⟩
theorem flX12_13o : FLo RX12 13 12 1 := ⟨(RX12, TX12, 80), rfl, by decide, rfl, inT mt_8 38 (by decide +kernel) rfl⟩
theorem flX12_16 : FL RX12 16 12 2 := ⟨(RX12, TX12, 80), rfl, by decide, Or.inl (inT mt_8 39 (by decide +kernel) rfl)⟩
theorem flX12_16o : FLo RX12 16 12 2 := ⟨(RX12, TX12, 80), rfl, by decide, rfl, inT mt_8 39 (by decide +kernel) rfl⟩
theorem flX12_20 : FL RX12 20 12 3 := ⟨(RX12, TX12, 80), rfl, by decide, Or.inl (inT mt_8 40 (by decide +kernel) rfl)⟩
theorem flX12_20o : FLo RX12 20 12 3 := ⟨(RX12, TX12, 80), rfl, by decide, rfl, inT mt_8 40 (by decide +kernel) rfl⟩
theorem flX12_23 : FL RX12 23 12 4 := ⟨(RX12, TX12, 80), rfl, by decide, Or.inl (inT mt_8 41 (by decide +kernel) rfl)⟩
theorem flX12_23o : FLo RX12 23 12 4 := ⟨(RX12, TX12, 80), rfl, by decide, rfl, inT mt_8 41 (by decide +kernel) rfl⟩
theorem flX12_26 : FL RX12 26 12 5 := ⟨(RX12, TX12, 80), rfl, by decide, Or.inl (inT mt_8 42 (by decide +kernel) rfl)⟩
theorem flX12_26o : FLo RX12 26 12 5 := ⟨(RX12, TX12, 80), rfl, by decide, rfl, inT mt_8 42 (by decide +kernel) rfl⟩
theorem flX12_29 : FL RX12 29 12 6 := ⟨(RX12, TX12, 80), rfl, by decide, Or.inl (inT mt_8 43 (by decide +kernel) rfl)⟩
theorem flX12_29o : FLo RX12 29 12 6 := ⟨(RX12, TX12, 80), rfl, by decide, rfl, inT mt_8 43 (by decide +kernel) rfl⟩
theorem flX12_32 : FL RX12 32 12 7 := ⟨(RX12, TX12, 80), rfl, by decide, Or.inl (inT mt_8 44 (by decide +kernel) rfl)⟩
theorem flX12_32o : FLo RX12 32 12 7 := ⟨(RX12, TX12, 80), rfl, by decide, rfl, inT mt_8 44 (by decide +kernel) rfl⟩
theorem flX12_35 : FL RX12 35 12 8 := ⟨(RX12, TX12, 80), rfl, by decide, Or.inl (inT mt_8 45 (by decide +kernel) rfl)⟩
theorem flX12_35o : FLo RX12 35 12 8 := ⟨(RX12, TX12, 80), rfl, by decide, rfl, inT mt_8 45 (by decide +kernel) rfl⟩
theorem flX12_260 : FL RX12 260 12 9 := ⟨(RX12, TX12, 80), rfl, by decide, Or.inl (inT mt_8 46 (by decide +kernel) rfl)⟩
theorem flX12_38 : FL RX12 38 12 10 := ⟨(RX12, TX12, 80), rfl, by decide, Or.inl (inT mt_8 47 (by decide +kernel) rfl)⟩
theorem flX12_38o : FLo RX12 38 12 10 := ⟨(RX12, TX12, 80), rfl, by decide, rfl, inT mt_8 47 (by decide +kernel) rfl⟩
theorem flX12_41 : FL RX12 41 12 11 := ⟨(RX12, TX12, 80), rfl, by decide, Or.inl (inT mt_8 48 (by decide +kernel) rfl)⟩
theorem flX12_41o : FLo RX12 41 12 11 := ⟨(RX12, TX12, 80), rfl, by decide, rfl, inT mt_8 48 (by decide +kernel) rfl⟩
theorem flX12_44 : FL RX12 44 12 12 := ⟨(RX12, TX12, 80), rfl, by decide, Or.inl (inT mt_8 49 (by decide +kernel) rfl)⟩
theorem flX12_44o : FLo RX12 44 12 12 := ⟨(RX12, TX12, 80), rfl, by decide, rfl, inT mt_8 49 (by decide +kernel) rfl⟩
theorem flX12_47 : FL RX12 47 12 13 := ⟨(RX12, TX12, 80), rfl, by decide, Or.inl (inT mt_8 50 (by decide +kernel) rfl)⟩
theorem flX12_47o : FLo RX12 47 12 13 := ⟨(RX12, TX12, 80), rfl, by decide, rfl, inT mt_8 50 (by decide +kernel) rfl⟩
theorem flX12_50 : FL RX12 50 12 14 := ⟨(RX12, TX12, 80), rfl, by decide, Or.inl (inT mt_8 51 (by decide +kernel) rfl)⟩
theorem flX12_50o : FLo RX12 50 12 14 := ⟨(RX12, TX12, 80), rfl, by decide, rfl, inT mt_8 51 (by decide +kernel) rfl⟩
theorem flX12_53 : FL RX12 53 12 15 := ⟨(RX12, TX12, 80), rfl, by decide, Or.inl (inT mt_8 52 (by decide +kernel) rfl)⟩
theorem flX12_53o : FLo RX12 53 12 15 := ⟨(RX12, TX12, 80), rfl, by decide, rfl, inT mt_8 52 (by decide +kernel) rfl⟩
theorem flX12_56 : FL RX12 56 12 16 := ⟨(RX12, TX12, 80), rfl, by decide, Or.inl (inT mt_8 53 (by decide +kernel) rfl)⟩
theorem flX12_56o : FLo RX12 56 12 16 := ⟨(RX12, TX12, 80), rfl, by decide, rfl, inT mt_8 53 (by decide +kernel) rfl⟩
theorem flX12_59 : FL RX12 59 12 17 := ⟨(RX12, TX12, 80), rfl, by decide, Or.inl (inT mt_8 54 (by decide +kernel) rfl)⟩
theorem flX12_59o : FLo RX12 59 12 17 := ⟨(RX12, TX12, 80), rfl, by decide, rfl, inT mt_8 54 (by decide +kernel) rfl⟩
theorem flX12_62 : FL RX12 62 12 18 := ⟨(RX12, TX12, 80), rfl, by decide, Or.inl (inT mt_8 55 (by decide +kernel) rfl)⟩
theorem flX12_62o : FLo RX12 62 12 18 := ⟨(RX12, TX12, 80), rfl, by decide, rfl, inT mt_8 55 (by decide +kernel) rfl⟩
theorem flX12_66 : FL RX12 66 12 19 := ⟨(RX12, TX12, 80), rfl, by decide, Or.inl (inT mt_8 56 (by decide +kernel) rfl)⟩
theorem flX12_66o : FLo RX12 66 12 19 := ⟨(RX12, TX12, 80), rfl, by decide, rfl, inT mt_8 56 (by decide +kernel) rfl⟩
theorem flX12_69 : FL RX12 69 12 20 := ⟨(RX12, TX12, 80), rfl, by decide, Or.inl (inT mt_8 57 (by decide +kernel) rfl)⟩
theorem flX12_69o : FLo RX12 69 12 20 := ⟨(RX12, TX12, 80), rfl, by decide, rfl, inT mt_8 57 (by decide +kernel) rfl⟩
theorem flX12_72 : FL RX12 72 12 21 := ⟨(RX12, TX12, 80), rfl, by decide, Or.inl (inT mt_8 58 (by decide +kernel) rfl)⟩
theorem flX12_72o : FLo RX12 72 12 21 := ⟨(RX12, TX12, 80), rfl, by decide, rfl, inT mt_8 58 (by decide +kernel) rfl⟩
theorem flX12_153 : FL RX12 153 12 22 := ⟨(RX12, TX12, 80), rfl, by decide, Or.inl (inT mt_8 59 (by decide +kernel) rfl)⟩
theorem flX12_75 : FL RX12 75 12 23 := ⟨(RX12, TX12, 80), rfl, by decide, Or.inl (inT mt_8 60 (by decide +kernel) rfl)⟩
theorem flX12_75o : FLo RX12 75 12 23 := ⟨(RX12, TX12, 80), rfl, by decide, rfl, inT mt_8 60 (by decide +kernel) rfl⟩
theorem flX12_146 : FL RX12 146 12 24 := ⟨(RX12, TX12, 80), rfl, by decide, Or.inl (inT mt_8 61 (by decide +kernel) rfl)⟩
theorem flX12_78 : FL RX12 78 12 25 := ⟨(RX12, TX12, 80), rfl, by decide, Or.inl (inT mt_8 62 (by decide +kernel) rfl)⟩
theorem flX12_78o : FLo RX12 78 12 25 := ⟨(RX12, TX12, 80), rfl, by decide, rfl, inT mt_8 62 (by decide +kernel) rfl⟩
theorem flX12_272 : FL RX12 272 12 26 := ⟨(RX12, TX12, 80), rfl, by decide, Or.inl (inT mt_8 63 (by decide +kernel) rfl)⟩
theorem flX12_263 : FL RX12 263 12 27 := ⟨(RX12, TX12, 80), rfl, by decide, Or.inl (inT mt_8 64 (by decide +kernel) rfl)⟩
theorem flX12_266 : FL RX12 266 12 28 := ⟨(RX12, TX12, 80), rfl, by decide, Or.inl (inT mt_8 65 (by decide +kernel) rfl)⟩
theorem flX12_222 : FL RX12 222 12 29 := ⟨(RX12, TX12, 80), rfl, by decide, Or.inl (inT mt_8 66 (by decide +kernel) rfl)⟩
theorem flX12_279 : FL RX12 279 12 30 := ⟨(RX12, TX12, 80), rfl, by decide, Or.inl (inT mt_8 67 (by decide +kernel) rfl)⟩
theorem flX12_219 : FL RX12 219 12 31 := ⟨(RX12, TX12, 80), rfl, by decide, Or.inl (inT mt_8 68 (by decide +kernel) rfl)⟩
theorem flX12_275 : FL RX12 275 12 32 := ⟨(RX12, TX12, 80), rfl, by decide, Or.inl (inT mt_8 69 (by decide +kernel) rfl)⟩
theorem flX12_191 : FL RX12 191 12 33 := ⟨(RX12, TX12, 80), rfl, by decide, Or.inl (inT mt_8 70 (by decide +kernel) rfl)⟩
theorem flX12_82 : FL RX12 82 12 34 := ⟨(RX12, TX12, 80), rfl, by decide, Or.inl (inT mt_8 71 (by decide +kernel) rfl)⟩
theorem flX12_82o : FLo RX12 82 12 34 := ⟨(RX12, TX12, 80), rfl, by decide, rfl, inT mt_8 71 (by decide +kernel) rfl⟩
theorem flX12_182 : FL RX12 182 12 35 := ⟨(RX12, TX12, 80), rfl, by decide, Or.inl (inT mt_8 72 (by decide +kernel) rfl)⟩
theorem flX12_195 : FL RX12 195 12 36 := ⟨(RX12, TX12, 80), rfl, by decide, Or.inl (inT mt_8 73 (by decide +kernel) rfl)⟩
theorem flX12_86 : FL RX12 86 12 37 := ⟨(RX12, TX12, 80), rfl, by decide, Or.inl (inT mt_8 74 (by decide +kernel) rfl)⟩
theorem flX12_86o : FLo RX12 86 12 37 := ⟨(RX12, TX12, 80), rfl, by decide, rfl, inT mt_8 74 (by decide +kernel) rfl⟩
theorem flX12_89 : FL RX12 89 12 38 := ⟨(RX12, TX12, 80), rfl, by decide, Or.inl (inT mt_8 75 (by decide +kernel) rfl)⟩
theorem flX12_89o : FLo RX12 89 12 38 := ⟨(RX12, TX12, 80), rfl, by decide, rfl, inT mt_8 75 (by decide +kernel) rfl⟩
theorem flX12_92 : FL RX12 92 12 39 := ⟨(RX12, TX12, 80), rfl, by decide, Or.inl (inT mt_8 76 (by decide +kernel) rfl)⟩
theorem flX12_92o : FLo RX12 92 12 39 := ⟨(RX12, TX12, 80), rfl, by decide, rfl, inT mt_8 76 (by decide +kernel) rfl⟩
theorem flX12_198 : FL RX12 198 12 40 := ⟨(RX12, TX12, 80), rfl, by decide, Or.inl (inT mt_8 77 (by decide +kernel) rfl)⟩
theorem flX12_96 : FL RX12 96 12 41 := ⟨(RX12, TX12, 80), rfl, by decide, Or.inl (inT mt_8 78 (by decide +kernel) rfl)⟩
theorem flX12_96o : FLo RX12 96 12 41 := ⟨(RX12, TX12, 80), rfl, by decide, rfl, inT mt_8 78 (by decide +kernel) rfl⟩
theorem flX12_543 : FL RX12 543 12 42 := ⟨(RX12, TX12, 80), rfl, by decide, Or.inl (inT mt_8 79 (by decide +kernel) rfl)⟩
theorem flX12_586 : FL RX12 586 12 43 := ⟨(RX12, TX12, 80), rfl, by decide, Or.inl (inT mt_8 80 (by decide +kernel) rfl)⟩
theorem flX12_136 : FL RX12 136 12 44 := ⟨(RX12, TX12, 80), rfl, by decide, Or.inl (inT mt_8 81 (by decide +kernel) rfl)⟩
theorem flX12_140 : FL RX12 140 12 45 := ⟨(RX12, TX12, 80), rfl, by decide, Or.inl (inT mt_8 82 (by decide +kernel) rfl)⟩
theorem flX12_99 : FL RX12 99 12 46 := ⟨(RX12, TX12, 80), rfl, by decide, Or.inl (inT mt_8 83 (by decide +kernel) rfl)⟩
theorem flX12_99o : FLo RX12 99 12 46 := ⟨(RX12, TX12, 80), rfl, by decide, rfl, inT mt_8 83 (by decide +kernel) rfl⟩
theorem flX12_661 : FL RX12 661 12 47 := ⟨(RX12, TX12, 80), rfl, by decide, Or.inl (inT mt_8 84 (by decide +kernel) rfl)⟩
theorem flX12_102 : FL RX12 102 12 48 := ⟨(RX12, TX12, 80), rfl, by decide, Or.inl (inT mt_8 85 (by decide +kernel) rfl)⟩
theorem flX12_102o : FLo RX12 102 12 48 := ⟨(RX12, TX12, 80), rfl, by decide, rfl, inT mt_8 85 (by decide +kernel) rfl⟩
theorem flX12_185 : FL RX12 185 12 49 := ⟨(RX12, TX12, 80), rfl, by decide, Or.inl (inT mt_8 86 (by decide +kernel) rfl)⟩
theorem flX12_105 : FL RX12 105 12 50 := ⟨(RX12, TX12, 80), rfl, by decide, Or.inl (inT mt_8 87 (by decide +kernel) rfl)⟩
theorem flX12_105o : FLo RX12 105 12 50 := ⟨(RX12, TX12, 80), rfl, by decide, rfl, inT mt_8 87 (by decide +kernel) rfl⟩
theorem flX12_379 : FL RX12 379 12 51 := ⟨(RX12, TX12, 80), rfl, by decide, Or.inl (inT mt_8 88 (by decide +kernel) rfl)⟩
theorem flX12_370 : FL RX12 370 12 52 := ⟨(RX12, TX12, 80), rfl, by decide, Or.inl (inT mt_8 89 (by decide +kernel) rfl)⟩
theorem flX12_384 : FL RX12 384 12 53 := ⟨(RX12, TX12, 80), rfl, by decide, Or.inl (inT mt_8 90 (by decide +kernel) rfl)⟩
theorem flX12_376 : FL RX12 376 12 54 := ⟨(RX12, TX12, 80), rfl, by decide, Or.inl (inT mt_8 91 (by decide +kernel) rfl)⟩
theorem flX12_496 : FL RX12 496 12 55 := ⟨(RX12, TX12, 80), rfl, by decide, Or.inl (inT mt_8 92 (by decide +kernel) rfl)⟩
theorem flX12_108 : FL RX12 108 12 56 := ⟨(RX12, TX12, 80), rfl, by decide, Or.inl (inT mt_8 93 (by decide +kernel) rfl)⟩
theorem flX12_108o : FLo RX12 108 12 56 := ⟨(RX12, TX12, 80), rfl, by decide, rfl, inT mt_8 93 (by decide +kernel) rfl⟩
theorem flX12_111 : FL RX12 111 12 57 := ⟨(RX12, TX12, 80), rfl, by decide, Or.inl (inT mt_8 94 (by decide +kernel) rfl)⟩
theorem flX12_111o : FLo RX12 111 12 57 := ⟨(RX12, TX12, 80), rfl, by decide, rfl, inT mt_8 94 (by decide +kernel) rfl⟩
theorem flX12_114 : FL RX12 114 12 58 := ⟨(RX12, TX12, 80), rfl, by decide, Or.inl (inT mt_8 95 (by decide +kernel) rfl)⟩
theorem flX12_114o : FLo RX12 114 12 58 := ⟨(RX12, TX12, 80), rfl, by decide, rfl, inT mt_8 95 (by decide +kernel) rfl⟩
theorem flX12_117 : FL RX12 117 12 59 := ⟨(RX12, TX12, 80), rfl, by decide, Or.inl (inT mt_8 96 (by decide +kernel) rfl)⟩
theorem flX12_117o : FLo RX12 117 12 59 := ⟨(RX12, TX12, 80), rfl, by decide, rfl, inT mt_8 96 (by decide +kernel) rfl⟩
theorem flX12_528 : FL RX12 528 12 60 := ⟨(RX12, TX12, 80), rfl, by decide, Or.inl (inT mt_8 97 (by decide +kernel) rfl)⟩
theorem flX12_525 : FL RX12 525 12 61 := ⟨(RX12, TX12, 80), rfl, by decide, Or.inl (inT mt_8 98 (by decide +kernel) rfl)⟩
theorem flX12_522 : FL RX12 522 12 62 := ⟨(RX12, TX12, 80), rfl, by decide, Or.inl (inT mt_8 99 (by decide +kernel) rfl)⟩
theorem flX12_531 : FL RX12 531 12 63 := ⟨(RX12, TX12, 80), rfl, by decide, Or.inl (inT mt_8 100 (by decide +kernel) rfl)⟩
theorem flX12_537 : FL RX12 537 12 64 := ⟨(RX12, TX12, 80), rfl, by decide, Or.inl (inT mt_8 101 (by decide +kernel) rfl)⟩
theorem flX12_534 : FL RX12 534 12 65 := ⟨(RX12, TX12, 80), rfl, by decide, Or.inl (inT mt_8 102 (by decide +kernel) rfl)⟩
theorem flX12_567 : FL RX12 567 12 66 := ⟨(RX12, TX12, 80), rfl, by decide, Or.inl (inT mt_8 103 (by decide +kernel) rfl)⟩
theorem flX12_580 : FL RX12 580 12 67 := ⟨(RX12, TX12, 80), rfl, by decide, Or.inl (inT mt_8 104 (by decide +kernel) rfl)⟩
theorem flX12_589 : FL RX12 589 12 68 := ⟨(RX12, TX12, 80), rfl, by decide, Or.inl (inT mt_8 105 (by decide +kernel) rfl)⟩
theorem flX12_583 : FL RX12 583 12 69 := ⟨(RX12, TX12, 80), rfl, by decide, Or.inl (inT mt_8 106 (by decide +kernel) rfl)⟩
theorem flX12_120 : FL RX12 120 12 70 := ⟨(RX12, TX12, 80), rfl, by decide, Or.inl (inT mt_8 107 (by decide +kernel) rfl)⟩
theorem flX12_120o : FLo RX12 120 12 70 := ⟨(RX12, TX12, 80), rfl, by decide, rfl, inT mt_8 107 (by decide +kernel) rfl⟩
theorem flX12_598 : FL RX12 598 12 71 := ⟨(RX12, TX12, 80), rfl, by decide, Or.inl (inT mt_8 108 (by decide +kernel) rfl)⟩
theorem flX12_123 : FL RX12 123 12 72 := ⟨(RX12, TX12, 80), rfl, by decide, Or.inl (inT mt_8 109 (by decide +kernel) rfl)⟩
theorem flX12_123o : FLo RX12 123 12 72 := ⟨(RX12, TX12, 80), rfl, by decide, rfl, inT mt_8 109 (by decide +kernel) rfl⟩
theorem flX12_126 : FL RX12 126 12 73 := ⟨(RX12, TX12, 80), rfl, by decide, Or.inl (inT mt_8 110 (by decide +kernel) rfl)⟩
theorem flX12_126o : FLo RX12 126 12 73 := ⟨(RX12, TX12, 80), rfl, by decide, rfl, inT mt_8 110 (by decide +kernel) rfl⟩
theorem flX12_130 : FL RX12 130 12 74 := ⟨(RX12, TX12, 80), rfl, by decide, Or.inl (inT mt_8 111 (by decide +kernel) rfl)⟩
theorem flX12_130o : FLo RX12 130 12 74 := ⟨(RX12, TX12, 80), rfl, by decide, rfl, inT mt_8 111 (by decide +kernel) rfl⟩
theorem flX12_133 : FL RX12 133 12 75 := ⟨(RX12, TX12, 80), rfl, by decide, Or.inl (inT mt_8 112 (by decide +kernel) rfl)⟩
theorem flX12_133o : FLo RX12 133 12 75 := ⟨(RX12, TX12, 80), rfl, by decide, rfl, inT mt_8 112 (by decide +kernel) rfl⟩
theorem flX12_626 : FL RX12 626 12 76 := ⟨(RX12, TX12, 80), rfl, by decide, Or.inl (inT mt_8 113 (by decide +kernel) rfl)⟩
theorem flX12_629 : FL RX12 629 12 77 := ⟨(RX12, TX12, 80), rfl, by decide, Or.inl (inT mt_8 114 (by decide +kernel) rfl)⟩
theorem flX12_632 : FL RX12 632 12 78 := ⟨(RX12, TX12, 80), rfl, by decide, Or.inl (inT mt_8 115 (by decide +kernel) rfl)⟩
theorem flX12_635 : FL RX12 635 12 79 := ⟨(RX12, TX12, 80), rfl, by decide, Or.inl (inT mt_8 116 (by decide +kernel) rfl)⟩
theorem mlL_17 : ML RL 17 yX12_feed := Or.inl (inT mt_9 38 (by decide +kernel) rfl)
set_option maxRecDepth 100000 in
theorem mcX12_feed : MCv yX12_feed cX12_feed 6 (some .int) 5 := ⟨⟨inT mt_1 15 (by decide +kernel) rfl, inT mt_9 41 rfl rfl, ⟨by decide +kernel, by decide +kernel⟩, by decide +kernel⟩, inT mt_9 39 (by decide +kernel) rfl, inT mt_9 40 (by decide +kernel) rfl⟩
theorem mlX12_149 : ML RX12 149 yX12_lay := Or.inl (inT mt_9 42 (by decide +kernel) rfl)
set_option maxRecDepth 100000 in
theorem mcX12_lay : MCv yX12_lay cX12_lay 3 none 1 := ⟨⟨inT mt_1 15 (by decide +kernel) rfl, inT mt_9 45 rfl rfl, ⟨by decide +kernel, by decide +kernel⟩, by decide +kernel⟩, inT mt_9 44 (by decide +kernel) rfl, inT mt_0 98 (by decide +kernel) rfl⟩
theorem mlL_22 : ML RL 22 yX12_cut := Or.inl (inT mt_9 46 (by decide +kernel) rfl)
set_option maxRecDepth 100000 in
theorem mcX12_cut : MCv yX12_cut cX12_cut 3 (some .int) 1 := ⟨⟨inT mt_1 15 (by decide +kernel) rfl, inT mt_9 49 rfl rfl, ⟨by decide +kernel, by decide +kernel⟩, by decide +kernel⟩, inT mt_9 47 (by decide +kernel) rfl, inT mt_9 48 (by decide +kernel) rfl⟩
theorem mlL_26 : ML RL 26 yX12_part := Or.inl (inT mt_9 50 (by decide +kernel) rfl)
set_option maxRecDepth 100000 in
theorem mcX12_part : MCv yX12_part cX12_part 4 (some .int) 1 := ⟨⟨inT mt_1 15 (by decide +kernel) rfl, inT mt_9 53 rfl rfl, ⟨by decide +kernel, by decide +kernel⟩, by decide +kernel⟩, inT mt_9 51 (by decide +kernel) rfl, inT mt_9 52 (by decide +kernel) rfl⟩
theorem mlL_31 : ML RL 31 yX12_drop := Or.inl (inT mt_9 54 (by decide +kernel) rfl)
set_option maxRecDepth 100000 in
theorem mcX12_drop : MCv yX12_drop cX12_drop 2 (some .int) 0 := ⟨⟨inT mt_1 15 (by decide +kernel) rfl, inT mt_9 57 rfl rfl, ⟨by decide +kernel, by decide +kernel⟩, by decide +kernel⟩, inT mt_9 55 (by decide +kernel) rfl, inT mt_9 56 (by decide +kernel) rfl⟩
theorem mlL_35 : ML RL 35 yX12_print := Or.inl (inT mt_9 58 (by decide +kernel) rfl)
set_option maxRecDepth 100000 in
theorem mcX12_print : MCv yX12_print cX12_print 4 (some .int) 1 := ⟨⟨inT mt_1 15 (by decide +kernel) rfl, inT mt_9 61 rfl rfl, ⟨by decide +kernel, by decide +kernel⟩, by decide +kernel⟩, inT mt_9 59 (by decide +kernel) rfl, inT mt_9 60 (by decide +kernel) rfl⟩
theorem mlX12_241 : ML RX12 241 yX12_white := Or.inl (inT mt_9 62 (by decide +kernel) rfl)
set_option maxRecDepth 100000 in
theorem mcX12_white : MCv yX12_white cX12_white 2 none 0 := ⟨⟨inT mt_1 15 (by decide +kernel) rfl, inT mt_9 65 rfl rfl, ⟨by decide +kernel, by decide +kernel⟩, by decide +kernel⟩, inT mt_9 64 (by decide +kernel) rfl, inT mt_0 99 (by decide +kernel) rfl⟩
theorem mlX12_655 : ML RX12 655 yX12_stream := Or.inl (inT mt_9 66 (by decide +kernel) rfl)
set_option maxRecDepth 100000 in
theorem mcX12_stream : MCv yX12_stream cX12_stream 2 none 1 := ⟨⟨inT mt_1 15 (by decide +kernel) rfl, inT mt_9 69 rfl rfl, ⟨by decide +kernel, by decide +kernel⟩, by decide +kernel⟩, inT mt_9 68 (by decide +kernel) rfl, inT mt_0 100 (by decide +kernel) rfl⟩
theorem mlX12_228 : ML RX12 228 yX12_reset := Or.inl (inT mt_9 70 (by decide +kernel) rfl)
set_option maxRecDepth 100000 in
theorem mcX12_reset : MCv yX12_reset cX12_reset 4 none 2 := ⟨⟨inT mt_1 15 (by decide +kernel) rfl, inT mt_9 73 rfl rfl, ⟨by decide +kernel, by decide +kernel⟩, by decide +kernel⟩, inT mt_9 72 (by decide +kernel) rfl, inT mt_0 101 (by decide +kernel) rfl⟩
theorem mlX12_216 : ML RX12 216 yX12_pagesOwn := Or.inl (inT mt_9 74 (by decide +kernel) rfl)
set_option maxRecDepth 100000 in
theorem mcX12_pagesOwn : MCv yX12_pagesOwn cX12_pagesOwn 1 none 0 := ⟨⟨inT mt_1 15 (by decide +kernel) rfl, inT mt_9 77 rfl rfl, ⟨by decide +kernel, by decide +kernel⟩, by decide +kernel⟩, inT mt_9 76 (by decide +kernel) rfl, inT mt_0 102 (by decide +kernel) rfl⟩
theorem mlX12_172 : ML RX12 172 yX12_wide := Or.inl (inT mt_9 78 (by decide +kernel) rfl)
set_option maxRecDepth 100000 in
theorem mcX12_wide : MCv yX12_wide cX12_wide 1 (some .int) 0 := ⟨⟨inT mt_1 15 (by decide +kernel) rfl, inT mt_9 81 rfl rfl, ⟨by decide +kernel, by decide +kernel⟩, by decide +kernel⟩, inT mt_9 80 (by decide +kernel) rfl, inT mt_0 103 (by decide +kernel) rfl⟩
theorem mlX12_156 : ML RX12 156 yX12_pageWide := Or.inl (inT mt_9 82 (by decide +kernel) rfl)
set_option maxRecDepth 100000 in
theorem mcX12_pageWide : MCs yX12_pageWide cX12_pageWide 1 (some .int) 1 := ⟨⟨inT mt_1 15 (by decide +kernel) rfl, inT mt_9 84 rfl rfl, ⟨by decide +kernel, by decide +kernel⟩, by decide +kernel⟩, inT mt_9 83 (by decide +kernel) rfl⟩
theorem mlX12_160 : ML RX12 160 yX12_pageHigh := Or.inl (inT mt_9 85 (by decide +kernel) rfl)
set_option maxRecDepth 100000 in
theorem mcX12_pageHigh : MCs yX12_pageHigh cX12_pageHigh 1 (some .int) 1 := ⟨⟨inT mt_1 15 (by decide +kernel) rfl, inT mt_9 87 rfl rfl, ⟨by decide +kernel, by decide +kernel⟩, by decide +kernel⟩, inT mt_9 86 (by decide +kernel) rfl⟩
theorem mlX12_176 : ML RX12 176 yX12_high := Or.inl (inT mt_9 88 (by decide +kernel) rfl)
set_option maxRecDepth 100000 in
theorem mcX12_high : MCv yX12_high cX12_high 1 (some .int) 0 := ⟨⟨inT mt_1 15 (by decide +kernel) rfl, inT mt_9 91 rfl rfl, ⟨by decide +kernel, by decide +kernel⟩, by decide +kernel⟩, inT mt_9 90 (by decide +kernel) rfl, inT mt_0 104 (by decide +kernel) rfl⟩
theorem mlX12_210 : ML RX12 210 yX12_setX := Or.inl (inT mt_9 92 (by decide +kernel) rfl)
set_option maxRecDepth 100000 in
theorem mcX12_setX : MCv yX12_setX cX12_setX 5 none 1 := ⟨⟨inT mt_1 15 (by decide +kernel) rfl, inT mt_9 95 rfl rfl, ⟨by decide +kernel, by decide +kernel⟩, by decide +kernel⟩, inT mt_9 94 (by decide +kernel) rfl, inT mt_0 105 (by decide +kernel) rfl⟩
theorem kcX12_204 : Cond.constantLong RX12 204 (96) ∈ TBL := inT mt_9 96 (by decide +kernel) rfl
theorem mlX12_213 : ML RX12 213 yX12_homeY := Or.inl (inT mt_9 97 (by decide +kernel) rfl)
set_option maxRecDepth 100000 in
theorem mcX12_homeY : MCv yX12_homeY cX12_homeY 1 none 0 := ⟨⟨inT mt_1 15 (by decide +kernel) rfl, inT mt_9 100 rfl rfl, ⟨by decide +kernel, by decide +kernel⟩, by decide +kernel⟩, inT mt_9 99 (by decide +kernel) rfl, inT mt_0 106 (by decide +kernel) rfl⟩
theorem mlX12_206 : ML RX12 206 yX12_setY := Or.inl (inT mt_9 101 (by decide +kernel) rfl)
set_option maxRecDepth 100000 in
theorem mcX12_setY : MCv yX12_setY cX12_setY 5 none 1 := ⟨⟨inT mt_1 15 (by decide +kernel) rfl, inT mt_9 104 rfl rfl, ⟨by decide +kernel, by decide +kernel⟩, by decide +kernel⟩, inT mt_9 103 (by decide +kernel) rfl, inT mt_0 107 (by decide +kernel) rfl⟩
theorem mlX12_282 : ML RX12 282 yX12_run := Or.inl (inT mt_9 105 (by decide +kernel) rfl)
set_option maxRecDepth 100000 in
theorem mcX12_run : MCv yX12_run cX12_run 2 none 0 := ⟨⟨inT mt_1 15 (by decide +kernel) rfl, inT mt_9 108 rfl rfl, ⟨by decide +kernel, by decide +kernel⟩, by decide +kernel⟩, inT mt_9 107 (by decide +kernel) rfl, inT mt_0 108 (by decide +kernel) rfl⟩
theorem mlX12_285 : ML RX12 285 yX12_hasMore := Or.inl (inT mt_9 109 (by decide +kernel) rfl)
set_option maxRecDepth 100000 in
theorem mcX12_hasMore : MCv yX12_hasMore cX12_hasMore 1 (some .boolean) 0 := ⟨⟨inT mt_1 15 (by decide +kernel) rfl, inT mt_9 112 rfl rfl, ⟨by decide +kernel, by decide +kernel⟩, by decide +kernel⟩, inT mt_9 111 (by decide +kernel) rfl, inT mt_0 109 (by decide +kernel) rfl⟩
theorem mlX12_289 : ML RX12 289 yX12_next := Or.inl (inT mt_9 113 (by decide +kernel) rfl)
set_option maxRecDepth 100000 in
theorem mcX12_next : MCv yX12_next cX12_next 2 (some .int) 0 := ⟨⟨inT mt_1 15 (by decide +kernel) rfl, inT mt_9 116 rfl rfl, ⟨by decide +kernel, by decide +kernel⟩, by decide +kernel⟩, inT mt_9 115 (by decide +kernel) rfl, inT mt_0 110 (by decide +kernel) rfl⟩
theorem mlX12_269 : ML RX12 269 yX12_count := Or.inl (inT mt_9 117 (by decide +kernel) rfl)
set_option maxRecDepth 100000 in
theorem mcX12_count : MCv yX12_count cX12_count 2 none 1 := ⟨⟨inT mt_1 15 (by decide +kernel) rfl, inT mt_9 120 rfl rfl, ⟨by decide +kernel, by decide +kernel⟩, by decide +kernel⟩, inT mt_9 119 (by decide +kernel) rfl, inT mt_0 111 (by decide +kernel) rfl⟩
theorem kcX12_278 : Cond.constant RX12 278 (60000) ∈ TBL := inT mt_9 121 (by decide +kernel) rfl
theorem mlX12_292 : ML RX12 292 yX12_escape := Or.inl (inT mt_9 122 (by decide +kernel) rfl)
set_option maxRecDepth 100000 in
theorem mcX12_escape : MCv yX12_escape cX12_escape 7 none 0 := ⟨⟨inT mt_1 15 (by decide +kernel) rfl, inT mt_9 125 rfl rfl, ⟨by decide +kernel, by decide +kernel⟩, by decide +kernel⟩, inT mt_9 124 (by decide +kernel) rfl, inT mt_0 112 (by decide +kernel) rfl⟩
theorem mlX12_358 : ML RX12 358 yX12_peek := Or.inl (inT mt_9 126 (by decide +kernel) rfl)
set_option maxRecDepth 100000 in
theorem mcX12_peek : MCv yX12_peek cX12_peek 1 (some .int) 0 := ⟨⟨inT mt_1 15 (by decide +kernel) rfl, inT mt_9 129 rfl rfl, ⟨by decide +kernel, by decide +kernel⟩, by decide +kernel⟩, inT mt_9 128 (by decide +kernel) rfl, inT mt_0 113 (by decide +kernel) rfl⟩
theorem mlX12_361 : ML RX12 361 yX12_pair := Or.inl (inT mt_9 130 (by decide +kernel) rfl)
set_option maxRecDepth 100000 in
theorem mcX12_pair : MCv yX12_pair cX12_pair 2 none 1 := ⟨⟨inT mt_1 15 (by decide +kernel) rfl, inT mt_9 133 rfl rfl, ⟨by decide +kernel, by decide +kernel⟩, by decide +kernel⟩, inT mt_9 132 (by decide +kernel) rfl, inT mt_0 114 (by decide +kernel) rfl⟩
theorem mlX12_307 : ML RX12 307 yX12_eject := Or.inl (inT mt_9 134 (by decide +kernel) rfl)
set_option maxRecDepth 100000 in
theorem mcX12_eject : MCv yX12_eject cX12_eject 4 none 0 := ⟨⟨inT mt_1 15 (by decide +kernel) rfl, inT mt_9 137 rfl rfl, ⟨by decide +kernel, by decide +kernel⟩, by decide +kernel⟩, inT mt_9 136 (by decide +kernel) rfl, inT mt_0 115 (by decide +kernel) rfl⟩
theorem mlX12_225 : ML RX12 225 yX12_save := Or.inl (inT mt_9 138 (by decide +kernel) rfl)
set_option maxRecDepth 100000 in
theorem mcX12_save : MCv yX12_save cX12_save 3 none 1 := ⟨⟨inT mt_1 15 (by decide +kernel) rfl, inT mt_9 141 rfl rfl, ⟨by decide +kernel, by decide +kernel⟩, by decide +kernel⟩, inT mt_9 140 (by decide +kernel) rfl, inT mt_0 116 (by decide +kernel) rfl⟩
theorem mlX12_232 : ML RX12 232 yX12_through := Or.inl (inT mt_9 142 (by decide +kernel) rfl)
set_option maxRecDepth 100000 in
theorem mcX12_through : MCv yX12_through cX12_through 8 none 1 := ⟨⟨inT mt_1 15 (by decide +kernel) rfl, inT mt_9 145 rfl rfl, ⟨by decide +kernel, by decide +kernel⟩, by decide +kernel⟩, inT mt_9 144 (by decide +kernel) rfl, inT mt_0 117 (by decide +kernel) rfl⟩
theorem mlX12_235 : ML RX12 235 yX12_back := Or.inl (inT mt_9 146 (by decide +kernel) rfl)
set_option maxRecDepth 100000 in
theorem mcX12_back : MCv yX12_back cX12_back 3 none 1 := ⟨⟨inT mt_1 15 (by decide +kernel) rfl, inT mt_9 149 rfl rfl, ⟨by decide +kernel, by decide +kernel⟩, by decide +kernel⟩, inT mt_9 148 (by decide +kernel) rfl, inT mt_0 118 (by decide +kernel) rfl⟩
theorem mlX12_238 : ML RX12 238 yX12_comes := Or.inl (inT mt_9 150 (by decide +kernel) rfl)
set_option maxRecDepth 100000 in
theorem mcX12_comes : MCv yX12_comes cX12_comes 4 none 2 := ⟨⟨inT mt_1 15 (by decide +kernel) rfl, inT mt_9 153 rfl rfl, ⟨by decide +kernel, by decide +kernel⟩, by decide +kernel⟩, inT mt_9 152 (by decide +kernel) rfl, inT mt_0 119 (by decide +kernel) rfl⟩
theorem mlX12_201 : ML RX12 201 yX12_written := Or.inl (inT mt_9 154 (by decide +kernel) rfl)
set_option maxRecDepth 100000 in
theorem mcX12_written : MCv yX12_written cX12_written 6 none 1 := ⟨⟨inT mt_1 15 (by decide +kernel) rfl, inT mt_9 157 rfl rfl, ⟨by decide +kernel, by decide +kernel⟩, by decide +kernel⟩, inT mt_9 156 (by decide +kernel) rfl, inT mt_0 120 (by decide +kernel) rfl⟩
theorem mlX12_540 : ML RX12 540 yX12_outByte := Or.inl (inT mt_9 158 (by decide +kernel) rfl)
set_option maxRecDepth 100000 in
theorem mcX12_outByte : MCv yX12_outByte cX12_outByte 2 none 1 := ⟨⟨inT mt_1 15 (by decide +kernel) rfl, inT mt_9 161 rfl rfl, ⟨by decide +kernel, by decide +kernel⟩, by decide +kernel⟩, inT mt_9 160 (by decide +kernel) rfl, inT mt_0 121 (by decide +kernel) rfl⟩
theorem kcX12_561 : Cond.constantLong RX12 561 (42) ∈ TBL := inT mt_9 162 (by decide +kernel) rfl
theorem mlX12_563 : ML RX12 563 yX12_outNumber := Or.inl (inT mt_9 163 (by decide +kernel) rfl)
set_option maxRecDepth 100000 in
theorem mcX12_outNumber : MCv yX12_outNumber cX12_outNumber 5 none 2 := ⟨⟨inT mt_1 15 (by decide +kernel) rfl, inT mt_9 166 rfl rfl, ⟨by decide +kernel, by decide +kernel⟩, by decide +kernel⟩, inT mt_9 165 (by decide +kernel) rfl, inT mt_0 122 (by decide +kernel) rfl⟩
theorem mlX12_570 : ML RX12 570 yX12_writeRow := Or.inl (inT mt_9 167 (by decide +kernel) rfl)
set_option maxRecDepth 100000 in
theorem mcX12_writeRow : MCv yX12_writeRow cX12_writeRow 5 none 0 := ⟨⟨inT mt_1 15 (by decide +kernel) rfl, inT mt_9 170 rfl rfl, ⟨by decide +kernel, by decide +kernel⟩, by decide +kernel⟩, inT mt_9 169 (by decide +kernel) rfl, inT mt_0 123 (by decide +kernel) rfl⟩
theorem mlX12_549 : ML RX12 549 yX12_change := Or.inl (inT mt_9 171 (by decide +kernel) rfl)
set_option maxRecDepth 100000 in
theorem mcX12_change : MCv yX12_change cX12_change 4 (some .int) 2 := ⟨⟨inT mt_1 15 (by decide +kernel) rfl, inT mt_9 174 rfl rfl, ⟨by decide +kernel, by decide +kernel⟩, by decide +kernel⟩, inT mt_9 173 (by decide +kernel) rfl, inT mt_0 124 (by decide +kernel) rfl⟩
theorem mlX12_552 : ML RX12 552 yX12_b1 := Or.inl (inT mt_9 175 (by decide +kernel) rfl)
set_option maxRecDepth 100000 in
theorem mcX12_b1 : MCv yX12_b1 cX12_b1 3 (some .int) 0 := ⟨⟨inT mt_1 15 (by decide +kernel) rfl, inT mt_9 178 rfl rfl, ⟨by decide +kernel, by decide +kernel⟩, by decide +kernel⟩, inT mt_9 177 (by decide +kernel) rfl, inT mt_0 125 (by decide +kernel) rfl⟩
theorem mlX12_555 : ML RX12 555 yX12_b2 := Or.inl (inT mt_9 179 (by decide +kernel) rfl)
set_option maxRecDepth 100000 in
theorem mcX12_b2 : MCv yX12_b2 cX12_b2 3 (some .int) 1 := ⟨⟨inT mt_1 15 (by decide +kernel) rfl, inT mt_9 182 rfl rfl, ⟨by decide +kernel, by decide +kernel⟩, by decide +kernel⟩, inT mt_9 181 (by decide +kernel) rfl, inT mt_0 126 (by decide +kernel) rfl⟩
theorem mlX12_546 : ML RX12 546 yX12_bits := Or.inl (inT mt_9 183 (by decide +kernel) rfl)
set_option maxRecDepth 100000 in
theorem mcX12_bits : MCv yX12_bits cX12_bits 4 none 2 := ⟨⟨inT mt_1 15 (by decide +kernel) rfl, inT mt_9 186 rfl rfl, ⟨by decide +kernel, by decide +kernel⟩, by decide +kernel⟩, inT mt_9 185 (by decide +kernel) rfl, inT mt_0 127 (by decide +kernel) rfl⟩
theorem mlX12_558 : ML RX12 558 yX12_writeRun := Or.inl (inT mt_9 187 (by decide +kernel) rfl)
set_option maxRecDepth 100000 in
theorem mcX12_writeRun : MCv yX12_writeRun cX12_writeRun 3 none 2 := ⟨⟨inT mt_1 15 (by decide +kernel) rfl, inT mt_9 190 rfl rfl, ⟨by decide +kernel, by decide +kernel⟩, by decide +kernel⟩, inT mt_9 189 (by decide +kernel) rfl, inT mt_0 128 (by decide +kernel) rfl⟩
theorem kcX12_573 : Cond.constantLong RX12 573 (13) ∈ TBL := inT mt_9 191 (by decide +kernel) rfl
theorem mlX12_575 : ML RX12 575 yX12_entry := Or.inl (inT mt_9 192 (by decide +kernel) rfl)
set_option maxRecDepth 100000 in
theorem mcX12_entry : MCv yX12_entry cX12_entry 4 none 3 := ⟨⟨inT mt_1 15 (by decide +kernel) rfl, inT mt_9 195 rfl rfl, ⟨by decide +kernel, by decide +kernel⟩, by decide +kernel⟩, inT mt_9 194 (by decide +kernel) rfl, inT mt_0 129 (by decide +kernel) rfl⟩
theorem kcX12_578 : Cond.constantLong RX12 578 (75) ∈ TBL := inT mt_9 196 (by decide +kernel) rfl
theorem mlX12_387 : ML RX12 387 yX12_temporaryGo := Or.inl (inT mt_9 197 (by decide +kernel) rfl)
set_option maxRecDepth 100000 in
theorem mcX12_temporaryGo : MCv yX12_temporaryGo cX12_temporaryGo 1 none 0 := ⟨⟨inT mt_1 15 (by decide +kernel) rfl, inT mt_9 200 rfl rfl, ⟨by decide +kernel, by decide +kernel⟩, by decide +kernel⟩, inT mt_9 199 (by decide +kernel) rfl, inT mt_0 130 (by decide +kernel) rfl⟩
theorem mlX12_244 : ML RX12 244 yX12_fontsGo := Or.inl (inT mt_9 201 (by decide +kernel) rfl)
set_option maxRecDepth 100000 in
theorem mcX12_fontsGo : MCv yX12_fontsGo cX12_fontsGo 3 none 1 := ⟨⟨inT mt_1 15 (by decide +kernel) rfl, inT mt_9 204 rfl rfl, ⟨by decide +kernel, by decide +kernel⟩, by decide +kernel⟩, inT mt_9 203 (by decide +kernel) rfl, inT mt_0 131 (by decide +kernel) rfl⟩
theorem mlX12_254 : ML RX12 254 yX12_fontGoes := Or.inl (inT mt_9 205 (by decide +kernel) rfl)
set_option maxRecDepth 100000 in
theorem mcX12_fontGoes : MCv yX12_fontGoes cX12_fontGoes 3 none 1 := ⟨⟨inT mt_1 15 (by decide +kernel) rfl, inT mt_9 208 rfl rfl, ⟨by decide +kernel, by decide +kernel⟩, by decide +kernel⟩, inT mt_9 207 (by decide +kernel) rfl, inT mt_0 132 (by decide +kernel) rfl⟩
theorem mlX12_257 : ML RX12 257 yX12_glyphGoes := Or.inl (inT mt_9 209 (by decide +kernel) rfl)
set_option maxRecDepth 100000 in
theorem mcX12_glyphGoes : MCv yX12_glyphGoes cX12_glyphGoes 4 none 2 := ⟨⟨inT mt_1 15 (by decide +kernel) rfl, inT mt_9 212 rfl rfl, ⟨by decide +kernel, by decide +kernel⟩, by decide +kernel⟩, inT mt_9 211 (by decide +kernel) rfl, inT mt_0 133 (by decide +kernel) rfl⟩
theorem mlX12_248 : ML RX12 248 yX12_usersGo := Or.inl (inT mt_9 213 (by decide +kernel) rfl)
set_option maxRecDepth 100000 in
theorem mcX12_usersGo : MCv yX12_usersGo cX12_usersGo 3 none 1 := ⟨⟨inT mt_1 15 (by decide +kernel) rfl, inT mt_9 216 rfl rfl, ⟨by decide +kernel, by decide +kernel⟩, by decide +kernel⟩, inT mt_9 215 (by decide +kernel) rfl, inT mt_0 134 (by decide +kernel) rfl⟩
theorem mlX12_251 : ML RX12 251 yX12_macrosGo := Or.inl (inT mt_9 217 (by decide +kernel) rfl)
set_option maxRecDepth 100000 in
theorem mcX12_macrosGo : MCv yX12_macrosGo cX12_macrosGo 3 none 1 := ⟨⟨inT mt_1 15 (by decide +kernel) rfl, inT mt_9 220 rfl rfl, ⟨by decide +kernel, by decide +kernel⟩, by decide +kernel⟩, inT mt_9 219 (by decide +kernel) rfl, inT mt_0 135 (by decide +kernel) rfl⟩
theorem mlX12_304 : ML RX12 304 yX12_line := Or.inl (inT mt_9 221 (by decide +kernel) rfl)
set_option maxRecDepth 100000 in
theorem mcX12_line : MCv yX12_line cX12_line 4 none 1 := ⟨⟨inT mt_1 15 (by decide +kernel) rfl, inT mt_9 224 rfl rfl, ⟨by decide +kernel, by decide +kernel⟩, by decide +kernel⟩, inT mt_9 223 (by decide +kernel) rfl, inT mt_0 136 (by decide +kernel) rfl⟩
theorem mlX12_390 : ML RX12 390 yX12_transparent := Or.inl (inT mt_9 225 (by decide +kernel) rfl)
set_option maxRecDepth 100000 in
theorem mcX12_transparent : MCv yX12_transparent cX12_transparent 3 none 0 := ⟨⟨inT mt_1 15 (by decide +kernel) rfl, inT mt_9 228 rfl rfl, ⟨by decide +kernel, by decide +kernel⟩, by decide +kernel⟩, inT mt_9 227 (by decide +kernel) rfl, inT mt_0 137 (by decide +kernel) rfl⟩
theorem mlX12_393 : ML RX12 393 yX12_shown := Or.inl (inT mt_9 229 (by decide +kernel) rfl)
set_option maxRecDepth 100000 in
theorem mcX12_shown : MCv yX12_shown cX12_shown 2 none 1 := ⟨⟨inT mt_1 15 (by decide +kernel) rfl, inT mt_9 232 rfl rfl, ⟨by decide +kernel, by decide +kernel⟩, by decide +kernel⟩, inT mt_9 231 (by decide +kernel) rfl, inT mt_0 138 (by decide +kernel) rfl⟩
theorem mlX12_298 : ML RX12 298 yX12_show := Or.inl (inT mt_9 233 (by decide +kernel) rfl)
set_option maxRecDepth 100000 in
theorem mcX12_show : MCv yX12_show cX12_show 11 none 1 := ⟨⟨inT mt_1 15 (by decide +kernel) rfl, inT mt_9 236 rfl rfl, ⟨by decide +kernel, by decide +kernel⟩, by decide +kernel⟩, inT mt_9 235 (by decide +kernel) rfl, inT mt_0 139 (by decide +kernel) rfl⟩
theorem mlX12_310 : ML RX12 310 yX12_fontInUse := Or.inl (inT mt_9 237 (by decide +kernel) rfl)
set_option maxRecDepth 100000 in
theorem mcX12_fontInUse : MCv yX12_fontInUse cX12_fontInUse 3 (some .int) 0 := ⟨⟨inT mt_1 15 (by decide +kernel) rfl, inT mt_10 0 rfl rfl, ⟨by decide +kernel, by decide +kernel⟩, by decide +kernel⟩, inT mt_9 239 (by decide +kernel) rfl, inT mt_0 140 (by decide +kernel) rfl⟩
theorem mlX12_333 : ML RX12 333 yX12_wish := Or.inl (inT mt_10 1 (by decide +kernel) rfl)
set_option maxRecDepth 100000 in
theorem mcX12_wish : MCv yX12_wish cX12_wish 2 (some .int) 1 := ⟨⟨inT mt_1 15 (by decide +kernel) rfl, inT mt_10 4 rfl rfl, ⟨by decide +kernel, by decide +kernel⟩, by decide +kernel⟩, inT mt_10 3 (by decide +kernel) rfl, inT mt_0 141 (by decide +kernel) rfl⟩
theorem mlX12_336 : ML RX12 336 yX12_keep := Or.inl (inT mt_10 5 (by decide +kernel) rfl)
set_option maxRecDepth 100000 in
theorem mcX12_keep : MCv yX12_keep cX12_keep 5 none 2 := ⟨⟨inT mt_1 15 (by decide +kernel) rfl, inT mt_10 8 rfl rfl, ⟨by decide +kernel, by decide +kernel⟩, by decide +kernel⟩, inT mt_10 7 (by decide +kernel) rfl, inT mt_0 142 (by decide +kernel) rfl⟩
theorem mlX12_339 : ML RX12 339 yX12_nearest := Or.inl (inT mt_10 9 (by decide +kernel) rfl)
set_option maxRecDepth 100000 in
theorem mcX12_nearest : MCv yX12_nearest cX12_nearest 6 none 2 := ⟨⟨inT mt_1 15 (by decide +kernel) rfl, inT mt_10 12 rfl rfl, ⟨by decide +kernel, by decide +kernel⟩, by decide +kernel⟩, inT mt_10 11 (by decide +kernel) rfl, inT mt_0 143 (by decide +kernel) rfl⟩
theorem kcX12_344 : Cond.constantLong RX12 344 (9223372036854775807) ∈ TBL := inT mt_10 13 (by decide +kernel) rfl
theorem mlX12_346 : ML RX12 346 yX12_far := Or.inl (inT mt_10 14 (by decide +kernel) rfl)
set_option maxRecDepth 100000 in
theorem mcX12_far : MCs yX12_far cX12_far 4 (some .long) 2 := ⟨⟨inT mt_1 15 (by decide +kernel) rfl, inT mt_10 16 rfl rfl, ⟨by decide +kernel, by decide +kernel⟩, by decide +kernel⟩, inT mt_10 15 (by decide +kernel) rfl⟩
theorem kcX12_354 : Cond.constantLong RX12 354 (-2) ∈ TBL := inT mt_10 17 (by decide +kernel) rfl
theorem kcX12_356 : Cond.constantLong RX12 356 (2) ∈ TBL := inT mt_10 18 (by decide +kernel) rfl
theorem mlX12_350 : ML RX12 350 yX12_smaller := Or.inl (inT mt_10 19 (by decide +kernel) rfl)
set_option maxRecDepth 100000 in
theorem mcX12_smaller : MCs yX12_smaller cX12_smaller 4 (some .long) 2 := ⟨⟨inT mt_1 15 (by decide +kernel) rfl, inT mt_10 21 rfl rfl, ⟨by decide +kernel, by decide +kernel⟩, by decide +kernel⟩, inT mt_10 20 (by decide +kernel) rfl⟩
theorem kcX12_315 : Cond.constantLong RX12 315 (6) ∈ TBL := inT mt_10 22 (by decide +kernel) rfl
theorem kcX12_313 : Cond.constantLong RX12 313 (8) ∈ TBL := inT mt_10 23 (by decide +kernel) rfl
theorem mlX12_317 : ML RX12 317 yX12_mark := Or.inl (inT mt_10 24 (by decide +kernel) rfl)
set_option maxRecDepth 100000 in
theorem mcX12_mark : MCv yX12_mark cX12_mark 19 (some .boolean) 4 := ⟨⟨inT mt_1 15 (by decide +kernel) rfl, inT mt_10 27 rfl rfl, ⟨by decide +kernel, by decide +kernel⟩, by decide +kernel⟩, inT mt_10 26 (by decide +kernel) rfl, inT mt_0 144 (by decide +kernel) rfl⟩
theorem kcX12_189 : Cond.constantLong RX12 189 (5000000) ∈ TBL := inT mt_10 28 (by decide +kernel) rfl
theorem mlX12_321 : ML RX12 321 yX12_useAtHand := Or.inl (inT mt_10 29 (by decide +kernel) rfl)
set_option maxRecDepth 100000 in
theorem mcX12_useAtHand : MCv yX12_useAtHand cX12_useAtHand 2 none 0 := ⟨⟨inT mt_1 15 (by decide +kernel) rfl, inT mt_10 32 rfl rfl, ⟨by decide +kernel, by decide +kernel⟩, by decide +kernel⟩, inT mt_10 31 (by decide +kernel) rfl, inT mt_0 145 (by decide +kernel) rfl⟩
theorem mlX12_324 : ML RX12 324 yX12_residentGlyph := Or.inl (inT mt_10 33 (by decide +kernel) rfl)
set_option maxRecDepth 100000 in
theorem mcX12_residentGlyph : MCv yX12_residentGlyph cX12_residentGlyph 7 none 3 := ⟨⟨inT mt_1 15 (by decide +kernel) rfl, inT mt_10 36 rfl rfl, ⟨by decide +kernel, by decide +kernel⟩, by decide +kernel⟩, inT mt_10 35 (by decide +kernel) rfl, inT mt_0 146 (by decide +kernel) rfl⟩
theorem mlX12_331 : ML RX12 331 yX12_lay_ := Or.inl (inT mt_10 37 (by decide +kernel) rfl)
set_option maxRecDepth 100000 in
theorem mcX12_lay_ : MCv yX12_lay_ cX12_lay_ 10 none 3 := ⟨⟨inT mt_1 15 (by decide +kernel) rfl, inT mt_10 40 rfl rfl, ⟨by decide +kernel, by decide +kernel⟩, by decide +kernel⟩, inT mt_10 39 (by decide +kernel) rfl, inT mt_0 147 (by decide +kernel) rfl⟩
theorem mlX12_179 : ML RX12 179 yX12_patternAt := Or.inl (inT mt_10 41 (by decide +kernel) rfl)
set_option maxRecDepth 100000 in
theorem mcX12_patternAt : MCv yX12_patternAt cX12_patternAt 11 (some .int) 2 := ⟨⟨inT mt_1 15 (by decide +kernel) rfl, inT mt_10 44 rfl rfl, ⟨by decide +kernel, by decide +kernel⟩, by decide +kernel⟩, inT mt_10 43 (by decide +kernel) rfl, inT mt_0 148 (by decide +kernel) rfl⟩
theorem mlX12_165 : ML RX12 165 yX12_modulo := Or.inl (inT mt_10 45 (by decide +kernel) rfl)
set_option maxRecDepth 100000 in
theorem mcX12_modulo : MCs yX12_modulo cX12_modulo 3 (some .int) 2 := ⟨⟨inT mt_1 15 (by decide +kernel) rfl, inT mt_10 47 rfl rfl, ⟨by decide +kernel, by decide +kernel⟩, by decide +kernel⟩, inT mt_10 46 (by decide +kernel) rfl⟩
theorem mlX12_169 : ML RX12 169 yX12_shadeOf := Or.inl (inT mt_10 48 (by decide +kernel) rfl)
set_option maxRecDepth 100000 in
theorem mcX12_shadeOf : MCs yX12_shadeOf cX12_shadeOf 5 (some .int) 2 := ⟨⟨inT mt_1 15 (by decide +kernel) rfl, inT mt_10 50 rfl rfl, ⟨by decide +kernel, by decide +kernel⟩, by decide +kernel⟩, inT mt_10 49 (by decide +kernel) rfl⟩
theorem kcX12_163 : Cond.constantLong RX12 163 (588499194438350805) ∈ TBL := inT mt_10 51 (by decide +kernel) rfl
theorem mlX12_328 : ML RX12 328 yX12_glyph := Or.inl (inT mt_10 52 (by decide +kernel) rfl)
set_option maxRecDepth 100000 in
theorem mcX12_glyph : MCv yX12_glyph cX12_glyph 8 none 3 := ⟨⟨inT mt_1 15 (by decide +kernel) rfl, inT mt_10 55 rfl rfl, ⟨by decide +kernel, by decide +kernel⟩, by decide +kernel⟩, inT mt_10 54 (by decide +kernel) rfl, inT mt_0 149 (by decide +kernel) rfl⟩
theorem mlX12_364 : ML RX12 364 yX12_readValue := Or.inl (inT mt_10 56 (by decide +kernel) rfl)
set_option maxRecDepth 100000 in
theorem mcX12_readValue : MCv yX12_readValue cX12_readValue 7 none 0 := ⟨⟨inT mt_1 15 (by decide +kernel) rfl, inT mt_10 59 rfl rfl, ⟨by decide +kernel, by decide +kernel⟩, by decide +kernel⟩, inT mt_10 58 (by decide +kernel) rfl, inT mt_0 150 (by decide +kernel) rfl⟩
theorem kcX12_382 : Cond.constantLong RX12 382 (10000) ∈ TBL := inT mt_10 60 (by decide +kernel) rfl
theorem mlX12_367 : ML RX12 367 yX12_withData := Or.inl (inT mt_10 61 (by decide +kernel) rfl)
set_option maxRecDepth 100000 in
theorem mcX12_withData : MCv yX12_withData cX12_withData 7 none 3 := ⟨⟨inT mt_1 15 (by decide +kernel) rfl, inT mt_10 64 rfl rfl, ⟨by decide +kernel, by decide +kernel⟩, by decide +kernel⟩, inT mt_10 63 (by decide +kernel) rfl, inT mt_0 151 (by decide +kernel) rfl⟩
theorem mlX12_472 : ML RX12 472 yX12_fontData := Or.inl (inT mt_10 65 (by decide +kernel) rfl)
set_option maxRecDepth 100000 in
theorem mcX12_fontData : MCv yX12_fontData cX12_fontData 4 none 1 := ⟨⟨inT mt_1 15 (by decide +kernel) rfl, inT mt_10 68 rfl rfl, ⟨by decide +kernel, by decide +kernel⟩, by decide +kernel⟩, inT mt_10 67 (by decide +kernel) rfl, inT mt_0 152 (by decide +kernel) rfl⟩
theorem mlX12_484 : ML RX12 484 yX12_dataAt := Or.inl (inT mt_10 69 (by decide +kernel) rfl)
set_option maxRecDepth 100000 in
theorem mcX12_dataAt : MCv yX12_dataAt cX12_dataAt 2 (some .int) 1 := ⟨⟨inT mt_1 15 (by decide +kernel) rfl, inT mt_10 72 rfl rfl, ⟨by decide +kernel, by decide +kernel⟩, by decide +kernel⟩, inT mt_10 71 (by decide +kernel) rfl, inT mt_0 153 (by decide +kernel) rfl⟩
theorem mlX12_487 : ML RX12 487 yX12_signedAt := Or.inl (inT mt_10 73 (by decide +kernel) rfl)
set_option maxRecDepth 100000 in
theorem mcX12_signedAt : MCv yX12_signedAt cX12_signedAt 2 (some .int) 1 := ⟨⟨inT mt_1 15 (by decide +kernel) rfl, inT mt_10 76 rfl rfl, ⟨by decide +kernel, by decide +kernel⟩, by decide +kernel⟩, inT mt_10 75 (by decide +kernel) rfl, inT mt_0 154 (by decide +kernel) rfl⟩
theorem mlX12_475 : ML RX12 475 yX12_glyphData := Or.inl (inT mt_10 77 (by decide +kernel) rfl)
set_option maxRecDepth 100000 in
theorem mcX12_glyphData : MCv yX12_glyphData cX12_glyphData 13 none 1 := ⟨⟨inT mt_1 15 (by decide +kernel) rfl, inT mt_10 80 rfl rfl, ⟨by decide +kernel, by decide +kernel⟩, by decide +kernel⟩, inT mt_10 79 (by decide +kernel) rfl, inT mt_0 155 (by decide +kernel) rfl⟩
theorem mlX12_478 : ML RX12 478 yX12_userData := Or.inl (inT mt_10 81 (by decide +kernel) rfl)
set_option maxRecDepth 100000 in
theorem mcX12_userData : MCv yX12_userData cX12_userData 9 none 1 := ⟨⟨inT mt_1 15 (by decide +kernel) rfl, inT mt_10 84 rfl rfl, ⟨by decide +kernel, by decide +kernel⟩, by decide +kernel⟩, inT mt_10 83 (by decide +kernel) rfl, inT mt_0 156 (by decide +kernel) rfl⟩
theorem mlX12_481 : ML RX12 481 yX12_rowData := Or.inl (inT mt_10 85 (by decide +kernel) rfl)
set_option maxRecDepth 100000 in
theorem mcX12_rowData : MCv yX12_rowData cX12_rowData 9 none 1 := ⟨⟨inT mt_1 15 (by decide +kernel) rfl, inT mt_10 88 rfl rfl, ⟨by decide +kernel, by decide +kernel⟩, by decide +kernel⟩, inT mt_10 87 (by decide +kernel) rfl, inT mt_0 157 (by decide +kernel) rfl⟩
theorem mlX12_490 : ML RX12 490 yX12_begin := Or.inl (inT mt_10 89 (by decide +kernel) rfl)
set_option maxRecDepth 100000 in
theorem mcX12_begin : MCv yX12_begin cX12_begin 3 none 1 := ⟨⟨inT mt_1 15 (by decide +kernel) rfl, inT mt_10 92 rfl rfl, ⟨by decide +kernel, by decide +kernel⟩, by decide +kernel⟩, inT mt_10 91 (by decide +kernel) rfl, inT mt_0 158 (by decide +kernel) rfl⟩
theorem mlX12_493 : ML RX12 493 yX12_unpack := Or.inl (inT mt_10 93 (by decide +kernel) rfl)
set_option maxRecDepth 100000 in
theorem mcX12_unpack : MCv yX12_unpack cX12_unpack 5 none 1 := ⟨⟨inT mt_1 15 (by decide +kernel) rfl, inT mt_10 96 rfl rfl, ⟨by decide +kernel, by decide +kernel⟩, by decide +kernel⟩, inT mt_10 95 (by decide +kernel) rfl, inT mt_0 159 (by decide +kernel) rfl⟩
theorem mlX12_499 : ML RX12 499 yX12_changed := Or.inl (inT mt_10 97 (by decide +kernel) rfl)
set_option maxRecDepth 100000 in
theorem mcX12_changed : MCv yX12_changed cX12_changed 8 none 1 := ⟨⟨inT mt_1 15 (by decide +kernel) rfl, inT mt_10 100 rfl rfl, ⟨by decide +kernel, by decide +kernel⟩, by decide +kernel⟩, inT mt_10 99 (by decide +kernel) rfl, inT mt_0 160 (by decide +kernel) rfl⟩
theorem mlX12_502 : ML RX12 502 yX12_fill := Or.inl (inT mt_10 101 (by decide +kernel) rfl)
set_option maxRecDepth 100000 in
theorem mcX12_fill : MCv yX12_fill cX12_fill 2 none 1 := ⟨⟨inT mt_1 15 (by decide +kernel) rfl, inT mt_10 104 rfl rfl, ⟨by decide +kernel, by decide +kernel⟩, by decide +kernel⟩, inT mt_10 103 (by decide +kernel) rfl, inT mt_0 161 (by decide +kernel) rfl⟩
theorem mlX12_373 : ML RX12 373 yX12_field := Or.inl (inT mt_10 105 (by decide +kernel) rfl)
set_option maxRecDepth 100000 in
theorem mcX12_field : MCv yX12_field cX12_field 4 none 3 := ⟨⟨inT mt_1 15 (by decide +kernel) rfl, inT mt_10 108 rfl rfl, ⟨by decide +kernel, by decide +kernel⟩, by decide +kernel⟩, inT mt_10 107 (by decide +kernel) rfl, inT mt_0 162 (by decide +kernel) rfl⟩
theorem mlX12_396 : ML RX12 396 yX12_pageField := Or.inl (inT mt_10 109 (by decide +kernel) rfl)
set_option maxRecDepth 100000 in
theorem mcX12_pageField : MCv yX12_pageField cX12_pageField 3 none 1 := ⟨⟨inT mt_1 15 (by decide +kernel) rfl, inT mt_10 112 rfl rfl, ⟨by decide +kernel, by decide +kernel⟩, by decide +kernel⟩, inT mt_10 111 (by decide +kernel) rfl, inT mt_0 163 (by decide +kernel) rfl⟩
theorem kcX12_431 : Cond.constantLong RX12 431 (150) ∈ TBL := inT mt_10 113 (by decide +kernel) rfl
theorem mlX12_404 : ML RX12 404 yX12_units := Or.inl (inT mt_10 114 (by decide +kernel) rfl)
set_option maxRecDepth 100000 in
theorem mcX12_units : MCv yX12_units cX12_units 3 (some .long) 1 := ⟨⟨inT mt_1 15 (by decide +kernel) rfl, inT mt_10 117 rfl rfl, ⟨by decide +kernel, by decide +kernel⟩, by decide +kernel⟩, inT mt_10 116 (by decide +kernel) rfl, inT mt_0 164 (by decide +kernel) rfl⟩
theorem kcX12_408 : Cond.constantLong RX12 408 (32000) ∈ TBL := inT mt_10 118 (by decide +kernel) rfl
theorem mlX12_399 : ML RX12 399 yX12_placeField := Or.inl (inT mt_10 119 (by decide +kernel) rfl)
set_option maxRecDepth 100000 in
theorem mcX12_placeField : MCv yX12_placeField cX12_placeField 2 none 1 := ⟨⟨inT mt_1 15 (by decide +kernel) rfl, inT mt_10 122 rfl rfl, ⟨by decide +kernel, by decide +kernel⟩, by decide +kernel⟩, inT mt_10 121 (by decide +kernel) rfl, inT mt_0 165 (by decide +kernel) rfl⟩
theorem kcX12_433 : Cond.constantLong RX12 433 (10) ∈ TBL := inT mt_10 123 (by decide +kernel) rfl
theorem kcX12_402 : Cond.constantLong RX12 402 (60) ∈ TBL := inT mt_10 124 (by decide +kernel) rfl
theorem mlX12_410 : ML RX12 410 yX12_macroField := Or.inl (inT mt_10 125 (by decide +kernel) rfl)
set_option maxRecDepth 100000 in
theorem mcX12_macroField : MCv yX12_macroField cX12_macroField 2 none 1 := ⟨⟨inT mt_1 15 (by decide +kernel) rfl, inT mt_10 128 rfl rfl, ⟨by decide +kernel, by decide +kernel⟩, by decide +kernel⟩, inT mt_10 127 (by decide +kernel) rfl, inT mt_0 166 (by decide +kernel) rfl⟩
theorem mlX12_435 : ML RX12 435 yX12_macroAct := Or.inl (inT mt_10 129 (by decide +kernel) rfl)
set_option maxRecDepth 100000 in
theorem mcX12_macroAct : MCv yX12_macroAct cX12_macroAct 3 none 0 := ⟨⟨inT mt_1 15 (by decide +kernel) rfl, inT mt_10 132 rfl rfl, ⟨by decide +kernel, by decide +kernel⟩, by decide +kernel⟩, inT mt_10 131 (by decide +kernel) rfl, inT mt_0 167 (by decide +kernel) rfl⟩
theorem mlX12_438 : ML RX12 438 yX12_define := Or.inl (inT mt_10 133 (by decide +kernel) rfl)
set_option maxRecDepth 100000 in
theorem mcX12_define : MCv yX12_define cX12_define 5 none 1 := ⟨⟨inT mt_1 15 (by decide +kernel) rfl, inT mt_10 136 rfl rfl, ⟨by decide +kernel, by decide +kernel⟩, by decide +kernel⟩, inT mt_10 135 (by decide +kernel) rfl, inT mt_0 168 (by decide +kernel) rfl⟩
theorem mlX12_441 : ML RX12 441 yX12_endsMacro := Or.inl (inT mt_10 137 (by decide +kernel) rfl)
set_option maxRecDepth 100000 in
theorem mcX12_endsMacro : MCv yX12_endsMacro cX12_endsMacro 2 (some .boolean) 1 := ⟨⟨inT mt_1 15 (by decide +kernel) rfl, inT mt_10 140 rfl rfl, ⟨by decide +kernel, by decide +kernel⟩, by decide +kernel⟩, inT mt_10 139 (by decide +kernel) rfl, inT mt_0 169 (by decide +kernel) rfl⟩
theorem mlX12_413 : ML RX12 413 yX12_dotField := Or.inl (inT mt_10 141 (by decide +kernel) rfl)
set_option maxRecDepth 100000 in
theorem mcX12_dotField : MCv yX12_dotField cX12_dotField 2 none 1 := ⟨⟨inT mt_1 15 (by decide +kernel) rfl, inT mt_10 144 rfl rfl, ⟨by decide +kernel, by decide +kernel⟩, by decide +kernel⟩, inT mt_10 143 (by decide +kernel) rfl, inT mt_0 170 (by decide +kernel) rfl⟩
theorem mlX12_416 : ML RX12 416 yX12_modelField := Or.inl (inT mt_10 145 (by decide +kernel) rfl)
set_option maxRecDepth 100000 in
theorem mcX12_modelField : MCv yX12_modelField cX12_modelField 2 none 1 := ⟨⟨inT mt_1 15 (by decide +kernel) rfl, inT mt_10 148 rfl rfl, ⟨by decide +kernel, by decide +kernel⟩, by decide +kernel⟩, inT mt_10 147 (by decide +kernel) rfl, inT mt_0 171 (by decide +kernel) rfl⟩
theorem mlX12_445 : ML RX12 445 yX12_hasPattern := Or.inl (inT mt_10 149 (by decide +kernel) rfl)
set_option maxRecDepth 100000 in
theorem mcX12_hasPattern : MCv yX12_hasPattern cX12_hasPattern 3 (some .boolean) 2 := ⟨⟨inT mt_1 15 (by decide +kernel) rfl, inT mt_10 152 rfl rfl, ⟨by decide +kernel, by decide +kernel⟩, by decide +kernel⟩, inT mt_10 151 (by decide +kernel) rfl, inT mt_0 172 (by decide +kernel) rfl⟩
theorem mlX12_449 : ML RX12 449 yX12_putPattern := Or.inl (inT mt_10 153 (by decide +kernel) rfl)
set_option maxRecDepth 100000 in
theorem mcX12_putPattern : MCv yX12_putPattern cX12_putPattern 6 none 4 := ⟨⟨inT mt_1 15 (by decide +kernel) rfl, inT mt_10 156 rfl rfl, ⟨by decide +kernel, by decide +kernel⟩, by decide +kernel⟩, inT mt_10 155 (by decide +kernel) rfl, inT mt_0 173 (by decide +kernel) rfl⟩
theorem mlX12_419 : ML RX12 419 yX12_thingField := Or.inl (inT mt_10 157 (by decide +kernel) rfl)
set_option maxRecDepth 100000 in
theorem mcX12_thingField : MCv yX12_thingField cX12_thingField 2 none 1 := ⟨⟨inT mt_1 15 (by decide +kernel) rfl, inT mt_10 160 rfl rfl, ⟨by decide +kernel, by decide +kernel⟩, by decide +kernel⟩, inT mt_10 159 (by decide +kernel) rfl, inT mt_0 174 (by decide +kernel) rfl⟩
theorem mlX12_455 : ML RX12 455 yX12_dotsUp := Or.inl (inT mt_10 161 (by decide +kernel) rfl)
set_option maxRecDepth 100000 in
theorem mcX12_dotsUp : MCs yX12_dotsUp cX12_dotsUp 2 (some .int) 1 := ⟨⟨inT mt_1 15 (by decide +kernel) rfl, inT mt_10 163 rfl rfl, ⟨by decide +kernel, by decide +kernel⟩, by decide +kernel⟩, inT mt_10 162 (by decide +kernel) rfl⟩
theorem kcX12_453 : Cond.constantLong RX12 453 (95) ∈ TBL := inT mt_10 164 (by decide +kernel) rfl
theorem mlX12_459 : ML RX12 459 yX12_rectangle := Or.inl (inT mt_10 165 (by decide +kernel) rfl)
set_option maxRecDepth 100000 in
theorem mcX12_rectangle : MCv yX12_rectangle cX12_rectangle 7 none 0 := ⟨⟨inT mt_1 15 (by decide +kernel) rfl, inT mt_10 168 rfl rfl, ⟨by decide +kernel, by decide +kernel⟩, by decide +kernel⟩, inT mt_10 167 (by decide +kernel) rfl, inT mt_0 175 (by decide +kernel) rfl⟩
theorem mlX12_462 : ML RX12 462 yX12_fontAct := Or.inl (inT mt_10 169 (by decide +kernel) rfl)
set_option maxRecDepth 100000 in
theorem mcX12_fontAct : MCv yX12_fontAct cX12_fontAct 2 none 0 := ⟨⟨inT mt_1 15 (by decide +kernel) rfl, inT mt_10 172 rfl rfl, ⟨by decide +kernel, by decide +kernel⟩, by decide +kernel⟩, inT mt_10 171 (by decide +kernel) rfl, inT mt_0 176 (by decide +kernel) rfl⟩
theorem mlX12_465 : ML RX12 465 yX12_userAct := Or.inl (inT mt_10 173 (by decide +kernel) rfl)
set_option maxRecDepth 100000 in
theorem mcX12_userAct : MCv yX12_userAct cX12_userAct 3 none 0 := ⟨⟨inT mt_1 15 (by decide +kernel) rfl, inT mt_10 176 rfl rfl, ⟨by decide +kernel, by decide +kernel⟩, by decide +kernel⟩, inT mt_10 175 (by decide +kernel) rfl, inT mt_0 177 (by decide +kernel) rfl⟩
theorem mlX12_422 : ML RX12 422 yX12_rasterField := Or.inl (inT mt_10 177 (by decide +kernel) rfl)
set_option maxRecDepth 100000 in
theorem mcX12_rasterField : MCv yX12_rasterField cX12_rasterField 2 none 1 := ⟨⟨inT mt_1 15 (by decide +kernel) rfl, inT mt_10 180 rfl rfl, ⟨by decide +kernel, by decide +kernel⟩, by decide +kernel⟩, inT mt_10 179 (by decide +kernel) rfl, inT mt_0 178 (by decide +kernel) rfl⟩
theorem mlX12_425 : ML RX12 425 yX12_rowField := Or.inl (inT mt_10 181 (by decide +kernel) rfl)
set_option maxRecDepth 100000 in
theorem mcX12_rowField : MCv yX12_rowField cX12_rowField 4 none 1 := ⟨⟨inT mt_1 15 (by decide +kernel) rfl, inT mt_10 184 rfl rfl, ⟨by decide +kernel, by decide +kernel⟩, by decide +kernel⟩, inT mt_10 183 (by decide +kernel) rfl, inT mt_0 179 (by decide +kernel) rfl⟩
theorem mlX12_428 : ML RX12 428 yX12_fontField := Or.inl (inT mt_10 185 (by decide +kernel) rfl)
set_option maxRecDepth 100000 in
theorem mcX12_fontField : MCv yX12_fontField cX12_fontField 8 none 3 := ⟨⟨inT mt_1 15 (by decide +kernel) rfl, inT mt_10 188 rfl rfl, ⟨by decide +kernel, by decide +kernel⟩, by decide +kernel⟩, inT mt_10 187 (by decide +kernel) rfl, inT mt_0 180 (by decide +kernel) rfl⟩
theorem kcX12_468 : Cond.constantLong RX12 468 (72000000) ∈ TBL := inT mt_10 189 (by decide +kernel) rfl
theorem kcX12_470 : Cond.constantLong RX12 470 (7200) ∈ TBL := inT mt_10 190 (by decide +kernel) rfl
theorem mlX12_295 : ML RX12 295 yX12_plain := Or.inl (inT mt_10 191 (by decide +kernel) rfl)
set_option maxRecDepth 100000 in
theorem mcX12_plain : MCv yX12_plain cX12_plain 2 none 1 := ⟨⟨inT mt_1 15 (by decide +kernel) rfl, inT mt_10 194 rfl rfl, ⟨by decide +kernel, by decide +kernel⟩, by decide +kernel⟩, inT mt_10 193 (by decide +kernel) rfl, inT mt_0 181 (by decide +kernel) rfl⟩
theorem mlX12_301 : ML RX12 301 yX12_tab := Or.inl (inT mt_10 195 (by decide +kernel) rfl)
set_option maxRecDepth 100000 in
theorem mcX12_tab : MCv yX12_tab cX12_tab 5 none 0 := ⟨⟨inT mt_1 15 (by decide +kernel) rfl, inT mt_10 198 rfl rfl, ⟨by decide +kernel, by decide +kernel⟩, by decide +kernel⟩, inT mt_10 197 (by decide +kernel) rfl, inT mt_0 182 (by decide +kernel) rfl⟩
theorem mlX12_658 : ML RX12 658 yX12_pictures := Or.inl (inT mt_10 199 (by decide +kernel) rfl)
set_option maxRecDepth 100000 in
theorem mcX12_pictures : MCv yX12_pictures cX12_pictures 14 (some .boolean) 1 := ⟨⟨inT mt_1 15 (by decide +kernel) rfl, inT mt_10 202 rfl rfl, ⟨by decide +kernel, by decide +kernel⟩, by decide +kernel⟩, inT mt_10 201 (by decide +kernel) rfl, inT mt_0 183 (by decide +kernel) rfl⟩
theorem mlX12_592 : ML RX12 592 yX12_wrong := Or.inl (inT mt_10 203 (by decide +kernel) rfl)
set_option maxRecDepth 100000 in
theorem mcX12_wrong : MCv yX12_wrong cX12_wrong 3 (some .boolean) 2 := ⟨⟨inT mt_1 15 (by decide +kernel) rfl, inT mt_10 206 rfl rfl, ⟨by decide +kernel, by decide +kernel⟩, by decide +kernel⟩, inT mt_10 205 (by decide +kernel) rfl, inT mt_0 184 (by decide +kernel) rfl⟩
theorem mlX12_595 : ML RX12 595 yX12_picture := Or.inl (inT mt_10 207 (by decide +kernel) rfl)
set_option maxRecDepth 100000 in
theorem mcX12_picture : MCv yX12_picture cX12_picture 7 (some .long) 2 := ⟨⟨inT mt_1 15 (by decide +kernel) rfl, inT mt_10 210 rfl rfl, ⟨by decide +kernel, by decide +kernel⟩, by decide +kernel⟩, inT mt_10 209 (by decide +kernel) rfl, inT mt_0 185 (by decide +kernel) rfl⟩
theorem kcX12_601 : Cond.constantLong RX12 601 (12) ∈ TBL := inT mt_10 211 (by decide +kernel) rfl
theorem kcX12_603 : Cond.constantLong RX12 603 (4) ∈ TBL := inT mt_10 212 (by decide +kernel) rfl
theorem kcX12_605 : Cond.constantLong RX12 605 (-1) ∈ TBL := inT mt_10 213 (by decide +kernel) rfl
theorem mlX12_607 : ML RX12 607 yX12_directory := Or.inl (inT mt_10 214 (by decide +kernel) rfl)
set_option maxRecDepth 100000 in
theorem mcX12_directory : MCv yX12_directory cX12_directory 16 (some .boolean) 2 := ⟨⟨inT mt_1 15 (by decide +kernel) rfl, inT mt_10 217 rfl rfl, ⟨by decide +kernel, by decide +kernel⟩, by decide +kernel⟩, inT mt_10 216 (by decide +kernel) rfl, inT mt_0 186 (by decide +kernel) rfl⟩
theorem mlX12_616 : ML RX12 616 yX12_isLooked := Or.inl (inT mt_10 218 (by decide +kernel) rfl)
set_option maxRecDepth 100000 in
theorem mcX12_isLooked : MCs yX12_isLooked cX12_isLooked 1 (some .boolean) 1 := ⟨⟨inT mt_1 15 (by decide +kernel) rfl, inT mt_10 220 rfl rfl, ⟨by decide +kernel, by decide +kernel⟩, by decide +kernel⟩, inT mt_10 219 (by decide +kernel) rfl⟩
theorem kcX12_610 : Cond.constantLong RX12 610 (3) ∈ TBL := inT mt_10 221 (by decide +kernel) rfl
theorem mlX12_619 : ML RX12 619 yX12_valueOf := Or.inl (inT mt_10 222 (by decide +kernel) rfl)
set_option maxRecDepth 100000 in
theorem mcX12_valueOf : MCv yX12_valueOf cX12_valueOf 7 (some .long) 2 := ⟨⟨inT mt_1 15 (by decide +kernel) rfl, inT mt_10 225 rfl rfl, ⟨by decide +kernel, by decide +kernel⟩, by decide +kernel⟩, inT mt_10 224 (by decide +kernel) rfl, inT mt_0 187 (by decide +kernel) rfl⟩
theorem mlX12_622 : ML RX12 622 yX12_isMay := Or.inl (inT mt_10 226 (by decide +kernel) rfl)
set_option maxRecDepth 100000 in
theorem mcX12_isMay : MCs yX12_isMay cX12_isMay 3 (some .boolean) 2 := ⟨⟨inT mt_1 15 (by decide +kernel) rfl, inT mt_10 228 rfl rfl, ⟨by decide +kernel, by decide +kernel⟩, by decide +kernel⟩, inT mt_10 227 (by decide +kernel) rfl⟩
theorem kcX12_612 : Cond.constantLong RX12 612 (640) ∈ TBL := inT mt_10 229 (by decide +kernel) rfl
theorem kcX12_614 : Cond.constantLong RX12 614 (800) ∈ TBL := inT mt_10 230 (by decide +kernel) rfl
theorem mlX12_638 : ML RX12 638 yX12_readRow_ := Or.inl (inT mt_10 231 (by decide +kernel) rfl)
set_option maxRecDepth 100000 in
theorem mcX12_readRow_ : MCv yX12_readRow_ cX12_readRow_ 4 (some .boolean) 0 := ⟨⟨inT mt_1 15 (by decide +kernel) rfl, inT mt_10 234 rfl rfl, ⟨by decide +kernel, by decide +kernel⟩, by decide +kernel⟩, inT mt_10 233 (by decide +kernel) rfl, inT mt_0 188 (by decide +kernel) rfl⟩
theorem mlX12_646 : ML RX12 646 yX12_mode := Or.inl (inT mt_10 235 (by decide +kernel) rfl)
set_option maxRecDepth 100000 in
theorem mcX12_mode : MCv yX12_mode cX12_mode 5 (some .int) 0 := ⟨⟨inT mt_1 15 (by decide +kernel) rfl, inT mt_10 238 rfl rfl, ⟨by decide +kernel, by decide +kernel⟩, by decide +kernel⟩, inT mt_10 237 (by decide +kernel) rfl, inT mt_0 189 (by decide +kernel) rfl⟩
theorem mlX12_643 : ML RX12 643 yX12_bit := Or.inl (inT mt_10 239 (by decide +kernel) rfl)
set_option maxRecDepth 100000 in
theorem mcX12_bit : MCv yX12_bit cX12_bit 3 (some .int) 0 := ⟨⟨inT mt_1 15 (by decide +kernel) rfl, inT mt_11 2 rfl rfl, ⟨by decide +kernel, by decide +kernel⟩, by decide +kernel⟩, inT mt_11 1 (by decide +kernel) rfl, inT mt_0 190 (by decide +kernel) rfl⟩
theorem mlX12_649 : ML RX12 649 yX12_readRun := Or.inl (inT mt_11 3 (by decide +kernel) rfl)
set_option maxRecDepth 100000 in
theorem mcX12_readRun : MCv yX12_readRun cX12_readRun 5 (some .int) 1 := ⟨⟨inT mt_1 15 (by decide +kernel) rfl, inT mt_11 6 rfl rfl, ⟨by decide +kernel, by decide +kernel⟩, by decide +kernel⟩, inT mt_11 5 (by decide +kernel) rfl, inT mt_0 191 (by decide +kernel) rfl⟩
theorem mlX12_640 : ML RX12 640 yX12_oneRun := Or.inl (inT mt_11 7 (by decide +kernel) rfl)
set_option maxRecDepth 100000 in
theorem mcX12_oneRun : MCv yX12_oneRun cX12_oneRun 6 (some .int) 1 := ⟨⟨inT mt_1 15 (by decide +kernel) rfl, inT mt_11 10 rfl rfl, ⟨by decide +kernel, by decide +kernel⟩, by decide +kernel⟩, inT mt_11 9 (by decide +kernel) rfl, inT mt_0 192 (by decide +kernel) rfl⟩
theorem mlX12_652 : ML RX12 652 yX12_paint := Or.inl (inT mt_11 11 (by decide +kernel) rfl)
set_option maxRecDepth 100000 in
theorem mcX12_paint : MCv yX12_paint cX12_paint 3 none 2 := ⟨⟨inT mt_1 15 (by decide +kernel) rfl, inT mt_11 14 rfl rfl, ⟨by decide +kernel, by decide +kernel⟩, by decide +kernel⟩, inT mt_11 13 (by decide +kernel) rfl, inT mt_0 193 (by decide +kernel) rfl⟩
theorem mlL_39 : ML RL 39 yX12_fault := Or.inl (inT mt_11 15 (by decide +kernel) rfl)
set_option maxRecDepth 100000 in
theorem mcX12_fault : MCv yX12_fault cX12_fault 2 (some .int) 1 := ⟨⟨inT mt_1 15 (by decide +kernel) rfl, inT mt_11 18 rfl rfl, ⟨by decide +kernel, by decide +kernel⟩, by decide +kernel⟩, inT mt_11 16 (by decide +kernel) rfl, inT mt_11 17 (by decide +kernel) rfl⟩
theorem mlL_43 : ML RL 43 yX12_outs := Or.inl (inT mt_11 19 (by decide +kernel) rfl)
set_option maxRecDepth 100000 in
theorem mcX12_outs : MCv yX12_outs cX12_outs 1 (some .int) 0 := ⟨⟨inT mt_1 15 (by decide +kernel) rfl, inT mt_11 22 rfl rfl, ⟨by decide +kernel, by decide +kernel⟩, by decide +kernel⟩, inT mt_11 20 (by decide +kernel) rfl, inT mt_11 21 (by decide +kernel) rfl⟩
theorem mlL_47 : ML RL 47 yX12_out := Or.inl (inT mt_11 23 (by decide +kernel) rfl)
set_option maxRecDepth 100000 in
theorem mcX12_out : MCv yX12_out cX12_out 2 (some .int) 1 := ⟨⟨inT mt_1 15 (by decide +kernel) rfl, inT mt_11 26 rfl rfl, ⟨by decide +kernel, by decide +kernel⟩, by decide +kernel⟩, inT mt_11 24 (by decide +kernel) rfl, inT mt_11 25 (by decide +kernel) rfl⟩
theorem mlL_51 : ML RL 51 yX12_sum := Or.inl (inT mt_11 27 (by decide +kernel) rfl)
set_option maxRecDepth 100000 in
theorem mcX12_sum : MCv yX12_sum cX12_sum 3 (some .int) 0 := ⟨⟨inT mt_1 15 (by decide +kernel) rfl, inT mt_11 30 rfl rfl, ⟨by decide +kernel, by decide +kernel⟩, by decide +kernel⟩, inT mt_11 28 (by decide +kernel) rfl, inT mt_11 29 (by decide +kernel) rfl⟩
theorem mlL_55 : ML RL 55 yX12_take := Or.inl (inT mt_11 31 (by decide +kernel) rfl)
set_option maxRecDepth 100000 in
theorem mcX12_take : MCv yX12_take cX12_take 2 (some .int) 0 := ⟨⟨inT mt_1 15 (by decide +kernel) rfl, inT mt_11 34 rfl rfl, ⟨by decide +kernel, by decide +kernel⟩, by decide +kernel⟩, inT mt_11 32 (by decide +kernel) rfl, inT mt_11 33 (by decide +kernel) rfl⟩
theorem mlL_59 : ML RL 59 yX12_pages := Or.inl (inT mt_11 35 (by decide +kernel) rfl)
set_option maxRecDepth 100000 in
theorem mcX12_pages : MCv yX12_pages cX12_pages 1 (some .int) 0 := ⟨⟨inT mt_1 15 (by decide +kernel) rfl, inT mt_11 38 rfl rfl, ⟨by decide +kernel, by decide +kernel⟩, by decide +kernel⟩, inT mt_11 36 (by decide +kernel) rfl, inT mt_11 37 (by decide +kernel) rfl⟩
theorem mlL_63 : ML RL 63 yX12_width := Or.inl (inT mt_11 39 (by decide +kernel) rfl)
set_option maxRecDepth 100000 in
theorem mcX12_width : MCv yX12_width cX12_width 2 (some .int) 1 := ⟨⟨inT mt_1 15 (by decide +kernel) rfl, inT mt_11 42 rfl rfl, ⟨by decide +kernel, by decide +kernel⟩, by decide +kernel⟩, inT mt_11 40 (by decide +kernel) rfl, inT mt_11 41 (by decide +kernel) rfl⟩
theorem mlL_67 : ML RL 67 yX12_height := Or.inl (inT mt_11 43 (by decide +kernel) rfl)
set_option maxRecDepth 100000 in
theorem mcX12_height : MCv yX12_height cX12_height 2 (some .int) 1 := ⟨⟨inT mt_1 15 (by decide +kernel) rfl, inT mt_11 46 rfl rfl, ⟨by decide +kernel, by decide +kernel⟩, by decide +kernel⟩, inT mt_11 44 (by decide +kernel) rfl, inT mt_11 45 (by decide +kernel) rfl⟩
theorem mlL_72 : ML RL 72 yX12_dot := Or.inl (inT mt_11 47 (by decide +kernel) rfl)
set_option maxRecDepth 100000 in
theorem mcX12_dot : MCv yX12_dot cX12_dot 4 (some .int) 3 := ⟨⟨inT mt_1 15 (by decide +kernel) rfl, inT mt_11 50 rfl rfl, ⟨by decide +kernel, by decide +kernel⟩, by decide +kernel⟩, inT mt_11 48 (by decide +kernel) rfl, inT mt_11 49 (by decide +kernel) rfl⟩
theorem mlL_77 : ML RL 77 yX12_black := Or.inl (inT mt_11 51 (by decide +kernel) rfl)
set_option maxRecDepth 100000 in
theorem mcX12_black : MCv yX12_black cX12_black 5 (some .int) 2 := ⟨⟨inT mt_1 15 (by decide +kernel) rfl, inT mt_11 54 rfl rfl, ⟨by decide +kernel, by decide +kernel⟩, by decide +kernel⟩, inT mt_11 52 (by decide +kernel) rfl, inT mt_11 53 (by decide +kernel) rfl⟩
theorem mlL_81 : ML RL 81 yX12_state := Or.inl (inT mt_11 55 (by decide +kernel) rfl)
set_option maxRecDepth 100000 in
theorem mcX12_state : MCv yX12_state cX12_state 2 (some .int) 1 := ⟨⟨inT mt_1 15 (by decide +kernel) rfl, inT mt_11 58 rfl rfl, ⟨by decide +kernel, by decide +kernel⟩, by decide +kernel⟩, inT mt_11 56 (by decide +kernel) rfl, inT mt_11 57 (by decide +kernel) rfl⟩
theorem mlL_85 : ML RL 85 yX12_held := Or.inl (inT mt_11 59 (by decide +kernel) rfl)
set_option maxRecDepth 100000 in
theorem mcX12_held : MCv yX12_held cX12_held 4 (some .int) 1 := ⟨⟨inT mt_1 15 (by decide +kernel) rfl, inT mt_11 62 rfl rfl, ⟨by decide +kernel, by decide +kernel⟩, by decide +kernel⟩, inT mt_11 60 (by decide +kernel) rfl, inT mt_11 61 (by decide +kernel) rfl⟩
theorem mlL_89 : ML RL 89 yX12_off := Or.inl (inT mt_11 63 (by decide +kernel) rfl)
set_option maxRecDepth 100000 in
theorem mcX12_off : MCv yX12_off cX12_off 2 (some .int) 0 := ⟨⟨inT mt_1 15 (by decide +kernel) rfl, inT mt_11 66 rfl rfl, ⟨by decide +kernel, by decide +kernel⟩, by decide +kernel⟩, inT mt_11 64 (by decide +kernel) rfl, inT mt_11 65 (by decide +kernel) rfl⟩
theorem mlX12_664 : ML RX12 664 yX12_held := Or.inl (inT mt_11 67 (by decide +kernel) rfl)
theorem gsJ0_9 : Cond.fieldLink RJ0 9 "java/lang/String" "value" "[B" ∈ TBL := inT mt_11 68 (by decide +kernel) rfl
theorem gsJ0_15 : Cond.fieldLink RJ0 15 "java/lang/String" "coder" "B" ∈ TBL := inT mt_11 69 (by decide +kernel) rfl
theorem oi_inst : Cond.instanceMethod objectInit ∈ TBL := inT mt_1 28 (by decide +kernel) rfl
set_option maxRecDepth 100000 in
theorem oi_code : Cond.code objectInit ⟨#[0xb1]⟩ 1 none ∈ TBL := inT mt_1 29 rfl rfl
theorem ac_nat : Cond.native arraycopyName ∈ TBL := inT mt_1 188 (by decide +kernel) rfl
theorem ac_sta : Cond.static arraycopyName ∈ TBL := inT mt_1 187 (by decide +kernel) rfl
theorem ac_ini : Cond.initialized "java/lang/System" ∈ TBL := inT mt_1 9 (by decide +kernel) rfl
end
section
/-! Static arrays and texts that nobody writes; 
-/
def st_FORMAT_WIDE : List Int32 := [200, 320, 480, 640]
def st_FORMAT_HIGH : List Int32 := [240, 400, 640, 800]
def st_RUN_BITS : List Int32 := [8, 6, 4, 4, 4, 4, 4, 4, 5, 5, 5, 5, 6, 6, 6, 6, 6, 6, 7, 7, 7, 7, 7, 7, 7, 7, 7, 7, 7, 8, 8, 8, 8, 8, 8, 8, 8, 8, 8, 8, 8, 8, 8, 8, 8, 8, 8, 8, 8, 8, 8, 8, 8, 8, 8, 8, 8, 8, 8, 8, 8, 8, 8, 8, 5, 5, 6, 7, 8, 8, 8, 8, 8, 8, 10, 3, 2, 2, 3, 4, 4, 5, 6, 6, 7, 7, 7, 8, 8, 9, 10, 10, 10, 11, 11, 11, 11, 11, 11, 11, 12, 12, 12, 12, 12, 12, 12, 12, 12, 12, 12, 12, 12, 12, 12, 12, 12, 12, 12, 12, 12, 12, 12, 12, 12, 12, 12, 12, 12, 12, 12, 12, 12, 12, 12, 12, 12, 12, 10, 12, 12, 12, 12, 12, 12, 13, 13, 13]
def st_RUN_CODES : List Int32 := [53, 7, 7, 8, 11, 12, 14, 15, 19, 20, 7, 8, 8, 3, 52, 53, 42, 43, 39, 12, 8, 23, 3, 4, 40, 43, 19, 36, 24, 2, 3, 26, 27, 18, 19, 20, 21, 22, 23, 40, 41, 42, 43, 44, 45, 4, 5, 10, 11, 82, 83, 84, 85, 36, 37, 88, 89, 90, 91, 74, 75, 50, 51, 52, 27, 18, 23, 55, 54, 55, 100, 101, 104, 103, 55, 2, 3, 2, 3, 3, 2, 3, 5, 4, 4, 5, 7, 4, 7, 24, 23, 24, 8, 103, 104, 108, 55, 40, 23, 24, 202, 203, 204, 205, 104, 105, 106, 107, 210, 211, 212, 213, 214, 215, 108, 109, 218, 219, 84, 85, 86, 87, 100, 101, 82, 83, 36, 55, 56, 39, 40, 88, 89, 43, 44, 90, 102, 103, 15, 200, 201, 91, 51, 52, 53, 108, 109, 74]
def st_NEAR_BITS : List Int32 := [7, 6, 3, 1, 3, 6, 7]
def st_NEAR_CODES : List Int32 := [2, 2, 2, 1, 3, 3, 3]
def st_SHADES : List Int32 := [0, 8, 2, 10, 12, 4, 14, 6, 3, 11, 1, 9, 15, 7, 13, 5]
def stL : List (String × String × List Int32) := [("PrinterHouse", "FORMAT_WIDE", st_FORMAT_WIDE), ("PrinterHouse", "FORMAT_HIGH", st_FORMAT_HIGH), ("PrinterHouse", "RUN_BITS", st_RUN_BITS), ("PrinterHouse", "RUN_CODES", st_RUN_CODES), ("PrinterHouse", "NEAR_BITS", st_NEAR_BITS), ("PrinterHouse", "NEAR_CODES", st_NEAR_CODES), ("PrinterHouse$Tile", "SHADES", st_SHADES)]
def tx_0 : String := "8:35 6:7 4:7 4:8 4:b 4:c 4:e 4:f 5:13 5:14 5:7 5:8 6:8 6:3 6:34 6:35 6:2a 6:2b 7:27 7:c 7:8 7:17 7:3 7:4 7:28 7:2b 7:13 7:24 7:18 8:2 8:3 8:1a 8:1b 8:12 8:13 8:14 8:15 8:16 8:17 8:28 8:29 8:2a 8:2b 8:2c 8:2d 8:4 8:5 8:a 8:b 8:52 8:53 8:54 8:55 8:24 8:25 8:58 8:59 8:5a 8:5b 8:4a 8:4b 8:32 8:33 8:34 5:1b 5:12 6:17 7:37 8:36 8:37 8:64 8:65 8:68 8:67 "
def tb_0 : List Int32 := [56, 58, 51, 53, 32, 54, 58, 55, 32, 52, 58, 55, 32, 52, 58, 56, 32, 52, 58, 98, 32, 52, 58, 99, 32, 52, 58, 101, 32, 52, 58, 102, 32, 53, 58, 49, 51, 32, 53, 58, 49, 52, 32, 53, 58, 55, 32, 53, 58, 56, 32, 54, 58, 56, 32, 54, 58, 51, 32, 54, 58, 51, 52, 32, 54, 58, 51, 53, 32, 54, 58, 50, 97, 32, 54, 58, 50, 98, 32, 55, 58, 50, 55, 32, 55, 58, 99, 32, 55, 58, 56, 32, 55, 58, 49, 55, 32, 55, 58, 51, 32, 55, 58, 52, 32, 55, 58, 50, 56, 32, 55, 58, 50, 98, 32, 55, 58, 49, 51, 32, 55, 58, 50, 52, 32, 55, 58, 49, 56, 32, 56, 58, 50, 32, 56, 58, 51, 32, 56, 58, 49, 97, 32, 56, 58, 49, 98, 32, 56, 58, 49, 50, 32, 56, 58, 49, 51, 32, 56, 58, 49, 52, 32, 56, 58, 49, 53, 32, 56, 58, 49, 54, 32, 56, 58, 49, 55, 32, 56, 58, 50, 56, 32, 56, 58, 50, 57, 32, 56, 58, 50, 97, 32, 56, 58, 50, 98, 32, 56, 58, 50, 99, 32, 56, 58, 50, 100, 32, 56, 58, 52, 32, 56, 58, 53, 32, 56, 58, 97, 32, 56, 58, 98, 32, 56, 58, 53, 50, 32, 56, 58, 53, 51, 32, 56, 58, 53, 52, 32, 56, 58, 53, 53, 32, 56, 58, 50, 52, 32, 56, 58, 50, 53, 32, 56, 58, 53, 56, 32, 56, 58, 53, 57, 32, 56, 58, 53, 97, 32, 56, 58, 53, 98, 32, 56, 58, 52, 97, 32, 56, 58, 52, 98, 32, 56, 58, 51, 50, 32, 56, 58, 51, 51, 32, 56, 58, 51, 52, 32, 53, 58, 49, 98, 32, 53, 58, 49, 50, 32, 54, 58, 49, 55, 32, 55, 58, 51, 55, 32, 56, 58, 51, 54, 32, 56, 58, 51, 55, 32, 56, 58, 54, 52, 32, 56, 58, 54, 53, 32, 56, 58, 54, 56, 32, 56, 58, 54, 55, 32]
def tx_1 : String := "10:37 3:2 2:3 2:2 3:3 4:3 4:2 5:3 6:5 6:4 7:4 7:5 7:7 8:4 8:7 9:18 10:17 10:18 10:8 11:67 11:68 11:6c 11:37 11:28 11:17 11:18 12:ca 12:cb 12:cc 12:cd 12:68 12:69 12:6a 12:6b 12:d2 12:d3 12:d4 12:d5 12:d6 12:d7 12:6c 12:6d 12:da 12:db 12:54 12:55 12:56 12:57 12:64 12:65 12:52 12:53 12:24 12:37 12:38 12:27 12:28 12:58 12:59 12:2b 12:2c 12:5a 12:66 12:67 10:f 12:c8 12:c9 12:5b 12:33 12:34 12:35 13:6c 13:6d 13:4a "
def tb_1 : List Int32 := [49, 48, 58, 51, 55, 32, 51, 58, 50, 32, 50, 58, 51, 32, 50, 58, 50, 32, 51, 58, 51, 32, 52, 58, 51, 32, 52, 58, 50, 32, 53, 58, 51, 32, 54, 58, 53, 32, 54, 58, 52, 32, 55, 58, 52, 32, 55, 58, 53, 32, 55, 58, 55, 32, 56, 58, 52, 32, 56, 58, 55, 32, 57, 58, 49, 56, 32, 49, 48, 58, 49, 55, 32, 49, 48, 58, 49, 56, 32, 49, 48, 58, 56, 32, 49, 49, 58, 54, 55, 32, 49, 49, 58, 54, 56, 32, 49, 49, 58, 54, 99, 32, 49, 49, 58, 51, 55, 32, 49, 49, 58, 50, 56, 32, 49, 49, 58, 49, 55, 32, 49, 49, 58, 49, 56, 32, 49, 50, 58, 99, 97, 32, 49, 50, 58, 99, 98, 32, 49, 50, 58, 99, 99, 32, 49, 50, 58, 99, 100, 32, 49, 50, 58, 54, 56, 32, 49, 50, 58, 54, 57, 32, 49, 50, 58, 54, 97, 32, 49, 50, 58, 54, 98, 32, 49, 50, 58, 100, 50, 32, 49, 50, 58, 100, 51, 32, 49, 50, 58, 100, 52, 32, 49, 50, 58, 100, 53, 32, 49, 50, 58, 100, 54, 32, 49, 50, 58, 100, 55, 32, 49, 50, 58, 54, 99, 32, 49, 50, 58, 54, 100, 32, 49, 50, 58, 100, 97, 32, 49, 50, 58, 100, 98, 32, 49, 50, 58, 53, 52, 32, 49, 50, 58, 53, 53, 32, 49, 50, 58, 53, 54, 32, 49, 50, 58, 53, 55, 32, 49, 50, 58, 54, 52, 32, 49, 50, 58, 54, 53, 32, 49, 50, 58, 53, 50, 32, 49, 50, 58, 53, 51, 32, 49, 50, 58, 50, 52, 32, 49, 50, 58, 51, 55, 32, 49, 50, 58, 51, 56, 32, 49, 50, 58, 50, 55, 32, 49, 50, 58, 50, 56, 32, 49, 50, 58, 53, 56, 32, 49, 50, 58, 53, 57, 32, 49, 50, 58, 50, 98, 32, 49, 50, 58, 50, 99, 32, 49, 50, 58, 53, 97, 32, 49, 50, 58, 54, 54, 32, 49, 50, 58, 54, 55, 32, 49, 48, 58, 102, 32, 49, 50, 58, 99, 56, 32, 49, 50, 58, 99, 57, 32, 49, 50, 58, 53, 98, 32, 49, 50, 58, 51, 51, 32, 49, 50, 58, 51, 52, 32, 49, 50, 58, 51, 53, 32, 49, 51, 58, 54, 99, 32, 49, 51, 58, 54, 100, 32, 49, 51, 58, 52, 97, 32]
def txLen : List Nat := [349, 413]
def txB : List (List Int32) := [tb_0, tb_1]
abbrev EV : Type := va_G × (Nat → ClassId) × (Nat → Nat)
theorem va_AOA.moved {t : FieldType} {u U : State} (hvm : u.vm.Alike U.vm) (h : va_AOA t u) : va_AOA t U := by
  obtain ⟨comp, c, k, h1, h2, h3, h4, h5⟩ := arrayOverA_spec h
  obtain ⟨k', hk', he⟩ := hvm.2.2 _ _ h3
  have b1 := va_idx_bare U.vm comp
  rw [hvm.bare_eq] at b1
  have hi := (b1.symm.trans (va_idx_bare u.vm comp)).trans h2
  have hkind : k'.kind = .array comp (.array t) := by rw [he]; exact h4
  have f1 : U.vm.findClass (FieldType.array t).toString = some comp := by rw [hvm.findClass]; exact h1
  have f2 : U.vm.findClass ("[" ++ (FieldType.array t).toString) = some c := by rw [hvm.findClass]; exact h5
  unfold va_AOA Cond.before Cond.holds
  simp only [Cond.value]
  rw [f1, Option.bind_some]
  refine (congrArg (fun o : Option Nat => (o.bind (fun c => (U.vm.classes[c]?).map fun (k : Class) => match k.kind with | .array _ ty => decide (ty = FieldType.array t) && decide (U.vm.findClass ("[" ++ (FieldType.array t).toString) = some c) | _ => false) == some true)) hi).trans ?_
  simp [hk', hkind, f2]
/-- the texts of the reference, and the JDK's own switch -/
def GXs (v : EV) (A : Nat → Prop) (U : State) (H : Heap) : Prop := va_Z "java/lang/String" "COMPACT_STRINGS" "Z" (.int 1) A U H ∧ vk_S 2 txLen txB (fun i => v.2.2 (20 + i)) (fun i => v.2.2 (30 + i)) A U H ∧ vk_R RX12 505 tx_0 (v.2.2 20) U ∧ vk_R RX12 511 tx_1 (v.2.2 21) U ∧ va_AO "PrinterHouse$Environment" U ∧ va_AO "PrinterHouse$Reading" U ∧ va_AO "PrinterHouse$Tile" U ∧ va_AOA .int U ∧ va_Zq "jdk/internal/util/Preconditions" "SIOOBE_FORMATTER" "Ljava/util/function/BiFunction;" A U H
theorem GXs.call {v : EV} {A B : Nat → Prop} {s U : State} {H : Heap} {locs : List Loc} (h : GXs v A s s.heap) (hS : va_S A s.heap H locs) (hW : s.WarmedH U.vm) (hAB : ∀ q, B q → A q) : GXs v B U H := by
  obtain ⟨h1, h2, r0, r1, o1, o2, o3, o4, zq⟩ := h
  exact ⟨((h1.kept hS.2.1).moved hW.alike).narrow hAB, ((h2.kept hS.2.1).moved hW.alike).narrow hAB, r0.warm hW, r1.warm hW, o1.moved hW.alike, o2.moved hW.alike, o3.moved hW.alike, o4.moved hW.alike, ((zq.kept hS.2.1).moved hW.alike).narrow hAB⟩
theorem GXs.blind {v : EV} {A : Nat → Prop} {U : State} {g : JFrame} {mk : MethodId} {a : Array Value} (h : GXs v A U U.heap) : GXs v A (U.calling g mk a) (U.calling g mk a).heap := by
  obtain ⟨h1, h2, r0, r1, o1, o2, o3, o4, zq⟩ := h
  exact ⟨h1.moved (U := U.calling g mk a) (Vm.Alike.refl U.vm), h2.moved (U := U.calling g mk a) (Vm.Alike.refl U.vm), r0.same rfl, r1.same rfl, o1.moved (U := U.calling g mk a) (Vm.Alike.refl U.vm), o2.moved (U := U.calling g mk a) (Vm.Alike.refl U.vm), o3.moved (U := U.calling g mk a) (Vm.Alike.refl U.vm), o4.moved (U := U.calling g mk a) (Vm.Alike.refl U.vm), zq.moved (U := U.calling g mk a) (Vm.Alike.refl U.vm)⟩
/-! The judgement J: W over the pool, for any heap that holds it; contracts Ct; the rows of the machine over J. -/
abbrev TY (cy : Nat → ClassId) : List (ClassId × FieldType) := [(cy 13, .byte), (cy 14, .int), (cy 15, .long), (cy 16, .short), (cy 17, .boolean), (cy 18, .object "PrinterHouse$Environment"), (cy 19, .object "PrinterHouse$Reading"), (cy 20, .object "PrinterHouse$Tile"), (cy 21, .array .int)]
/-- what holds of the launch at any method's start: classes, nest mates' words, static arrays, texts -/
def GV (v : EV) (A : Nat → Prop) (U : State) (H : Heap) : Prop :=
  va_K v.1 vwCl (TY v.2.1) U ∧ (∀ w ∈ NST, va_Nw w U) ∧ (∀ (i : Nat) (q : String × String × List Int32), stL[i]? = some q → va_Z q.1 q.2.1 "[I" (.ref (v.2.2 i)) A U H ∧ va_T .int (v.2.2 i) q.2.2.length (fun j => .int (q.2.2.getD j 0)) A U H) ∧ GXs v A U H
theorem va_Nw.nst {w : Cond} (h : w ∈ NST) {s U : State} (hW : s.WarmedH U.vm) (hZ : va_Nw w s) : va_Nw w U := by
  have h1 := (List.mem_filter.mp h).2
  cases w <;> first | exact va_Nw.warmF hW hZ | exact va_Nw.warmM hW hZ | (exact absurd h1 (by simp [isNest]))
theorem GV.call {v : EV} {A B : Nat → Prop} {s U : State} {H : Heap} {locs : List Loc} (h : GV v A s s.heap) (hS : va_S A s.heap H locs) (hU : U.heap = H) (hW : s.WarmedH U.vm) (hAB : ∀ q, B q → A q) : GV v B U U.heap := by
  rw [hU]
  have hq : ∀ a : Nat, a < s.heap.size → ¬ A a → H[a]? = s.heap[a]? := hS.2.1
  refine ⟨va_K.moved hW.alike h.1, fun w hw => va_Nw.nst hw hW (h.2.1 w hw), fun i q hi => ?_, h.2.2.2.call hS hW hAB⟩
  obtain ⟨h1, h2⟩ := h.2.2.1 i q hi
  exact ⟨((h1.kept hq).moved hW.alike).narrow hAB, ((h2.kept hq).moved hW.alike).narrow hAB⟩
theorem GV.blind {v : EV} {A : Nat → Prop} {U : State} {g : JFrame} {mk : MethodId} {a : Array Value} (h : GV v A U U.heap) : GV v A (U.calling g mk a) (U.calling g mk a).heap := by
  have e : (U.calling g mk a).vm = U.vm := rfl
  refine ⟨va_K.moved (u := U) (U := U.calling g mk a) (Vm.Alike.refl U.vm) h.1, fun w hw => va_tabs (List.all_eq_true.mp nst_tab w hw) e.symm (h.2.1 w hw), fun i q hi => ?_, h.2.2.2.blind⟩
  obtain ⟨h1, h2⟩ := h.2.2.1 i q hi
  exact ⟨h1.moved (U := U.calling g mk a) (Vm.Alike.refl U.vm), h2.moved (U := U.calling g mk a) (Vm.Alike.refl U.vm)⟩
/-- a method's start and end -/
def PW (v : EV) (sz : Nat) (S : Hp) (U : State) : Prop := U.heap.size = sz ∧ va_P v.1 vwCl (pl v.2.1 S) U.heap ∧ va_D (fun _ => True) (pl v.2.1 S) ∧ GV v (fun q => q ∈ hL S ∨ sz ≤ q) U U.heap
def QW (v : EV) (sz : Nat) (S : Hp) (Q : Option Value → Hp → Prop) : Array Value → State → Outcome → State → Prop := fun _ st oc t => (∃ (r : Option Value) (S' : Hp), oc = .returned r ∧ Q r S' ∧ va_P v.1 vwCl (pl v.2.1 S') t.heap ∧ va_D (fun q => q ∈ hL S ∨ sz ≤ q) (pl v.2.1 S')) ∧ va_F (fun q => q ∈ hL S ∨ sz ≤ q) st t
abbrev rmD (d k n : Nat) : Room := { frames := d, cells := k, slots := n, locals := 40 * d }
/-- a contract: from the pool S, y returns r with the pool S', 'Q r S'' -/
def Ct (d : Nat) (y : MethodName) (cc : ByteArray) (maxL : Nat) (ret : Option FieldType) (k n : Nat) (As : List Value) (S : Hp) (Q : Option Value → Hp → Prop) : Prop :=
  ∀ (l : Launch) (v : EV) (sz : Nat), Met l y (Cond.code y cc maxL ret :: TBL) (rmD d k n) (va_Pc As (PW v sz S)) (QW v sz S Q) k n (fun q => q ∈ hL S ∨ sz ≤ q)
def CtA (v : EV) (d : Nat) (y : MethodName) (cc : ByteArray) (maxL : Nat) (ret : Option FieldType) (k n : Nat) (As : List Value) (S : Hp) (Q : Option Value → Hp → Prop) : Prop :=
  ∀ (l : Launch) (sz : Nat), Met l y (Cond.code y cc maxL ret :: TBL) (rmD d k n) (va_Pc As (PW v sz S)) (QW v sz S Q) k n (fun q => q ∈ hL S ∨ sz ≤ q)
theorem Ct.at {d : Nat} {y : MethodName} {cc : ByteArray} {maxL : Nat} {ret : Option FieldType} {k n : Nat} {As : List Value} {S : Hp} {Q : Option Value → Hp → Prop} (h : Ct d y cc maxL ret k n As S Q) (v : EV) : CtA v d y cc maxL ret k n As S Q := fun l sz => h l v sz
abbrev JX : Type := Program × Launch × Env × Room × State × MethodId × (Array Value) × (List Frame) × Method × Code × EV × (Nat → Prop) × Nat × (State → Prop)
abbrev x_p (x : JX) : Program := x.1
abbrev x_l (x : JX) : Launch := x.2.1
abbrev x_e (x : JX) : Env := x.2.2.1
abbrev x_R (x : JX) : Room := x.2.2.2.1
abbrev x_s (x : JX) : State := x.2.2.2.2.1
abbrev x_m (x : JX) : MethodId := x.2.2.2.2.2.1
abbrev x_a (x : JX) : Array Value := x.2.2.2.2.2.2.1
abbrev x_b (x : JX) : List Frame := x.2.2.2.2.2.2.2.1
abbrev x_meth (x : JX) : Method := x.2.2.2.2.2.2.2.2.1
abbrev x_c (x : JX) : Code := x.2.2.2.2.2.2.2.2.2.1
abbrev x_v (x : JX) : EV := x.2.2.2.2.2.2.2.2.2.2.1
abbrev x_A (x : JX) : Nat → Prop := x.2.2.2.2.2.2.2.2.2.2.2.1
abbrev x_n (x : JX) : Nat := x.2.2.2.2.2.2.2.2.2.2.2.2.1
abbrev x_Q (x : JX) : State → Prop := x.2.2.2.2.2.2.2.2.2.2.2.2.2
abbrev jW (x : JX) (H : Heap) (locs : List Loc) (k n : Nat) (g : JFrame) : Prop := W (x_p x) (x_l x) (x_e x) (x_R x) (x_s x) (x_m x) (x_a x) (x_b x) (x_meth x) (x_c x) H locs k n (x_Q x) g
def J (x : JX) (k n : Nat) (S : Hp) (lv : List (Nat × Value)) (pc : Nat) (st : List Value) : Prop :=
  ∀ (H : Heap) (locs : List Loc) (ls : Array Slot), va_P (x_v x).1 vwCl (pl (x_v x).2.1 S) H → va_D (x_A x) (pl (x_v x).2.1 S) → va_S (x_A x) (x_s x).heap H locs → lv_has ls (x_n x) lv → jW x H locs k n (F0 (x_m x) pc ls st)
/-- what holds throughout a method's body -/
def CB (x : JX) (own : String) (cc : ByteArray) : Prop :=
  (x_p x).tables.exec = Jvm.exec ∧ (x_c x).code = cc ∧ (x_c x).maxLocals = x_n x ∧ (x_s x).vm.findClass own = some (x_m x).cls ∧ (∀ w ∈ TBL, w.before (x_a x) (x_s x) = true) ∧ (∀ q, (x_s x).heap.size ≤ q → x_A x q) ∧ GV (x_v x) (x_A x) (x_s x) (x_s x).heap
/-- and of its end -/
def CM (x : JX) (d k n : Nat) (ret : Option FieldType) (S : Hp) (Q : Option Value → Hp → Prop) : Prop :=
  x_R x = rmD d k n ∧ x_A x = (fun q => q ∈ hL S ∨ (x_s x).heap.size ≤ q) ∧ x_Q x = MQ (x_b x) (QW (x_v x) (x_s x).heap.size S Q) (x_a x) (x_s x) k n (x_A x) ∧ (x_meth x).sig.returnType = ret ∧ (x_meth x).locks = false
theorem ct_ofA {v : EV} {d : Nat} {y : MethodName} {cc : ByteArray} {maxL : Nat} {ret : Option FieldType} {k n : Nat} {As : List Value} {S : Hp} {Q : Option Value → Hp → Prop} (hy : plainName y.cls = true) (hlen : (lg_sl As).length ≤ maxL)
    (body : ∀ x : JX, x_v x = v → x_n x = maxL → CB x y.cls cc → CM x d k n ret S Q → (x_meth x).name = y.name → J x 0 0 S (lv_args 0 As) 0 []) : CtA v d y cc maxL ret k n As S Q := by
  intro l sz
  refine Met.ofW (cc := cc) (maxL := maxL) (ret := ret) hy rfl ?_
  intro p e s m args below meth c s₁ B hml hv
  obtain ⟨rfl, rfl, hP, hD0, hG⟩ := hv
  have hts := atoms_spec (ws := Cond.code y cc maxL ret :: TBL) B.pre
  have K := body (p, l, e, rmD d k n, s, m, As.toArray, below, meth, c, v, (fun q => q ∈ hL S ∨ s.heap.size ≤ q), maxL, MQ below (QW v s.heap.size S Q) As.toArray s k n (fun q => q ∈ hL S ∨ s.heap.size ≤ q)) rfl rfl ⟨B.exec, B.bytes, hml, findClass_of_methodNamed B.named, fun w h => hts w (List.mem_cons_of_mem _ h), fun q h => Or.inr h, hG⟩ ⟨rfl, rfl, rfl, B.returns, B.notSynchronized⟩ (name_of_methodNamed B.named B.method).1
  have hl := lv_entry As (n := maxL) hlen
  rw [lg_entry_eq]
  refine K s.heap [] _ hP ⟨hD0.1, fun k q hk => ?_⟩ va_S.rf hl
  have := List.mem_of_getElem? hk
  unfold pl va_pl at this
  obtain ⟨a, ha, rfl⟩ := List.mem_map.mp this
  exact Or.inl ha
theorem ct_of {d : Nat} {y : MethodName} {cc : ByteArray} {maxL : Nat} {ret : Option FieldType} {k n : Nat} {As : List Value} {S : Hp} {Q : Option Value → Hp → Prop} (hy : plainName y.cls = true) (hlen : (lg_sl As).length ≤ maxL)
    (body : ∀ x : JX, x_n x = maxL → CB x y.cls cc → CM x d k n ret S Q → (x_meth x).name = y.name → J x 0 0 S (lv_args 0 As) 0 []) : Ct d y cc maxL ret k n As S Q := fun l v sz => ct_ofA hy hlen (fun x _ => body x) l sz
section JR
variable {x : JX} {own : String} {cc : ByteArray} {k n pc tgt : Nat} {S : Hp} {lv : List (Nat × Value)} {st : List Value}
theorem J.eq {S' : Hp} {lv' : List (Nat × Value)} {st' : List Value} (h1 : S = S') (h2 : lv = lv') (h3 : st = st') (K : J x k n S' lv' pc st') : J x k n S lv pc st := by subst h1; subst h2; subst h3; exact K
theorem J.widen {k' n' : Nat} (h1 : k ≤ k') (h2 : n ≤ n') (K : J x k' n' S lv pc st) : J x k n S lv pc st := fun H locs ls hP hD hS hl => W.widen h1 h2 (K H locs ls hP hD hS hl)
theorem J.sub (ks : List Nat) {lv' : List (Nat × Value)} (h : lv_pick lv ks = lv') (K : J x k n S lv' pc st) : J x k n S lv pc st := fun H locs ls hP hD hS hl => K H locs ls hP hD hS (lv_sub hl ks h)
theorem J.nodup (K : (hL S).Nodup → J x k n S lv pc st) : J x k n S lv pc st := fun H locs ls hP hD hS hl => by
  refine K ?_ H locs ls hP hD hS hl
  refine List.pairwise_iff_getElem.mpr fun i j hi hj hij h3 => ?_
  have g1 : (pl (x_v x).2.1 S)[i]? = some ((hL S)[i], pf (x_v x).2.1 S (hL S)[i]) := by simp [pl, va_pl, hi]
  have g2 : (pl (x_v x).2.1 S)[j]? = some ((hL S)[j], pf (x_v x).2.1 S (hL S)[j]) := by simp [pl, va_pl, hj]
  exact absurd (hD.1 i j _ _ g1 g2 h3) (Nat.ne_of_lt hij)
theorem j_topi {a : Int32} (K : ∀ y : Int32, y = a → J x k n S lv pc (.int y :: st)) : J x k n S lv pc (.int a :: st) := K a rfl
theorem j_topl {a : Int64} (K : ∀ y : Int64, y = a → J x k n S lv pc (.long y :: st)) : J x k n S lv pc (.long a :: st) := K a rfl
theorem j_heap {P : Hp → Prop} (h : P S) (K : ∀ S' : Hp, P S' → J x k n S' lv pc st) : J x k n S lv pc st := K S h

theorem j_iconst (C : CB x own cc) {v : Int32} {i : Int} (d : decode cc pc = .ok (.iconst i, 1)) (hv : Int32.ofInt i = v) (K : J x k n S lv (pc + 1) (.int v :: st)) : J x k n S lv pc (st) := fun H locs ls hP hD hS hl => lv_iconst C.1 C.2.1 d hv (K H locs ls hP hD hS hl)
theorem j_bipush (C : CB x own cc) {v : Int32} {i : Int} (d : decode cc pc = .ok (.bipush i, 2)) (hv : (Int8.ofInt i).toInt32 = v) (K : J x k n S lv (pc + 2) (.int v :: st)) : J x k n S lv pc (st) := fun H locs ls hP hD hS hl => lv_bipush C.1 C.2.1 d hv (K H locs ls hP hD hS hl)
theorem j_sipush (C : CB x own cc) {v : Int32} {i : Int} (d : decode cc pc = .ok (.sipush i, 3)) (hv : (Int16.ofInt i).toInt32 = v) (K : J x k n S lv (pc + 3) (.int v :: st)) : J x k n S lv pc (st) := fun H locs ls hP hD hS hl => lv_sipush C.1 C.2.1 d hv (K H locs ls hP hD hS hl)
theorem j_lconst (C : CB x own cc) {v : Int64} {i : Fin 2} (d : decode cc pc = .ok (.lconst i, 1)) (hv : Int64.ofNat (i : Nat) = v) (K : J x k n S lv (pc + 1) (.long v :: st)) : J x k n S lv pc (st) := fun H locs ls hP hD hS hl => lv_lconst C.1 C.2.1 d hv (K H locs ls hP hD hS hl)
theorem j_iload_n (C : CB x own cc) {i : Nat} {f : Fin 4} {a : Int32} (d : decode cc pc = .ok (.iload_n f, 1)) (hf : (f : Nat) = i) (q : Nat) (h : lv[q]? = some (i, .int a)) (K : J x k n S lv (pc + 1) (.int a :: st)) : J x k n S lv pc (st) := fun H locs ls hP hD hS hl => lv_iload_n C.1 C.2.1 d hf (lv_at hl q h) (K H locs ls hP hD hS hl)
theorem j_iload (C : CB x own cc) {i : Nat} {a : Int32} (d : decode cc pc = .ok (.iload i, 2)) (q : Nat) (h : lv[q]? = some (i, .int a)) (K : J x k n S lv (pc + 2) (.int a :: st)) : J x k n S lv pc (st) := fun H locs ls hP hD hS hl => lv_iload C.1 C.2.1 d (lv_at hl q h) (K H locs ls hP hD hS hl)
theorem j_lload_n (C : CB x own cc) {i : Nat} {f : Fin 4} {a : Int64} (d : decode cc pc = .ok (.lload_n f, 1)) (hf : (f : Nat) = i) (q : Nat) (h : lv[q]? = some (i, .long a)) (K : J x k n S lv (pc + 1) (.long a :: st)) : J x k n S lv pc (st) := fun H locs ls hP hD hS hl => lv_lload_n C.1 C.2.1 d hf (lv_at hl q h) (K H locs ls hP hD hS hl)
theorem j_lload (C : CB x own cc) {i : Nat} {a : Int64} (d : decode cc pc = .ok (.lload i, 2)) (q : Nat) (h : lv[q]? = some (i, .long a)) (K : J x k n S lv (pc + 2) (.long a :: st)) : J x k n S lv pc (st) := fun H locs ls hP hD hS hl => lv_lload C.1 C.2.1 d (lv_at hl q h) (K H locs ls hP hD hS hl)
theorem j_aload_n (C : CB x own cc) {i a : Nat} {f : Fin 4} (d : decode cc pc = .ok (.aload_n f, 1)) (hf : (f : Nat) = i) (q : Nat) (h : lv[q]? = some (i, .ref a)) (K : J x k n S lv (pc + 1) (.ref a :: st)) : J x k n S lv pc (st) := fun H locs ls hP hD hS hl => lv_aload_n C.1 C.2.1 d hf (lv_at hl q h) (K H locs ls hP hD hS hl)
theorem j_aload (C : CB x own cc) {i a : Nat} (d : decode cc pc = .ok (.aload i, 2)) (q : Nat) (h : lv[q]? = some (i, .ref a)) (K : J x k n S lv (pc + 2) (.ref a :: st)) : J x k n S lv pc (st) := fun H locs ls hP hD hS hl => lv_aload C.1 C.2.1 d (lv_at hl q h) (K H locs ls hP hD hS hl)
theorem j_istore_n (C : CB x own cc) {i : Nat} {f : Fin 4} {a : Int32} {lv' : List (Nat × Value)} (d : decode cc pc = .ok (.istore_n f, 1)) (hf : (f : Nat) = i) (hn : i < x_n x) (hl' : (i, Value.int a) :: lv.filter (fun q => !(q.1 == i) && !(q.1 + 1 == i && q.2.category == 2)) = lv') (K : J x k n S lv' (pc + 1) st) : J x k n S lv pc (.int a :: st) := fun H locs ls hP hD hS hl => lv_istore_n C.1 C.2.1 d hf hl hn hl' (fun ls1 hl1 => K H locs ls1 hP hD hS hl1)
theorem j_istore (C : CB x own cc) {i : Nat} {a : Int32} {lv' : List (Nat × Value)} (d : decode cc pc = .ok (.istore i, 2)) (hn : i < x_n x) (hl' : (i, Value.int a) :: lv.filter (fun q => !(q.1 == i) && !(q.1 + 1 == i && q.2.category == 2)) = lv') (K : J x k n S lv' (pc + 2) st) : J x k n S lv pc (.int a :: st) := fun H locs ls hP hD hS hl => lv_istore C.1 C.2.1 d hl hn hl' (fun ls1 hl1 => K H locs ls1 hP hD hS hl1)
theorem j_lstore_n (C : CB x own cc) {i : Nat} {f : Fin 4} {a : Int64} {lv' : List (Nat × Value)} (d : decode cc pc = .ok (.lstore_n f, 1)) (hf : (f : Nat) = i) (hn : i + 1 < x_n x) (hl' : (i, Value.long a) :: lv.filter (fun q => !(q.1 == i) && (!(q.1 == i + 1) && !(q.1 + 1 == i && q.2.category == 2))) = lv') (K : J x k n S lv' (pc + 1) st) : J x k n S lv pc (.long a :: st) := fun H locs ls hP hD hS hl => lv_lstore_n C.1 C.2.1 d hf hl hn hl' (fun ls1 hl1 => K H locs ls1 hP hD hS hl1)
theorem j_lstore (C : CB x own cc) {i : Nat} {a : Int64} {lv' : List (Nat × Value)} (d : decode cc pc = .ok (.lstore i, 2)) (hn : i + 1 < x_n x) (hl' : (i, Value.long a) :: lv.filter (fun q => !(q.1 == i) && (!(q.1 == i + 1) && !(q.1 + 1 == i && q.2.category == 2))) = lv') (K : J x k n S lv' (pc + 2) st) : J x k n S lv pc (.long a :: st) := fun H locs ls hP hD hS hl => lv_lstore C.1 C.2.1 d hl hn hl' (fun ls1 hl1 => K H locs ls1 hP hD hS hl1)
theorem j_astore_n (C : CB x own cc) {i : Nat} {f : Fin 4} {a : Nat} {lv' : List (Nat × Value)} (d : decode cc pc = .ok (.astore_n f, 1)) (hf : (f : Nat) = i) (hn : i < x_n x) (hl' : (i, Value.ref a) :: lv.filter (fun q => !(q.1 == i) && !(q.1 + 1 == i && q.2.category == 2)) = lv') (K : J x k n S lv' (pc + 1) st) : J x k n S lv pc (.ref a :: st) := fun H locs ls hP hD hS hl => lv_astore_n C.1 C.2.1 d hf hl hn hl' (fun ls1 hl1 => K H locs ls1 hP hD hS hl1)
theorem j_astore (C : CB x own cc) {i : Nat} {a : Nat} {lv' : List (Nat × Value)} (d : decode cc pc = .ok (.astore i, 2)) (hn : i < x_n x) (hl' : (i, Value.ref a) :: lv.filter (fun q => !(q.1 == i) && !(q.1 + 1 == i && q.2.category == 2)) = lv') (K : J x k n S lv' (pc + 2) st) : J x k n S lv pc (.ref a :: st) := fun H locs ls hP hD hS hl => lv_astore C.1 C.2.1 d hl hn hl' (fun ls1 hl1 => K H locs ls1 hP hD hS hl1)
theorem j_iinc (C : CB x own cc) {i q : Nat} {c : Int} {a v : Int32} {lv' : List (Nat × Value)} (d : decode cc pc = .ok (.iinc i c, 3)) (h : lv[q]? = some (i, .int a)) (hv : a + Int32.ofInt c = v) (hn : i < x_n x) (hl' : (i, Value.int v) :: lv.filter (fun q => !(q.1 == i) && !(q.1 + 1 == i && q.2.category == 2)) = lv') (K : J x k n S lv' (pc + 3) st) : J x k n S lv pc st := fun H locs ls hP hD hS hl => lv_iinc C.1 C.2.1 d hl h hv hn hl' (fun ls1 hl1 => K H locs ls1 hP hD hS hl1)
theorem j_iadd (C : CB x own cc) {a b v : Int32} (d : decode cc pc = .ok (.iadd, 1)) (hv : a + b = v) (K : J x k n S lv (pc + 1) (.int v :: st)) : J x k n S lv pc (.int b :: .int a :: st) := fun H locs ls hP hD hS hl => by subst hv; exact lv_iadd C.1 C.2.1 d (K H locs ls hP hD hS hl)
theorem j_isub (C : CB x own cc) {a b v : Int32} (d : decode cc pc = .ok (.isub, 1)) (hv : a - b = v) (K : J x k n S lv (pc + 1) (.int v :: st)) : J x k n S lv pc (.int b :: .int a :: st) := fun H locs ls hP hD hS hl => by subst hv; exact lv_isub C.1 C.2.1 d (K H locs ls hP hD hS hl)
theorem j_imul (C : CB x own cc) {a b v : Int32} (d : decode cc pc = .ok (.imul, 1)) (hv : a * b = v) (K : J x k n S lv (pc + 1) (.int v :: st)) : J x k n S lv pc (.int b :: .int a :: st) := fun H locs ls hP hD hS hl => by subst hv; exact lv_imul C.1 C.2.1 d (K H locs ls hP hD hS hl)
theorem j_iand (C : CB x own cc) {a b v : Int32} (d : decode cc pc = .ok (.iand, 1)) (hv : a &&& b = v) (K : J x k n S lv (pc + 1) (.int v :: st)) : J x k n S lv pc (.int b :: .int a :: st) := fun H locs ls hP hD hS hl => by subst hv; exact lv_iand C.1 C.2.1 d (K H locs ls hP hD hS hl)
theorem j_ior (C : CB x own cc) {a b v : Int32} (d : decode cc pc = .ok (.ior, 1)) (hv : a ||| b = v) (K : J x k n S lv (pc + 1) (.int v :: st)) : J x k n S lv pc (.int b :: .int a :: st) := fun H locs ls hP hD hS hl => by subst hv; exact lv_ior C.1 C.2.1 d (K H locs ls hP hD hS hl)
theorem j_ixor (C : CB x own cc) {a b v : Int32} (d : decode cc pc = .ok (.ixor, 1)) (hv : a ^^^ b = v) (K : J x k n S lv (pc + 1) (.int v :: st)) : J x k n S lv pc (.int b :: .int a :: st) := fun H locs ls hP hD hS hl => by subst hv; exact lv_ixor C.1 C.2.1 d (K H locs ls hP hD hS hl)
theorem j_ishl (C : CB x own cc) {a b v : Int32} (d : decode cc pc = .ok (.ishl, 1)) (hv : a <<< (b &&& 31) = v) (K : J x k n S lv (pc + 1) (.int v :: st)) : J x k n S lv pc (.int b :: .int a :: st) := fun H locs ls hP hD hS hl => by subst hv; exact lv_ishl C.1 C.2.1 d (K H locs ls hP hD hS hl)
theorem j_ishr (C : CB x own cc) {a b v : Int32} (d : decode cc pc = .ok (.ishr, 1)) (hv : a >>> (b &&& 31) = v) (K : J x k n S lv (pc + 1) (.int v :: st)) : J x k n S lv pc (.int b :: .int a :: st) := fun H locs ls hP hD hS hl => by subst hv; exact lv_ishr C.1 C.2.1 d (K H locs ls hP hD hS hl)
theorem j_iushr (C : CB x own cc) {a b v : Int32} (d : decode cc pc = .ok (.iushr, 1)) (hv : (a.toUInt32 >>> (b.toUInt32 &&& Int32.toUInt32 31)).toInt32 = v) (K : J x k n S lv (pc + 1) (.int v :: st)) : J x k n S lv pc (.int b :: .int a :: st) := fun H locs ls hP hD hS hl => lv_iushr C.1 C.2.1 d hv (K H locs ls hP hD hS hl)
theorem j_idiv (C : CB x own cc) {a b v : Int32} (d : decode cc pc = .ok (.idiv, 1)) (h : ¬ b = 0) (hv : a / b = v) (K : J x k n S lv (pc + 1) (.int v :: st)) : J x k n S lv pc (.int b :: .int a :: st) := fun H locs ls hP hD hS hl => by subst hv; exact lv_idiv C.1 C.2.1 d h (K H locs ls hP hD hS hl)
theorem j_irem (C : CB x own cc) {a b v : Int32} (d : decode cc pc = .ok (.irem, 1)) (h : ¬ b = 0) (hv : a - a / b * b = v) (K : J x k n S lv (pc + 1) (.int v :: st)) : J x k n S lv pc (.int b :: .int a :: st) := fun H locs ls hP hD hS hl => by subst hv; exact lv_irem C.1 C.2.1 d h (K H locs ls hP hD hS hl)
theorem j_ineg (C : CB x own cc) {a v : Int32} (d : decode cc pc = .ok (.ineg, 1)) (hv : -a = v) (K : J x k n S lv (pc + 1) (.int v :: st)) : J x k n S lv pc (.int a :: st) := fun H locs ls hP hD hS hl => by subst hv; exact lv_ineg C.1 C.2.1 d (K H locs ls hP hD hS hl)
theorem j_ladd (C : CB x own cc) {a b v : Int64} (d : decode cc pc = .ok (.ladd, 1)) (hv : a + b = v) (K : J x k n S lv (pc + 1) (.long v :: st)) : J x k n S lv pc (.long b :: .long a :: st) := fun H locs ls hP hD hS hl => by subst hv; exact lv_ladd C.1 C.2.1 d (K H locs ls hP hD hS hl)
theorem j_lsub (C : CB x own cc) {a b v : Int64} (d : decode cc pc = .ok (.lsub, 1)) (hv : a - b = v) (K : J x k n S lv (pc + 1) (.long v :: st)) : J x k n S lv pc (.long b :: .long a :: st) := fun H locs ls hP hD hS hl => by subst hv; exact lv_lsub C.1 C.2.1 d (K H locs ls hP hD hS hl)
theorem j_lmul (C : CB x own cc) {a b v : Int64} (d : decode cc pc = .ok (.lmul, 1)) (hv : a * b = v) (K : J x k n S lv (pc + 1) (.long v :: st)) : J x k n S lv pc (.long b :: .long a :: st) := fun H locs ls hP hD hS hl => by subst hv; exact lv_lmul C.1 C.2.1 d (K H locs ls hP hD hS hl)
theorem j_land (C : CB x own cc) {a b v : Int64} (d : decode cc pc = .ok (.land, 1)) (hv : a &&& b = v) (K : J x k n S lv (pc + 1) (.long v :: st)) : J x k n S lv pc (.long b :: .long a :: st) := fun H locs ls hP hD hS hl => by subst hv; exact lv_land C.1 C.2.1 d (K H locs ls hP hD hS hl)
theorem j_lor (C : CB x own cc) {a b v : Int64} (d : decode cc pc = .ok (.lor, 1)) (hv : a ||| b = v) (K : J x k n S lv (pc + 1) (.long v :: st)) : J x k n S lv pc (.long b :: .long a :: st) := fun H locs ls hP hD hS hl => by subst hv; exact lv_lor C.1 C.2.1 d (K H locs ls hP hD hS hl)
theorem j_ldiv (C : CB x own cc) {a b v : Int64} (d : decode cc pc = .ok (.ldiv, 1)) (h : ¬ b = 0) (hv : a / b = v) (K : J x k n S lv (pc + 1) (.long v :: st)) : J x k n S lv pc (.long b :: .long a :: st) := fun H locs ls hP hD hS hl => by subst hv; exact lv_ldiv C.1 C.2.1 d h (K H locs ls hP hD hS hl)
theorem j_lrem (C : CB x own cc) {a b v : Int64} (d : decode cc pc = .ok (.lrem, 1)) (h : ¬ b = 0) (hv : a - a / b * b = v) (K : J x k n S lv (pc + 1) (.long v :: st)) : J x k n S lv pc (.long b :: .long a :: st) := fun H locs ls hP hD hS hl => by subst hv; exact lv_lrem C.1 C.2.1 d h (K H locs ls hP hD hS hl)
theorem j_lneg (C : CB x own cc) {a v : Int64} (d : decode cc pc = .ok (.lneg, 1)) (hv : -a = v) (K : J x k n S lv (pc + 1) (.long v :: st)) : J x k n S lv pc (.long a :: st) := fun H locs ls hP hD hS hl => by subst hv; exact lv_lneg C.1 C.2.1 d (K H locs ls hP hD hS hl)
theorem j_lshl (C : CB x own cc) {a v : Int64} {b : Int32} (d : decode cc pc = .ok (.lshl, 1)) (hv : a <<< (b.toInt64 &&& 63) = v) (K : J x k n S lv (pc + 1) (.long v :: st)) : J x k n S lv pc (.int b :: .long a :: st) := fun H locs ls hP hD hS hl => lv_lshl C.1 C.2.1 d hv (K H locs ls hP hD hS hl)
theorem j_lshr (C : CB x own cc) {a v : Int64} {b : Int32} (d : decode cc pc = .ok (.lshr, 1)) (hv : a >>> (b.toInt64 &&& 63) = v) (K : J x k n S lv (pc + 1) (.long v :: st)) : J x k n S lv pc (.int b :: .long a :: st) := fun H locs ls hP hD hS hl => lv_lshr C.1 C.2.1 d hv (K H locs ls hP hD hS hl)
theorem j_lushr (C : CB x own cc) {a v : Int64} {b : Int32} (d : decode cc pc = .ok (.lushr, 1)) (hv : (a.toUInt64 >>> (b.toInt64.toUInt64 &&& Int64.toUInt64 63)).toInt64 = v) (K : J x k n S lv (pc + 1) (.long v :: st)) : J x k n S lv pc (.int b :: .long a :: st) := fun H locs ls hP hD hS hl => lv_lushr C.1 C.2.1 d hv (K H locs ls hP hD hS hl)
theorem j_lcmp (C : CB x own cc) {a b : Int64} (d : decode cc pc = .ok (.lcmp, 1)) (K : J x k n S lv (pc + 1) (.int (lg_cmp a b) :: st)) : J x k n S lv pc (.long b :: .long a :: st) := fun H locs ls hP hD hS hl => W.lcmp C.1 C.2.1 d (K H locs ls hP hD hS hl)
theorem j_i2l (C : CB x own cc) {a : Int32} {v : Int64} (d : decode cc pc = .ok (.i2l, 1)) (hv : a.toInt64 = v) (K : J x k n S lv (pc + 1) (.long v :: st)) : J x k n S lv pc (.int a :: st) := fun H locs ls hP hD hS hl => lv_i2l C.1 C.2.1 d hv (K H locs ls hP hD hS hl)
theorem j_l2i (C : CB x own cc) {a : Int64} {v : Int32} (d : decode cc pc = .ok (.l2i, 1)) (hv : a.toInt32 = v) (K : J x k n S lv (pc + 1) (.int v :: st)) : J x k n S lv pc (.long a :: st) := fun H locs ls hP hD hS hl => lv_l2i C.1 C.2.1 d hv (K H locs ls hP hD hS hl)
theorem j_i2b (C : CB x own cc) {a : Int32} {v : Int32} (d : decode cc pc = .ok (.i2b, 1)) (hv : a.toInt8.toInt32 = v) (K : J x k n S lv (pc + 1) (.int v :: st)) : J x k n S lv pc (.int a :: st) := fun H locs ls hP hD hS hl => lv_i2b C.1 C.2.1 d hv (K H locs ls hP hD hS hl)
theorem j_i2s (C : CB x own cc) {a : Int32} {v : Int32} (d : decode cc pc = .ok (.i2s, 1)) (hv : a.toInt16.toInt32 = v) (K : J x k n S lv (pc + 1) (.int v :: st)) : J x k n S lv pc (.int a :: st) := fun H locs ls hP hD hS hl => lv_i2s C.1 C.2.1 d hv (K H locs ls hP hD hS hl)
theorem j_dup (C : CB x own cc) {a : Value} (d : decode cc pc = .ok (.dup, 1)) (h : a.category = 1) (K : J x k n S lv (pc + 1) (a :: a :: st)) : J x k n S lv pc (a :: st) := fun H locs ls hP hD hS hl => lv_dup C.1 C.2.1 d h (K H locs ls hP hD hS hl)
theorem j_pop (C : CB x own cc) {a : Value} (d : decode cc pc = .ok (.pop, 1)) (h : a.category = 1) (K : J x k n S lv (pc + 1) st) : J x k n S lv pc (a :: st) := fun H locs ls hP hD hS hl => lv_pop C.1 C.2.1 d h (K H locs ls hP hD hS hl)
theorem j_dup2 (C : CB x own cc) {a b : Value} (d : decode cc pc = .ok (.dup2, 1)) (h : a.category = 1) (h2 : b.category = 1) (K : J x k n S lv (pc + 1) (a :: b :: a :: b :: st)) : J x k n S lv pc (a :: b :: st) := fun H locs ls hP hD hS hl => lv_dup2_11 C.1 C.2.1 d h h2 (K H locs ls hP hD hS hl)
theorem j_dup2l (C : CB x own cc) {a : Value} (d : decode cc pc = .ok (.dup2, 1)) (h : a.category = 2) (K : J x k n S lv (pc + 1) (a :: a :: st)) : J x k n S lv pc (a :: st) := fun H locs ls hP hD hS hl => lv_dup2_2 C.1 C.2.1 d h (K H locs ls hP hD hS hl)
theorem j_goto (C : CB x own cc) {off : Int} (d : decode cc pc = .ok (.goto off, 3)) (ht : (pc : Int) + off = (tgt : Int)) (K : J x k n S lv tgt st) : J x k n S lv pc (st) := fun H locs ls hP hD hS hl => lv_goto C.1 C.2.1 d ht (K H locs ls hP hD hS hl)
theorem j_if_eq (C : CB x own cc) {a : Int32} {off : Int} (d : decode cc pc = .ok (.ifCond .eq off, 3)) (ht : (pc : Int) + off = (tgt : Int)) (Kt : a = 0 → J x k n S lv tgt st) (Kf : ¬ a = 0 → J x k n S lv (pc + 3) st) : J x k n S lv pc (.int a :: st) := fun H locs ls hP hD hS hl => lv_if_eq C.1 C.2.1 d ht (fun h => Kt h H locs ls hP hD hS hl) (fun h => Kf h H locs ls hP hD hS hl)
theorem j_ic_eq (C : CB x own cc) {a b : Int32} {off : Int} (d : decode cc pc = .ok (.if_icmp .eq off, 3)) (ht : (pc : Int) + off = (tgt : Int)) (Kt : a = b → J x k n S lv tgt st) (Kf : ¬ a = b → J x k n S lv (pc + 3) st) : J x k n S lv pc (.int b :: .int a :: st) := fun H locs ls hP hD hS hl => lv_icmp_eq C.1 C.2.1 d ht (fun h => Kt h H locs ls hP hD hS hl) (fun h => Kf h H locs ls hP hD hS hl)
theorem j_if_ne (C : CB x own cc) {a : Int32} {off : Int} (d : decode cc pc = .ok (.ifCond .ne off, 3)) (ht : (pc : Int) + off = (tgt : Int)) (Kt : ¬ a = 0 → J x k n S lv tgt st) (Kf : a = 0 → J x k n S lv (pc + 3) st) : J x k n S lv pc (.int a :: st) := fun H locs ls hP hD hS hl => lv_if_ne C.1 C.2.1 d ht (fun h => Kt h H locs ls hP hD hS hl) (fun h => Kf h H locs ls hP hD hS hl)
theorem j_ic_ne (C : CB x own cc) {a b : Int32} {off : Int} (d : decode cc pc = .ok (.if_icmp .ne off, 3)) (ht : (pc : Int) + off = (tgt : Int)) (Kt : ¬ a = b → J x k n S lv tgt st) (Kf : a = b → J x k n S lv (pc + 3) st) : J x k n S lv pc (.int b :: .int a :: st) := fun H locs ls hP hD hS hl => lv_icmp_ne C.1 C.2.1 d ht (fun h => Kt h H locs ls hP hD hS hl) (fun h => Kf h H locs ls hP hD hS hl)
theorem j_if_lt (C : CB x own cc) {a : Int32} {off : Int} (d : decode cc pc = .ok (.ifCond .lt off, 3)) (ht : (pc : Int) + off = (tgt : Int)) (Kt : a < 0 → J x k n S lv tgt st) (Kf : ¬ a < 0 → J x k n S lv (pc + 3) st) : J x k n S lv pc (.int a :: st) := fun H locs ls hP hD hS hl => lv_if_lt C.1 C.2.1 d ht (fun h => Kt h H locs ls hP hD hS hl) (fun h => Kf h H locs ls hP hD hS hl)
theorem j_ic_lt (C : CB x own cc) {a b : Int32} {off : Int} (d : decode cc pc = .ok (.if_icmp .lt off, 3)) (ht : (pc : Int) + off = (tgt : Int)) (Kt : a < b → J x k n S lv tgt st) (Kf : ¬ a < b → J x k n S lv (pc + 3) st) : J x k n S lv pc (.int b :: .int a :: st) := fun H locs ls hP hD hS hl => lv_icmp_lt C.1 C.2.1 d ht (fun h => Kt h H locs ls hP hD hS hl) (fun h => Kf h H locs ls hP hD hS hl)
theorem j_if_ge (C : CB x own cc) {a : Int32} {off : Int} (d : decode cc pc = .ok (.ifCond .ge off, 3)) (ht : (pc : Int) + off = (tgt : Int)) (Kt : 0 ≤ a → J x k n S lv tgt st) (Kf : ¬ 0 ≤ a → J x k n S lv (pc + 3) st) : J x k n S lv pc (.int a :: st) := fun H locs ls hP hD hS hl => lv_if_ge C.1 C.2.1 d ht (fun h => Kt h H locs ls hP hD hS hl) (fun h => Kf h H locs ls hP hD hS hl)
theorem j_ic_ge (C : CB x own cc) {a b : Int32} {off : Int} (d : decode cc pc = .ok (.if_icmp .ge off, 3)) (ht : (pc : Int) + off = (tgt : Int)) (Kt : b ≤ a → J x k n S lv tgt st) (Kf : ¬ b ≤ a → J x k n S lv (pc + 3) st) : J x k n S lv pc (.int b :: .int a :: st) := fun H locs ls hP hD hS hl => lv_icmp_ge C.1 C.2.1 d ht (fun h => Kt h H locs ls hP hD hS hl) (fun h => Kf h H locs ls hP hD hS hl)
theorem j_if_gt (C : CB x own cc) {a : Int32} {off : Int} (d : decode cc pc = .ok (.ifCond .gt off, 3)) (ht : (pc : Int) + off = (tgt : Int)) (Kt : 0 < a → J x k n S lv tgt st) (Kf : ¬ 0 < a → J x k n S lv (pc + 3) st) : J x k n S lv pc (.int a :: st) := fun H locs ls hP hD hS hl => lv_if_gt C.1 C.2.1 d ht (fun h => Kt h H locs ls hP hD hS hl) (fun h => Kf h H locs ls hP hD hS hl)
theorem j_ic_gt (C : CB x own cc) {a b : Int32} {off : Int} (d : decode cc pc = .ok (.if_icmp .gt off, 3)) (ht : (pc : Int) + off = (tgt : Int)) (Kt : b < a → J x k n S lv tgt st) (Kf : ¬ b < a → J x k n S lv (pc + 3) st) : J x k n S lv pc (.int b :: .int a :: st) := fun H locs ls hP hD hS hl => lv_icmp_gt C.1 C.2.1 d ht (fun h => Kt h H locs ls hP hD hS hl) (fun h => Kf h H locs ls hP hD hS hl)
theorem j_if_le (C : CB x own cc) {a : Int32} {off : Int} (d : decode cc pc = .ok (.ifCond .le off, 3)) (ht : (pc : Int) + off = (tgt : Int)) (Kt : a ≤ 0 → J x k n S lv tgt st) (Kf : ¬ a ≤ 0 → J x k n S lv (pc + 3) st) : J x k n S lv pc (.int a :: st) := fun H locs ls hP hD hS hl => lv_if_le C.1 C.2.1 d ht (fun h => Kt h H locs ls hP hD hS hl) (fun h => Kf h H locs ls hP hD hS hl)
theorem j_ic_le (C : CB x own cc) {a b : Int32} {off : Int} (d : decode cc pc = .ok (.if_icmp .le off, 3)) (ht : (pc : Int) + off = (tgt : Int)) (Kt : a ≤ b → J x k n S lv tgt st) (Kf : ¬ a ≤ b → J x k n S lv (pc + 3) st) : J x k n S lv pc (.int b :: .int a :: st) := fun H locs ls hP hD hS hl => lv_icmp_le C.1 C.2.1 d ht (fun h => Kt h H locs ls hP hD hS hl) (fun h => Kf h H locs ls hP hD hS hl)
theorem j_ifnonnull (C : CB x own cc) {a : Nat} {off : Int} (d : decode cc pc = .ok (.ifnonnull off, 3)) (ht : (pc : Int) + off = (tgt : Int)) (K : J x k n S lv tgt st) : J x k n S lv pc (.ref a :: st) := fun H locs ls hP hD hS hl => lv_ifnonnull C.1 C.2.1 d ht (K H locs ls hP hD hS hl)
theorem j_ifnull (C : CB x own cc) {a : Nat} {off : Int} (d : decode cc pc = .ok (.ifnull off, 3)) (K : J x k n S lv (pc + 3) st) : J x k n S lv pc (.ref a :: st) := fun H locs ls hP hD hS hl => lv_ifnull C.1 C.2.1 d (K H locs ls hP hD hS hl)
theorem j_ldc (C : CB x own cc) {v : Int32} {i : Nat} (d : decode cc pc = .ok (.ldc i, 2)) (h : Cond.constant own i v ∈ TBL) (K : J x k n S lv (pc + 2) (.int v :: st)) : J x k n S lv pc (st) := fun H locs ls hP hD hS hl => lv_ldc C.1 C.2.1 C.2.2.2.1 (C.2.2.2.2.1 _ h) d (K H locs ls hP hD hS hl)
theorem j_ldcw (C : CB x own cc) {v : Int32} {i : Nat} (d : decode cc pc = .ok (.ldc_w i, 3)) (h : Cond.constant own i v ∈ TBL) (K : J x k n S lv (pc + 3) (.int v :: st)) : J x k n S lv pc (st) := fun H locs ls hP hD hS hl => lv_ldcw C.1 C.2.1 C.2.2.2.1 (C.2.2.2.2.1 _ h) d (K H locs ls hP hD hS hl)
theorem j_ldc2 (C : CB x own cc) {v : Int64} {i : Nat} (d : decode cc pc = .ok (.ldc2_w i, 3)) (h : Cond.constantLong own i v ∈ TBL) (K : J x k n S lv (pc + 3) (.long v :: st)) : J x k n S lv pc (st) := fun H locs ls hP hD hS hl => lv_ldc2 C.1 C.2.1 C.2.2.2.1 (C.2.2.2.2.1 _ h) d (K H locs ls hP hD hS hl)
theorem j_tabIn (C : CB x own cc) {a : Int32} {df lo hi off : Int} {offs : Array Int} {len : Nat} (d : decode cc pc = .ok (.tableswitch df lo hi offs, len)) (h1 : ¬ a.toInt < lo) (h2 : ¬ hi < a.toInt) (ho : offs[(a.toInt - lo).toNat]? = some off) (ht : (pc : Int) + off = (tgt : Int)) (K : J x k n S lv tgt st) : J x k n S lv pc (.int a :: st) := fun H locs ls hP hD hS hl => lv_tableIn C.1 C.2.1 d h1 h2 ho ht (K H locs ls hP hD hS hl)
theorem j_tabOut (C : CB x own cc) {a : Int32} {df lo hi : Int} {offs : Array Int} {len : Nat} (d : decode cc pc = .ok (.tableswitch df lo hi offs, len)) (h : a.toInt < lo ∨ hi < a.toInt) (ht : (pc : Int) + df = (tgt : Int)) (K : J x k n S lv tgt st) : J x k n S lv pc (.int a :: st) := fun H locs ls hP hD hS hl => lv_tableOut C.1 C.2.1 d h ht (K H locs ls hP hD hS hl)
theorem cl_all (ci : Nat) (r : vw_C) (h : vwCl[ci]? = some r) : r.2.2 = fn ci ∧ ci < 13 ∧ (∀ w ∈ u_ws r.1 r.2.1 r.2.2, w ∈ TBL) ∧ (∀ a, a < r.2.2 → ∀ b, b < r.2.2 → a ≠ b → (r.2.1 a).2.1 ≠ (r.2.1 b).2.1) ∧ ∀ s, s < r.2.2 → (r.2.1 s).1 = r.1 ∧ parseFieldDescriptor (r.2.1 s).2.2.1 = some (fty ci s) := by
  have h13 : ci < 13 := by
    have := (List.getElem?_eq_some_iff.mp h).1
    simpa [vwCl] using this
  have e := cl_ok ci r h
  exact ⟨e.1, h13, e.2.1, e.2.2.1, e.2.2.2⟩
theorem fv_in {ci s : Nat} (h : s < fn ci) {S : Hp} {a : Nat} {cy : Nat → ClassId} (hL' : a ∈ hL S) (hK' : hK S a = ci) (hc : ci < 13) : ∃ q : Nat, (pl cy S)[q]? = some (a, .inr (ci, fvl S a ci)) ∧ (pl cy S)[q]? = some (a, pf cy S a) ∧ (fvl S a ci)[s]? = some (fv S a ci s) := by
  obtain ⟨q, hq⟩ := pl_get (cy := cy) hL'
  exact ⟨q, by rw [hq, pf_obj hK' hc], hq, fvl_get S a ci h⟩
theorem j_getv (C : CB x own cc) {ci s idx a : Nat} {v : Value} (F : FL own idx ci s) (d : decode cc pc = .ok (.getfield idx, 3)) (hL' : a ∈ hL S) (hK' : hK S a = ci) (hv : fv S a ci s = v) (K : J x k n S lv (pc + 3) (v :: st)) : J x k n S lv pc (.ref a :: st) := fun H locs ls hP hD hS hl => by
  obtain ⟨r, hr, hs, F⟩ := F
  obtain ⟨e, h13, hin, hnm, hcl⟩ := cl_all ci r hr
  obtain ⟨q, hq, -, hf⟩ := fv_in (cy := (x_v x).2.1) (e ▸ hs) hL' hK' h13
  rw [hv] at hf
  have hsame : ∀ z, (x_s x).fieldFound? (r.2.1 s).1 (r.2.1 s).2.1 (r.2.1 s).2.2.1 = some z → (x_s x).fieldFound? r.1 (r.2.1 s).2.1 (r.2.1 s).2.2.1 = some z := fun z hz => by rw [← (hcl s hs).1]; exact hz
  rcases F with F | ⟨host, F⟩
  · exact va_get C.1 C.2.1 (Ts := TBL) C.2.2.2.2.1 hin C.2.2.2.1 C.2.2.2.2.2.2.1 hP q hq hr s hs (C.2.2.2.2.1 _ F) hsame hf d (K H locs ls hP hD hS hl)
  · exact va_getN C.1 C.2.1 (Ts := TBL) C.2.2.2.2.1 hin C.2.2.2.1 C.2.2.2.2.2.2.1 hP q hq hr s hs (va_Nw.use rfl (C.2.2.2.2.2.2.2.1 _ F)) hsame hf d (K H locs ls hP hD hS hl)
theorem j_geti (C : CB x own cc) {f ci s idx a : Nat} {v : Int32} (F : FL own idx ci s) (d : decode cc pc = .ok (.getfield idx, 3)) (hL' : a ∈ hL S) (hK' : hK S a = ci) (ht1 : fc ci s ≠ 1) (ht2 : fc ci s ≠ 2) (hf : 100 * ci + s = f) (hv : hI S f a = v) (K : J x k n S lv (pc + 3) (.int v :: st)) : J x k n S lv pc (.ref a :: st) := j_getv C F d hL' hK' (by subst hf; simp [fv, ht1, ht2, hv]) K
theorem j_getl (C : CB x own cc) {f ci s idx a : Nat} {v : Int64} (F : FL own idx ci s) (d : decode cc pc = .ok (.getfield idx, 3)) (hL' : a ∈ hL S) (hK' : hK S a = ci) (ht1 : fc ci s = 1) (hf : 100 * ci + s = f) (hv : hJ S f a = v) (K : J x k n S lv (pc + 3) (.long v :: st)) : J x k n S lv pc (.ref a :: st) := j_getv C F d hL' hK' (by subst hf; simp [fv, ht1, hv]) K
theorem j_getr (C : CB x own cc) {f ci s idx a v : Nat} (F : FL own idx ci s) (d : decode cc pc = .ok (.getfield idx, 3)) (hL' : a ∈ hL S) (hK' : hK S a = ci) (ht1 : fc ci s = 2) (hf : 100 * ci + s = f) (hv : hR S f a = some v) (K : J x k n S lv (pc + 3) (.ref v :: st)) : J x k n S lv pc (.ref a :: st) := j_getv C F d hL' hK' (by subst hf; simp [fv, ht1, hv, va_rf]) K
theorem j_putv (C : CB x own cc) {ci s idx a : Nat} {v : Value} {S' : Hp} (F : FL own idx ci s) (hfin : ∀ r : vw_C, vwCl[ci]? = some r → (r.2.1 s).2.2.2 = false) (d : decode cc pc = .ok (.putfield idx, 3)) (hL' : a ∈ hL S) (hK' : hK S a = ci) (hn : narrow (fty ci s) v = v) (hfit : fits (fty ci s) v = true) (hLs : hL S' = hL S) (hpf : ∀ (cy : Nat → ClassId) (b : Nat), va_up (pf cy S) a (.inr (ci, (fvl S a ci).set s v)) b = pf cy S' b) (K : J x k n S' lv (pc + 3) st) : J x k n S lv pc (v :: .ref a :: st) := fun H locs ls hP hD hS hl => by
  obtain ⟨r, hr, hs, F⟩ := F
  obtain ⟨e, h13, hin, hnm, hcl⟩ := cl_all ci r hr
  obtain ⟨q, hq, hq2, hf⟩ := fv_in (cy := (x_v x).2.1) (e ▸ hs) hL' hK' h13
  have hsame : ∀ z, (x_s x).fieldFound? (r.2.1 s).1 (r.2.1 s).2.1 (r.2.1 s).2.2.1 = some z → (x_s x).fieldFound? r.1 (r.2.1 s).2.1 (r.2.1 s).2.2.1 = some z := fun z hz => by rw [← (hcl s hs).1]; exact hz
  have hset := pl_set (e := .inr (ci, (fvl S a ci).set s v)) hD hL' hq2 hLs (hpf _)
  have hlen : s < (fvl S a ci).length := by rw [fvl_len, ← e]; exact hs
  rcases F with F | ⟨host, F⟩
  · refine va_put C.1 C.2.1 (Ts := TBL) C.2.2.2.2.1 hin (fty ci) (fun j hj => (hcl j hj).2) hnm C.2.2.2.1 C.2.2.2.2.2.2.1 hP hD hS q hq hr s hs (C.2.2.2.2.1 _ F) hsame (hfin r hr) (hcl s hs).2 hn hfit hlen d (fun H1 locs1 hP1 hD1 hS1 => ?_)
    rw [hset] at hP1 hD1
    exact K H1 locs1 ls hP1 hD1 hS1 hl
  · refine va_putN C.1 C.2.1 (Ts := TBL) C.2.2.2.2.1 hin (fty ci) (fun j hj => (hcl j hj).2) hnm C.2.2.2.1 C.2.2.2.2.2.2.1 hP hD hS q hq hr s hs (va_Nw.use rfl (C.2.2.2.2.2.2.2.1 _ F)) hsame (hfin r hr) (hcl s hs).2 hn hfit hlen d (fun H1 locs1 hP1 hD1 hS1 => ?_)
    rw [hset] at hP1 hD1
    exact K H1 locs1 ls hP1 hD1 hS1 hl
theorem j_putvF (C : CB x own cc) (hin2 : (x_meth x).name = "<init>") {ci s idx a : Nat} {v : Value} {S' : Hp} (F : FLo own idx ci s) (hfin : ∀ r : vw_C, vwCl[ci]? = some r → (r.2.1 s).2.2.2 = true) (d : decode cc pc = .ok (.putfield idx, 3)) (hL' : a ∈ hL S) (hK' : hK S a = ci) (hn : narrow (fty ci s) v = v) (hfit : fits (fty ci s) v = true) (hLs : hL S' = hL S) (hpf : ∀ (cy : Nat → ClassId) (b : Nat), va_up (pf cy S) a (.inr (ci, (fvl S a ci).set s v)) b = pf cy S' b) (K : J x k n S' lv (pc + 3) st) : J x k n S lv pc (v :: .ref a :: st) := fun H locs ls hP hD hS hl => by
  obtain ⟨r, hr, hs, ho, F⟩ := F
  obtain ⟨e, h13, hin, hnm, hcl⟩ := cl_all ci r hr
  obtain ⟨q, hq, hq2, hf⟩ := fv_in (cy := (x_v x).2.1) (e ▸ hs) hL' hK' h13
  have hsame : ∀ z, (x_s x).fieldFound? (r.2.1 s).1 (r.2.1 s).2.1 (r.2.1 s).2.2.1 = some z → (x_s x).fieldFound? r.1 (r.2.1 s).2.1 (r.2.1 s).2.2.1 = some z := fun z hz => by rw [← (hcl s hs).1]; exact hz
  have hset := pl_set (e := .inr (ci, (fvl S a ci).set s v)) hD hL' hq2 hLs (hpf _)
  have hlen : s < (fvl S a ci).length := by rw [fvl_len, ← e]; exact hs
  refine va_putF C.1 C.2.1 (Ts := TBL) C.2.2.2.2.1 hin (fty ci) (fun j hj => (hcl j hj).2) hnm C.2.2.2.1 C.2.2.2.2.2.2.1 hP hD hS q hq hr s hs (C.2.2.2.2.1 _ F) hsame (hfin r hr) hin2 ((hcl s hs).1.trans ho) (hcl s hs).2 hn hfit hlen d (fun H1 locs1 hP1 hD1 hS1 => ?_)
  rw [hset] at hP1 hD1
  exact K H1 locs1 ls hP1 hD1 hS1 hl
end JR
end
section
section JR2
variable {x : JX} {own : String} {cc : ByteArray} {k n pc tgt : Nat} {S : Hp} {lv : List (Nat × Value)} {st : List Value}
/-- a slot of a sort that may be written (not final) -/
def slotW (ci s : Nat) : Bool := match vwCl[ci]? with | some r => !(r.2.1 s).2.2.2 | none => false
theorem slotW_ok {ci s : Nat} (h : slotW ci s = true) (r : vw_C) (hr : vwCl[ci]? = some r) : (r.2.1 s).2.2.2 = false := by
  unfold slotW at h
  rw [hr] at h
  simpa using h
def slotF (ci s : Nat) : Bool := match vwCl[ci]? with | some r => (r.2.1 s).2.2.2 | none => false
theorem slotF_ok {ci s : Nat} (h : slotF ci s = true) (r : vw_C) (hr : vwCl[ci]? = some r) : (r.2.1 s).2.2.2 = true := by
  unfold slotF at h
  rw [hr] at h
  exact h
theorem FL.bd {own : String} {idx ci s : Nat} (F : FL own idx ci s) : ci < 13 ∧ s < fn ci := by
  obtain ⟨r, hr, hs, -⟩ := F
  obtain ⟨e, h13, -⟩ := cl_all ci r hr
  exact ⟨h13, e ▸ hs⟩
theorem FLo.bd {own : String} {idx ci s : Nat} (F : FLo own idx ci s) : ci < 13 ∧ s < fn ci := by
  obtain ⟨r, hr, hs, -⟩ := F
  obtain ⟨e, h13, -⟩ := cl_all ci r hr
  exact ⟨h13, e ▸ hs⟩
theorem j_puti (C : CB x own cc) {f ci s idx a : Nat} {v : Int32} (F : FL own idx ci s) (hw : slotW ci s = true) (ht : fty ci s = .int) (hf : fc ci s = 0) (d : decode cc pc = .ok (.putfield idx, 3)) (hL' : a ∈ hL S) (hK' : hK S a = ci) (hf9 : 100 * ci + s = f) (K : J x k n (sI S f a v) lv (pc + 3) st) : J x k n S lv pc (.int v :: .ref a :: st) := by
  subst hf9
  exact j_putv (S' := sI S (100 * ci + s) a v) C F (slotW_ok hw) d hL' hK' (by rw [ht]; rfl) (by rw [ht]; rfl) rfl (fun cy b => pf_setI hK' F.bd.1 F.bd.2 (by rw [hf]; decide) (by rw [hf]; decide) v b) K
theorem j_putz (C : CB x own cc) {f ci s idx a : Nat} {v : Int32} (F : FL own idx ci s) (hw : slotW ci s = true) (ht : fty ci s = .boolean) (hf : fc ci s = 3) (hv : v = 0 ∨ v = 1) (d : decode cc pc = .ok (.putfield idx, 3)) (hL' : a ∈ hL S) (hK' : hK S a = ci) (hf9 : 100 * ci + s = f) (K : J x k n (sI S f a v) lv (pc + 3) st) : J x k n S lv pc (.int v :: .ref a :: st) := by
  subst hf9
  exact j_putv (S' := sI S (100 * ci + s) a v) C F (slotW_ok hw) d hL' hK' (by rw [ht]; rcases hv with rfl | rfl <;> rfl) (by rw [ht]; rcases hv with rfl | rfl <;> rfl) rfl (fun cy b => pf_setI hK' F.bd.1 F.bd.2 (by rw [hf]; decide) (by rw [hf]; decide) v b) K
theorem j_putl (C : CB x own cc) {f ci s idx a : Nat} {v : Int64} (F : FL own idx ci s) (hw : slotW ci s = true) (ht : fty ci s = .long) (hf : fc ci s = 1) (d : decode cc pc = .ok (.putfield idx, 3)) (hL' : a ∈ hL S) (hK' : hK S a = ci) (hf9 : 100 * ci + s = f) (K : J x k n (sJ S f a v) lv (pc + 3) st) : J x k n S lv pc (.long v :: .ref a :: st) := by
  subst hf9
  exact j_putv (S' := sJ S (100 * ci + s) a v) C F (slotW_ok hw) d hL' hK' (by rw [ht]; rfl) (by rw [ht]; rfl) rfl (fun cy b => pf_setJ hK' F.bd.1 F.bd.2 hf v b) K
def isRf : FieldType → Bool
  | .object _ => true
  | .array _ => true
  | _ => false
theorem nar_ref {t : FieldType} (h : isRf t = true) (v : Nat) : narrow t (.ref v) = .ref v ∧ fits t (.ref v) = true := by
  cases t <;> first | exact ⟨rfl, rfl⟩ | (exact absurd h (by decide))
theorem j_putr (C : CB x own cc) {f ci s idx a v : Nat} (F : FL own idx ci s) (hw : slotW ci s = true) (ht : isRf (fty ci s) = true) (hf : fc ci s = 2) (d : decode cc pc = .ok (.putfield idx, 3)) (hL' : a ∈ hL S) (hK' : hK S a = ci) (hf9 : 100 * ci + s = f) (K : J x k n (sR S f a (some v)) lv (pc + 3) st) : J x k n S lv pc (.ref v :: .ref a :: st) := by
  subst hf9
  exact j_putv (S' := sR S (100 * ci + s) a (some v)) C F (slotW_ok hw) d hL' hK' (nar_ref ht v).1 (nar_ref ht v).2 rfl (fun cy b => pf_setR hK' F.bd.1 F.bd.2 hf (some v) b) K
theorem j_putrF (C : CB x own cc) (hin2 : (x_meth x).name = "<init>") {f ci s idx a v : Nat} (F : FLo own idx ci s) (hw : slotF ci s = true) (ht : isRf (fty ci s) = true) (hf : fc ci s = 2) (d : decode cc pc = .ok (.putfield idx, 3)) (hL' : a ∈ hL S) (hK' : hK S a = ci) (hf9 : 100 * ci + s = f) (K : J x k n (sR S f a (some v)) lv (pc + 3) st) : J x k n S lv pc (.ref v :: .ref a :: st) := by
  subst hf9
  exact j_putvF (S' := sR S (100 * ci + s) a (some v)) C hin2 F (slotF_ok hw) d hL' hK' (nar_ref ht v).1 (nar_ref ht v).2 rfl (fun cy b => pf_setR hK' F.bd.1 F.bd.2 hf (some v) b) K
/-- an array's row in the pool -/
theorem ar_I {cy : Nat → ClassId} {a kd : Nat} (hL' : a ∈ hL S) (hK' : hK S a = kd) (h1 : ¬ kd < 13) (h2 : ¬ kd = 15) (h3 : kd < 18) : ∃ q : Nat, (pl cy S)[q]? = some (a, .inl (cy kd, hN S a, .inl (aI S a))) ∧ (pl cy S)[q]? = some (a, pf cy S a) := by
  obtain ⟨q, hq⟩ := pl_get (cy := cy) hL'
  exact ⟨q, by rw [hq, pf_I hK' h1 h2 h3], hq⟩
theorem ar_J {cy : Nat → ClassId} {a : Nat} (hL' : a ∈ hL S) (hK' : hK S a = 15) : ∃ q : Nat, (pl cy S)[q]? = some (a, .inl (cy 15, hN S a, .inr (.inl (aJ S a)))) ∧ (pl cy S)[q]? = some (a, pf cy S a) := by
  obtain ⟨q, hq⟩ := pl_get (cy := cy) hL'
  exact ⟨q, by rw [hq, pf_J hK'], hq⟩
theorem ar_R {cy : Nat → ClassId} {a kd : Nat} (hL' : a ∈ hL S) (hK' : hK S a = kd) (h3 : ¬ kd < 18) : ∃ q : Nat, (pl cy S)[q]? = some (a, .inl (cy kd, hN S a, .inr (.inr (.inr (.inr (aR S a)))))) ∧ (pl cy S)[q]? = some (a, pf cy S a) := by
  obtain ⟨q, hq⟩ := pl_get (cy := cy) hL'
  exact ⟨q, by rw [hq, pf_R hK' h3], hq⟩

theorem j_iald (C : CB x own cc) {a j : Nat} {i v : Int32} (d : decode cc pc = .ok (.iaload, 1)) (hL' : a ∈ hL S) (hK' : hK S a = 14) (hin : vp_in i (hN S a)) (hj : i.toNatClampNeg = j) (hv : aI S a j = v) (K : J x k n S lv (pc + 1) (.int v :: st)) : J x k n S lv pc (.int i :: .ref a :: st) := fun H locs ls hP hD hS hl => by
  subst hj
  subst hv
  obtain ⟨q, hq, -⟩ := ar_I (cy := (x_v x).2.1) hL' hK' (by decide) (by decide) (by decide)
  exact va_iald C.1 C.2.1 C.2.2.2.2.2.2.1 hP q 1 hq rfl hin d (K H locs ls hP hD hS hl)
theorem j_bald (C : CB x own cc) {a j : Nat} {i v : Int32} (d : decode cc pc = .ok (.baload, 1)) (hL' : a ∈ hL S) (hK' : hK S a = 13) (hin : vp_in i (hN S a)) (hj : i.toNatClampNeg = j) (hv : aI S a j = v) (K : J x k n S lv (pc + 1) (.int v :: st)) : J x k n S lv pc (.int i :: .ref a :: st) := fun H locs ls hP hD hS hl => by
  subst hj
  subst hv
  obtain ⟨q, hq, -⟩ := ar_I (cy := (x_v x).2.1) hL' hK' (by decide) (by decide) (by decide)
  exact va_bald C.1 C.2.1 C.2.2.2.2.2.2.1 hP q 0 hq rfl hin d (K H locs ls hP hD hS hl)
theorem j_zald (C : CB x own cc) {a j : Nat} {i v : Int32} (d : decode cc pc = .ok (.baload, 1)) (hL' : a ∈ hL S) (hK' : hK S a = 17) (hin : vp_in i (hN S a)) (hj : i.toNatClampNeg = j) (hv : aI S a j = v) (K : J x k n S lv (pc + 1) (.int v :: st)) : J x k n S lv pc (.int i :: .ref a :: st) := fun H locs ls hP hD hS hl => by
  subst hj
  subst hv
  obtain ⟨q, hq, -⟩ := ar_I (cy := (x_v x).2.1) hL' hK' (by decide) (by decide) (by decide)
  exact va_zald C.1 C.2.1 C.2.2.2.2.2.2.1 hP q 4 hq rfl hin d (K H locs ls hP hD hS hl)
theorem j_sald (C : CB x own cc) {a j : Nat} {i v : Int32} (d : decode cc pc = .ok (.saload, 1)) (hL' : a ∈ hL S) (hK' : hK S a = 16) (hin : vp_in i (hN S a)) (hj : i.toNatClampNeg = j) (hv : aI S a j = v) (K : J x k n S lv (pc + 1) (.int v :: st)) : J x k n S lv pc (.int i :: .ref a :: st) := fun H locs ls hP hD hS hl => by
  subst hj
  subst hv
  obtain ⟨q, hq, -⟩ := ar_I (cy := (x_v x).2.1) hL' hK' (by decide) (by decide) (by decide)
  exact va_sald C.1 C.2.1 C.2.2.2.2.2.2.1 hP q 3 hq rfl hin d (K H locs ls hP hD hS hl)
theorem j_lald (C : CB x own cc) {a j : Nat} {i : Int32} {v : Int64} (d : decode cc pc = .ok (.laload, 1)) (hL' : a ∈ hL S) (hK' : hK S a = 15) (hin : vp_in i (hN S a)) (hj : i.toNatClampNeg = j) (hv : aJ S a j = v) (K : J x k n S lv (pc + 1) (.long v :: st)) : J x k n S lv pc (.int i :: .ref a :: st) := fun H locs ls hP hD hS hl => by
  subst hj
  subst hv
  obtain ⟨q, hq, -⟩ := ar_J (cy := (x_v x).2.1) hL' hK'
  exact va_lald C.1 C.2.1 C.2.2.2.2.2.2.1 hP q 2 hq rfl hin d (K H locs ls hP hD hS hl)
theorem j_iast (C : CB x own cc) {a j : Nat} {i v : Int32} (d : decode cc pc = .ok (.iastore, 1)) (hL' : a ∈ hL S) (hK' : hK S a = 14) (hin : vp_in i (hN S a)) (hj : i.toNatClampNeg = j) (K : J x k n (tI S a j (v)) lv (pc + 1) st) : J x k n S lv pc (.int v :: .int i :: .ref a :: st) := fun H locs ls hP hD hS hl => by
  subst hj
  obtain ⟨q, hq, hq2⟩ := ar_I (cy := (x_v x).2.1) hL' hK' (by decide) (by decide) (by decide)
  refine va_iast C.1 C.2.1 C.2.2.2.2.2.2.1 hP hD hS q 1 hq rfl hin d (fun H1 locs1 hP1 hD1 hS1 => ?_)
  have hset := fun e' => pl_set (S' := tI S a i.toNatClampNeg (v)) (e := e') hD hL' hq2 rfl
  first
    | (rw [hset _ (pf_tI hK' (by decide) (by decide) (by decide) _ _)] at hP1 hD1; exact K H1 locs1 ls hP1 hD1 hS1 hl)
    | (simp only [vp_nar_byte, vp_nar_short] at hP1 hD1; rw [hset _ (pf_tI hK' (by decide) (by decide) (by decide) _ _)] at hP1 hD1; exact K H1 locs1 ls hP1 hD1 hS1 hl)
theorem j_bast (C : CB x own cc) {a j : Nat} {i v : Int32} (d : decode cc pc = .ok (.bastore, 1)) (hL' : a ∈ hL S) (hK' : hK S a = 13) (hin : vp_in i (hN S a)) (hj : i.toNatClampNeg = j) (K : J x k n (tI S a j (v.toInt8.toInt32)) lv (pc + 1) st) : J x k n S lv pc (.int v :: .int i :: .ref a :: st) := fun H locs ls hP hD hS hl => by
  subst hj
  obtain ⟨q, hq, hq2⟩ := ar_I (cy := (x_v x).2.1) hL' hK' (by decide) (by decide) (by decide)
  refine va_bast C.1 C.2.1 C.2.2.2.2.2.2.1 hP hD hS q 0 hq rfl hin d (fun H1 locs1 hP1 hD1 hS1 => ?_)
  have hset := fun e' => pl_set (S' := tI S a i.toNatClampNeg (v.toInt8.toInt32)) (e := e') hD hL' hq2 rfl
  first
    | (rw [hset _ (pf_tI hK' (by decide) (by decide) (by decide) _ _)] at hP1 hD1; exact K H1 locs1 ls hP1 hD1 hS1 hl)
    | (simp only [vp_nar_byte, vp_nar_short] at hP1 hD1; rw [hset _ (pf_tI hK' (by decide) (by decide) (by decide) _ _)] at hP1 hD1; exact K H1 locs1 ls hP1 hD1 hS1 hl)
theorem j_zast (C : CB x own cc) {a j : Nat} {i v : Int32} (d : decode cc pc = .ok (.bastore, 1)) (hL' : a ∈ hL S) (hK' : hK S a = 17) (hin : vp_in i (hN S a)) (hj : i.toNatClampNeg = j) (K : J x k n (tI S a j ((vp_nar .boolean v))) lv (pc + 1) st) : J x k n S lv pc (.int v :: .int i :: .ref a :: st) := fun H locs ls hP hD hS hl => by
  subst hj
  obtain ⟨q, hq, hq2⟩ := ar_I (cy := (x_v x).2.1) hL' hK' (by decide) (by decide) (by decide)
  refine va_zast C.1 C.2.1 C.2.2.2.2.2.2.1 hP hD hS q 4 hq rfl hin d (fun H1 locs1 hP1 hD1 hS1 => ?_)
  have hset := fun e' => pl_set (S' := tI S a i.toNatClampNeg ((vp_nar .boolean v))) (e := e') hD hL' hq2 rfl
  first
    | (rw [hset _ (pf_tI hK' (by decide) (by decide) (by decide) _ _)] at hP1 hD1; exact K H1 locs1 ls hP1 hD1 hS1 hl)
    | (simp only [vp_nar_byte, vp_nar_short] at hP1 hD1; rw [hset _ (pf_tI hK' (by decide) (by decide) (by decide) _ _)] at hP1 hD1; exact K H1 locs1 ls hP1 hD1 hS1 hl)
theorem j_sast (C : CB x own cc) {a j : Nat} {i v : Int32} (d : decode cc pc = .ok (.sastore, 1)) (hL' : a ∈ hL S) (hK' : hK S a = 16) (hin : vp_in i (hN S a)) (hj : i.toNatClampNeg = j) (K : J x k n (tI S a j (v.toInt16.toInt32)) lv (pc + 1) st) : J x k n S lv pc (.int v :: .int i :: .ref a :: st) := fun H locs ls hP hD hS hl => by
  subst hj
  obtain ⟨q, hq, hq2⟩ := ar_I (cy := (x_v x).2.1) hL' hK' (by decide) (by decide) (by decide)
  refine va_sast C.1 C.2.1 C.2.2.2.2.2.2.1 hP hD hS q 3 hq rfl hin d (fun H1 locs1 hP1 hD1 hS1 => ?_)
  have hset := fun e' => pl_set (S' := tI S a i.toNatClampNeg (v.toInt16.toInt32)) (e := e') hD hL' hq2 rfl
  first
    | (rw [hset _ (pf_tI hK' (by decide) (by decide) (by decide) _ _)] at hP1 hD1; exact K H1 locs1 ls hP1 hD1 hS1 hl)
    | (simp only [vp_nar_byte, vp_nar_short] at hP1 hD1; rw [hset _ (pf_tI hK' (by decide) (by decide) (by decide) _ _)] at hP1 hD1; exact K H1 locs1 ls hP1 hD1 hS1 hl)
theorem j_last (C : CB x own cc) {a j : Nat} {i : Int32} {v : Int64} (d : decode cc pc = .ok (.lastore, 1)) (hL' : a ∈ hL S) (hK' : hK S a = 15) (hin : vp_in i (hN S a)) (hj : i.toNatClampNeg = j) (K : J x k n (tJ S a j v) lv (pc + 1) st) : J x k n S lv pc (.long v :: .int i :: .ref a :: st) := fun H locs ls hP hD hS hl => by
  subst hj
  obtain ⟨q, hq, hq2⟩ := ar_J (cy := (x_v x).2.1) hL' hK'
  refine va_last C.1 C.2.1 C.2.2.2.2.2.2.1 hP hD hS q 2 hq rfl hin d (fun H1 locs1 hP1 hD1 hS1 => ?_)
  rw [pl_set (S' := tJ S a i.toNatClampNeg v) hD hL' hq2 rfl (pf_tJ hK' _ _)] at hP1 hD1
  exact K H1 locs1 ls hP1 hD1 hS1 hl
/-- the row of an array type in TY, by its kind -/
theorem ty_I {cy : Nat → ClassId} {kd : Nat} (h1 : ¬ kd < 13) (h3 : kd < 22) : ∃ t, (TY cy)[kd - 13]? = some (cy kd, t) := by
  have : kd = 13 ∨ kd = 14 ∨ kd = 15 ∨ kd = 16 ∨ kd = 17 ∨ kd = 18 ∨ kd = 19 ∨ kd = 20 ∨ kd = 21 := by omega
  rcases this with rfl | rfl | rfl | rfl | rfl | rfl | rfl | rfl | rfl <;> exact ⟨_, rfl⟩
theorem j_alen (C : CB x own cc) {a kd : Nat} {v : Int32} (d : decode cc pc = .ok (.arraylength, 1)) (hL' : a ∈ hL S) (hK' : hK S a = kd) (h1 : ¬ kd < 13) (h3 : kd < 22) (hv : Int32.ofNat (hN S a) = v) (K : J x k n S lv (pc + 1) (.int v :: st)) : J x k n S lv pc (.ref a :: st) := fun H locs ls hP hD hS hl => by
  obtain ⟨t, ht⟩ := ty_I (cy := (x_v x).2.1) h1 h3
  by_cases q15 : kd = 15
  · subst q15
    obtain ⟨q, hq, -⟩ := ar_J (cy := (x_v x).2.1) hL' hK'
    exact va_alen C.1 C.2.1 C.2.2.2.2.2.2.1 hP q _ hq ht hv d (K H locs ls hP hD hS hl)
  · by_cases q18 : kd < 18
    · obtain ⟨q, hq, -⟩ := ar_I (cy := (x_v x).2.1) hL' hK' h1 q15 q18
      exact va_alen C.1 C.2.1 C.2.2.2.2.2.2.1 hP q _ hq ht hv d (K H locs ls hP hD hS hl)
    · obtain ⟨q, hq, -⟩ := ar_R (cy := (x_v x).2.1) hL' hK' q18
      exact va_alen C.1 C.2.1 C.2.2.2.2.2.2.1 hP q _ hq ht hv d (K H locs ls hP hD hS hl)
/-- a static array's address; its places -/
theorem j_gets (C : CB x own cc) {idx : Nat} {q : String × String × List Int32} (i : Nat) (hi : stL[i]? = some q) (F : Cond.fieldLink own idx q.1 q.2.1 "[I" ∈ TBL ∨ ∃ host, Cond.fieldLinkNest own idx q.1 q.2.1 "[I" host ∈ NST) (d : decode cc pc = .ok (.getstatic idx, 3)) (K : J x k n S lv (pc + 3) (.ref ((x_v x).2.2 i) :: st)) : J x k n S lv pc st := fun H locs ls hP hD hS hl => by
  obtain ⟨h1, -⟩ := C.2.2.2.2.2.2.2.2.1 i q hi
  rcases F with F | ⟨host, F⟩
  · exact va_gets C.1 C.2.1 h1 hS C.2.2.2.1 (C.2.2.2.2.1 _ F) (fun _ h => h) d (K H locs ls hP hD hS hl)
  · exact va_getsN C.1 C.2.1 h1 hS C.2.2.2.1 (va_Nw.use rfl (C.2.2.2.2.2.2.2.1 _ F)) (fun _ h => h) d (K H locs ls hP hD hS hl)
theorem j_stld (C : CB x own cc) {q : String × String × List Int32} (i : Nat) (hi : stL[i]? = some q) {j v : Int32} (d : decode cc pc = .ok (.iaload, 1)) (hin : vp_in j q.2.2.length) (hv : q.2.2.getD j.toNatClampNeg 0 = v) (K : J x k n S lv (pc + 1) (.int v :: st)) : J x k n S lv pc (.int j :: .ref ((x_v x).2.2 i) :: st) := fun H locs ls hP hD hS hl => by
  obtain ⟨-, h2⟩ := C.2.2.2.2.2.2.2.2.1 i q hi
  exact va_ti C.1 C.2.1 h2 hS hin (by rw [hv]) d (K H locs ls hP hD hS hl)
theorem j_stlen (C : CB x own cc) {q : String × String × List Int32} (i : Nat) (hi : stL[i]? = some q) {v : Int32} (d : decode cc pc = .ok (.arraylength, 1)) (hv : Int32.ofNat q.2.2.length = v) (K : J x k n S lv (pc + 1) (.int v :: st)) : J x k n S lv pc (.ref ((x_v x).2.2 i) :: st) := fun H locs ls hP hD hS hl => by
  obtain ⟨-, h2⟩ := C.2.2.2.2.2.2.2.2.1 i q hi
  exact va_tlen C.1 C.2.1 h2 hS hv d (K H locs ls hP hD hS hl)
/-- Object's constructor -/
theorem j_objInit (C : CB x own cc) {idx a : Nat} (F : ML own idx objectInit) (hn : ∀ host, Cond.methodLinkNest own idx objectInit host ∉ NST) (hR : 1 ≤ (x_R x).frames ∧ 20 ≤ (x_R x).locals) (d : decode cc pc = .ok (.invokespecial idx, 3)) (K : J x k n S lv (pc + 3) []) : J x k n S lv pc [.ref a] := fun H locs ls hP hD hS hl => by
  rcases F with F | ⟨host, F⟩
  · refine W.objInit C.1 C.2.1 C.2.2.2.1 (C.2.2.2.2.1 _ F) (C.2.2.2.2.1 _ oi_inst) (C.2.2.2.2.1 _ oi_code) rfl (by rw [C.2.2.1]; exact hl.1) rfl d hR.1 (Nat.le_trans (Nat.le_of_ble_eq_true rfl) hR.2) ?_
    exact W.eq (g2 := F0 (x_m x) (pc + 3) ls []) rfl (K H locs ls hP hD hS hl)
  · exact absurd F (hn host)
/-- a new object -/
theorem dv_ok : ∀ ci, ci < 13 → ∀ s, s < fn ci → defaultValue (fty ci s) = vp_V (dv ci) s := by decide +kernel
theorem j_new (C : CB x own cc) {ci idx N : Nat} {r : vw_C} (hr : vwCl[ci]? = some r) (hN' : r.2.2 = N) (Fl : Cond.classLink own idx r.1 ∈ TBL) (Fn : Cond.instantiable r.1 N ∈ TBL) (Fi : Cond.initialized r.1 ∈ TBL) (hk : k + 1 ≤ (x_R x).cells) (hn : n + N ≤ (x_R x).slots) (d : decode cc pc = .ok (.new idx, 3)) (K : ∀ q : Nat, q ∉ hL S → J x (k + 1) (n + N) (nO S q ci) lv (pc + 3) (.ref q :: st)) : J x k n S lv pc st := fun H locs ls hP hD hS hl => by
  obtain ⟨C', T, N'⟩ := r
  subst hN'
  obtain ⟨e, h13, hin, hnm, hcl⟩ := cl_all ci _ hr
  refine va_new (fs := dv ci) C.1 C.2.1 C.2.2.2.2.1 hin (fty ci) (fun j hj => (hcl j hj).2) C.2.2.2.1 (C.2.2.2.2.1 _ Fl) (C.2.2.2.2.1 _ Fn) (C.2.2.2.2.1 _ Fi) C.2.2.2.2.2.2.1 hP hD hS C.2.2.2.2.2.1 hr (fun j hj => dv_ok ci h13 j (by rw [← e]; exact hj)) hk hn d (fun q H1 hP1 hD1 hS1 => ?_)
  have hq : q ∉ hL S := fun hq => by
    obtain ⟨j, hj⟩ := pl_get (cy := (x_v x).2.1) hq
    have hlt := (List.getElem?_eq_some_iff.mp hj).1
    have g1 : (pl (x_v x).2.1 S ++ [(q, (.inr (ci, dv ci) : va_E))])[j]? = some (q, pf (x_v x).2.1 S q) := by rw [List.getElem?_append_left hlt]; exact hj
    have g2 : (pl (x_v x).2.1 S ++ [(q, (.inr (ci, dv ci) : va_E))])[(pl (x_v x).2.1 S).length]? = some (q, .inr (ci, dv ci)) := by rw [List.getElem?_append_right (Nat.le_refl _)]; simp
    exact absurd (hD1.1 _ _ _ _ g1 g2 rfl) (Nat.ne_of_lt hlt)
  rw [pl_push (S' := nO S q ci) hq rfl (fun b => pf_nO h13 b)] at hP1 hD1
  exact K q hq H1 locs ls hP1 hD1 hS1 hl
end JR2
end
section
section JR3
variable {x : JX} {own : String} {cc : ByteArray} {k n pc tgt : Nat} {S : Hp} {lv : List (Nat × Value)} {st : List Value}
/-- behind a call: what the callee's contract says -/
theorem j_ran (C : CB x own cc) {K' N' : Nat} {rest : List Value} {Q : Option Value → Hp → Prop} {a : Array Value}
    (hr : ∀ (H : Heap) (locs : List Loc) (ls : Array Slot), va_P (x_v x).1 vwCl (pl (x_v x).2.1 S) H → va_D (x_A x) (pl (x_v x).2.1 S) → va_S (x_A x) (x_s x).heap H locs → lv_has ls (x_n x) lv → va_Run (x_p x) (x_l x) (x_e x) (x_R x) (x_s x) (x_m x) (x_a x) (x_b x) (x_meth x) (x_c x) H locs k n K' N' (F0 (x_m x) pc ls st) rest (QW (x_v x) H.size S Q a) (fun q => q ∈ hL S ∨ H.size ≤ q))
    (K : ∀ (r : Option Value) (S' : Hp), Q r S' → J x (k + K') (n + N') S' lv (pc + 3) (r.toList ++ rest)) : J x k n S lv pc st := fun H locs ls hP hD hS hl => by
  intro T hT X
  obtain ⟨v, st₀, t, T', L, h0, X', hL', e1, e2, ⟨⟨r, S', hv, hq, hP1, hD1⟩, hz, hk⟩, stp⟩ := hr H locs ls hP hD hS hl T hT X
  cases hv
  rw [h0] at hz hk
  have hAA : ∀ q, (q ∈ hL S ∨ H.size ≤ q) → x_A x q := fun q hq => hq.elim (fun h => by
    obtain ⟨j, hj⟩ := pl_get (cy := (x_v x).2.1) h
    exact hD.2 j _ hj) (fun h => C.2.2.2.2.2.1 q (Nat.le_trans hS.1 h))
  have hS1 : va_S (x_A x) (x_s x).heap T'.heap (locs ++ L) := ⟨Nat.le_trans hS.1 (by rw [e1]; exact hz), fun q h1 h2 => by rw [e1, hk q (Nat.lt_of_lt_of_le h1 hS.1) (fun z => h2 (hAA q z))]; exact hS.2.1 q h1 h2, fun q hq => by
    rcases List.mem_append.mp hq with h | h
    · exact hS.2.2 q h
    · exact hAA _ (hL' q h)⟩
  obtain ⟨t2, a1, b1⟩ := K v S' hq T'.heap (locs ++ L) ls (by rw [e1]; exact hP1) (hD1.weaken (fun k q _ h => hAA q.1 h)) hS1 hl T' rfl X'
  exact ⟨t2, stp t2 a1, b1⟩
theorem pw_of (C : CB x own cc) {H : Heap} {locs : List Loc} {U : State} (hP : va_P (x_v x).1 vwCl (pl (x_v x).2.1 S) H) (hD : va_D (x_A x) (pl (x_v x).2.1 S)) (hS : va_S (x_A x) (x_s x).heap H locs) (hU : U.heap = H) (hW : (x_s x).WarmedH U.vm) : PW (x_v x) H.size S U := by
  refine ⟨by rw [hU], by rw [hU]; exact hP, hD.weaken (fun _ _ _ _ => trivial), C.2.2.2.2.2.2.call hS hU hW (fun q hq => hq.elim (fun h => ?_) (fun h => C.2.2.2.2.2.1 q (Nat.le_trans hS.1 h)))⟩
  obtain ⟨j, hj⟩ := pl_get (cy := (x_v x).2.1) h
  exact hD.2 j _ hj
theorem pw_blind {v : EV} {sz : Nat} {As : List Value} : FrameBlind (va_Pc As (PW v sz S)) := fun a U g mk h => ⟨h.1, h.2.1, h.2.2.1, h.2.2.2.1, h.2.2.2.2.blind⟩
/-- the room of a call -/
def rmOk (x : JX) (d maxL k K' n N' : Nat) : Prop := d + 1 ≤ (x_R x).frames ∧ 40 * d + maxL + 19 ≤ (x_R x).locals ∧ k + K' ≤ (x_R x).cells ∧ n + N' ≤ (x_R x).slots
theorem CM.rm {d K0 N0 : Nat} {ret : Option FieldType} {S0 : Hp} {Q : Option Value → Hp → Prop} (M : CM x d K0 N0 ret S0 Q) {d' maxL K' N' : Nat} (h1 : d' < d) (h2 : maxL ≤ 21) (h3 : k + K' ≤ K0) (h4 : n + N' ≤ N0) : rmOk x d' maxL k K' n N' := by
  have e := M.1
  unfold rmOk
  rw [e]
  refine ⟨h1, ?_, h3, h4⟩
  show 40 * d' + maxL + 19 ≤ 40 * d
  omega
theorem j_callVA (C : CB x own cc) {d idx b maxL np K' N' ci : Nat} {y : MethodName} {bytes : ByteArray} {ret : Option FieldType} (As rest : List Value) {Q : Option Value → Hp → Prop} (F : ML own idx y) (M : MCv y bytes maxL ret np) (hC : CtA (x_v x) d y bytes maxL ret K' N' (.ref b :: As) S Q) (hb : b ∈ hL S) (hkd : hK S b = ci) (hcl : (vwCl[ci]?).map (fun r => r.1) = some y.cls) (hR : rmOk x d maxL k K' n N') (hn : As.length = np) (hst : st = As.reverse ++ .ref b :: rest) (hcat : (rest.map fun v => v.category).sum ≤ 8) (dc : decode cc pc = .ok (.invokevirtual idx, 3))
    (K : ∀ (r : Option Value) (S' : Hp), Q r S' → J x (k + K') (n + N') S' lv (pc + 3) (r.toList ++ rest)) : J x k n S lv pc st := by
  obtain ⟨⟨hini, hcode, hd1, hd2⟩, hin, hsel⟩ := M
  refine j_ran C (K' := K') (N' := N') (rest := rest) (Q := Q) (a := (Value.ref b :: As).toArray) (fun H locs ls hP hD hS hl => ?_) K
  obtain ⟨r, hr, hr1⟩ : ∃ r, vwCl[ci]? = some r ∧ r.1 = y.cls := by
    cases hq : vwCl[ci]? with
    | none => rw [hq] at hcl; cases hcl
    | some r => rw [hq] at hcl; exact ⟨r, rfl, Option.some.inj hcl⟩
  obtain ⟨-, h13, -⟩ := cl_all ci r hr
  obtain ⟨q, hq⟩ := pl_get (cy := (x_v x).2.1) hb
  rw [pf_obj hkd h13] at hq
  have hrec := va_recv C.2.2.2.2.2.2.1 hP hr hq
  rw [hr1] at hrec
  have hpre : PreV (x_s x) H y.cls b (va_Pc (.ref b :: As) (PW (x_v x) H.size S)) As := ⟨pw_blind, hrec, fun U hU hW => ⟨rfl, pw_of C hP hD hS hU hW⟩⟩
  have hfix : CallFix (x_p x) (x_m x) (x_c x) cc (x_n x) (x_s x) (x_a x) TBL own := ⟨C.1, C.2.1, C.2.2.1, C.2.2.2.1, C.2.2.2.2.1⟩
  have hroom : (rmD d K' N').frames + 1 ≤ (x_R x).frames ∧ 8 + (maxL + 11) + (rmD d K' N').locals ≤ (x_R x).locals := ⟨hR.1, by have := hR.2.1; show 8 + (maxL + 11) + 40 * d ≤ _; omega⟩
  rcases F with F | ⟨host, F⟩
  · exact va_runV hfix (hC (x_l x) H.size) ⟨callB_of np C.2.2.2.2.1 (goodT hcode) rfl rfl rfl (C.2.2.2.2.1 _ hini) (C.2.2.2.2.1 _ F) ⟨hd1.1, hd1.2, hd2⟩ hroom, C.2.2.2.2.1 _ hin, C.2.2.2.2.1 _ hsel⟩ hpre rfl hn hl.1 hst (lv_room hcat) dc hR.2.2
  · exact va_runVN hfix (hC (x_l x) H.size) ⟨va_cnB np C.2.2.2.2.1 (goodT hcode) rfl rfl rfl (C.2.2.2.2.2.2.2.1 _ F) (C.2.2.2.2.1 _ hini) ⟨hd1.1, hd1.2, hd2⟩ hroom, C.2.2.2.2.1 _ hin, C.2.2.2.2.1 _ hsel⟩ hpre rfl hn hl.1 hst (lv_room hcat) dc hR.2.2
theorem j_callVX (C : CB x own cc) {d idx b maxL np K' N' : Nat} {y : MethodName} {bytes : ByteArray} {ret : Option FieldType} (As rest : List Value) {Q : Option Value → Hp → Prop} (F : ML own idx y) (M : MCv y bytes maxL ret np) (hC : CtA (x_v x) d y bytes maxL ret K' N' (.ref b :: As) S Q) (hrec9 : ∀ (H : Heap) (locs : List Loc), va_S (x_A x) (x_s x).heap H locs → ∃ cell : Cell, H[b]? = some cell ∧ cell.vm.isStatics = false ∧ (x_s x).vm.findClass y.cls = some cell.cls) (hR : rmOk x d maxL k K' n N') (hn : As.length = np) (hst : st = As.reverse ++ .ref b :: rest) (hcat : (rest.map fun v => v.category).sum ≤ 8) (dc : decode cc pc = .ok (.invokevirtual idx, 3))
    (K : ∀ (r : Option Value) (S' : Hp), Q r S' → J x (k + K') (n + N') S' lv (pc + 3) (r.toList ++ rest)) : J x k n S lv pc st := by
  obtain ⟨⟨hini, hcode, hd1, hd2⟩, hin, hsel⟩ := M
  refine j_ran C (K' := K') (N' := N') (rest := rest) (Q := Q) (a := (Value.ref b :: As).toArray) (fun H locs ls hP hD hS hl => ?_) K
  have hrec := hrec9 H locs hS
  have hpre : PreV (x_s x) H y.cls b (va_Pc (.ref b :: As) (PW (x_v x) H.size S)) As := ⟨pw_blind, hrec, fun U hU hW => ⟨rfl, pw_of C hP hD hS hU hW⟩⟩
  have hfix : CallFix (x_p x) (x_m x) (x_c x) cc (x_n x) (x_s x) (x_a x) TBL own := ⟨C.1, C.2.1, C.2.2.1, C.2.2.2.1, C.2.2.2.2.1⟩
  have hroom : (rmD d K' N').frames + 1 ≤ (x_R x).frames ∧ 8 + (maxL + 11) + (rmD d K' N').locals ≤ (x_R x).locals := ⟨hR.1, by have := hR.2.1; show 8 + (maxL + 11) + 40 * d ≤ _; omega⟩
  rcases F with F | ⟨host, F⟩
  · exact va_runV hfix (hC (x_l x) H.size) ⟨callB_of np C.2.2.2.2.1 (goodT hcode) rfl rfl rfl (C.2.2.2.2.1 _ hini) (C.2.2.2.2.1 _ F) ⟨hd1.1, hd1.2, hd2⟩ hroom, C.2.2.2.2.1 _ hin, C.2.2.2.2.1 _ hsel⟩ hpre rfl hn hl.1 hst (lv_room hcat) dc hR.2.2
  · exact va_runVN hfix (hC (x_l x) H.size) ⟨va_cnB np C.2.2.2.2.1 (goodT hcode) rfl rfl rfl (C.2.2.2.2.2.2.2.1 _ F) (C.2.2.2.2.1 _ hini) ⟨hd1.1, hd1.2, hd2⟩ hroom, C.2.2.2.2.1 _ hin, C.2.2.2.2.1 _ hsel⟩ hpre rfl hn hl.1 hst (lv_room hcat) dc hR.2.2
theorem j_callV (C : CB x own cc) {d idx b maxL np K' N' ci : Nat} {y : MethodName} {bytes : ByteArray} {ret : Option FieldType} (As rest : List Value) {Q : Option Value → Hp → Prop} (F : ML own idx y) (M : MCv y bytes maxL ret np) (hC : Ct d y bytes maxL ret K' N' (.ref b :: As) S Q) (hb : b ∈ hL S) (hkd : hK S b = ci) (hcl : (vwCl[ci]?).map (fun r => r.1) = some y.cls) (hR : rmOk x d maxL k K' n N') (hn : As.length = np) (hst : st = As.reverse ++ .ref b :: rest) (hcat : (rest.map fun v => v.category).sum ≤ 8) (dc : decode cc pc = .ok (.invokevirtual idx, 3))
    (K : ∀ (r : Option Value) (S' : Hp), Q r S' → J x (k + K') (n + N') S' lv (pc + 3) (r.toList ++ rest)) : J x k n S lv pc st := j_callVA C As rest F M (hC.at _) hb hkd hcl hR hn hst hcat dc K
theorem j_callIA (C : CB x own cc) {d idx b maxL np K' N' : Nat} {y : MethodName} {bytes : ByteArray} (As rest : List Value) {Q : Option Value → Hp → Prop} (F : ML own idx y) (M : MCi y bytes maxL np) (hC : CtA (x_v x) d y bytes maxL none K' N' (.ref b :: As) S Q) (hR : rmOk x d maxL k K' n N') (hn : As.length = np) (hst : st = As.reverse ++ .ref b :: rest) (hcat : (rest.map fun v => v.category).sum ≤ 8) (dc : decode cc pc = .ok (.invokespecial idx, 3))
    (K : ∀ (r : Option Value) (S' : Hp), Q r S' → J x (k + K') (n + N') S' lv (pc + 3) (r.toList ++ rest)) : J x k n S lv pc st := by
  obtain ⟨⟨hini, hcode, hd1, hd2⟩, hin, hy1⟩ := M
  refine j_ran C (K' := K') (N' := N') (rest := rest) (Q := Q) (a := (Value.ref b :: As).toArray) (fun H locs ls hP hD hS hl => ?_) K
  have hpre : PreS (x_s x) H (va_Pc (.ref b :: As) (PW (x_v x) H.size S)) (.ref b :: As) := ⟨pw_blind, fun U hU hW => ⟨rfl, pw_of C hP hD hS hU hW⟩⟩
  have hfix : CallFix (x_p x) (x_m x) (x_c x) cc (x_n x) (x_s x) (x_a x) TBL own := ⟨C.1, C.2.1, C.2.2.1, C.2.2.2.1, C.2.2.2.2.1⟩
  have hroom : (rmD d K' N').frames + 1 ≤ (x_R x).frames ∧ 8 + (maxL + 11) + (rmD d K' N').locals ≤ (x_R x).locals := ⟨hR.1, by have := hR.2.1; show 8 + (maxL + 11) + 40 * d ≤ _; omega⟩
  rcases F with F | ⟨host, F⟩
  · exact va_runI hfix (hC (x_l x) H.size) ⟨callB_of np C.2.2.2.2.1 (goodT hcode) rfl rfl rfl (C.2.2.2.2.1 _ hini) (C.2.2.2.2.1 _ F) ⟨hd1.1, hd1.2, hd2⟩ hroom, hy1, C.2.2.2.2.1 _ hin⟩ hpre rfl hn hl.1 hst (lv_room hcat) dc hR.2.2
  · exact va_runIN hfix (hC (x_l x) H.size) ⟨va_cnB np C.2.2.2.2.1 (goodT hcode) rfl rfl rfl (C.2.2.2.2.2.2.2.1 _ F) (C.2.2.2.2.1 _ hini) ⟨hd1.1, hd1.2, hd2⟩ hroom, hy1, C.2.2.2.2.1 _ hin⟩ hpre rfl hn hl.1 hst (lv_room hcat) dc hR.2.2
theorem j_callI (C : CB x own cc) {d idx b maxL np K' N' : Nat} {y : MethodName} {bytes : ByteArray} (As rest : List Value) {Q : Option Value → Hp → Prop} (F : ML own idx y) (M : MCi y bytes maxL np) (hC : Ct d y bytes maxL none K' N' (.ref b :: As) S Q) (hR : rmOk x d maxL k K' n N') (hn : As.length = np) (hst : st = As.reverse ++ .ref b :: rest) (hcat : (rest.map fun v => v.category).sum ≤ 8) (dc : decode cc pc = .ok (.invokespecial idx, 3))
    (K : ∀ (r : Option Value) (S' : Hp), Q r S' → J x (k + K') (n + N') S' lv (pc + 3) (r.toList ++ rest)) : J x k n S lv pc st := j_callIA C As rest F M (hC.at _) hR hn hst hcat dc K
theorem j_callSA (C : CB x own cc) {d idx maxL np K' N' : Nat} {y : MethodName} {bytes : ByteArray} {ret : Option FieldType} (As rest : List Value) {Q : Option Value → Hp → Prop} (F : ML own idx y) (M : MCs y bytes maxL ret np) (hC : CtA (x_v x) d y bytes maxL ret K' N' As S Q) (hR : rmOk x d maxL k K' n N') (hn : As.length = np) (hst : st = As.reverse ++ rest) (hcat : (rest.map fun v => v.category).sum ≤ 8) (dc : decode cc pc = .ok (.invokestatic idx, 3))
    (K : ∀ (r : Option Value) (S' : Hp), Q r S' → J x (k + K') (n + N') S' lv (pc + 3) (r.toList ++ rest)) : J x k n S lv pc st := by
  obtain ⟨⟨hini, hcode, hd1, hd2⟩, hsta⟩ := M
  refine j_ran C (K' := K') (N' := N') (rest := rest) (Q := Q) (a := As.toArray) (fun H locs ls hP hD hS hl => ?_) K
  have hpre : PreS (x_s x) H (va_Pc As (PW (x_v x) H.size S)) As := ⟨pw_blind, fun U hU hW => ⟨rfl, pw_of C hP hD hS hU hW⟩⟩
  have hfix : CallFix (x_p x) (x_m x) (x_c x) cc (x_n x) (x_s x) (x_a x) TBL own := ⟨C.1, C.2.1, C.2.2.1, C.2.2.2.1, C.2.2.2.2.1⟩
  have hroom : (rmD d K' N').frames + 1 ≤ (x_R x).frames ∧ 8 + (maxL + 11) + (rmD d K' N').locals ≤ (x_R x).locals := ⟨hR.1, by have := hR.2.1; show 8 + (maxL + 11) + 40 * d ≤ _; omega⟩
  rcases F with F | ⟨host, F⟩
  · exact va_runS hfix (hC (x_l x) H.size) ⟨callB_of np C.2.2.2.2.1 (goodT hcode) rfl rfl rfl (C.2.2.2.2.1 _ hini) (C.2.2.2.2.1 _ F) ⟨hd1.1, hd1.2, hd2⟩ hroom, C.2.2.2.2.1 _ hsta⟩ hpre rfl hn hl.1 hst (lv_room hcat) dc hR.2.2
  · exact va_runSN hfix (hC (x_l x) H.size) ⟨va_cnB np C.2.2.2.2.1 (goodT hcode) rfl rfl rfl (C.2.2.2.2.2.2.2.1 _ F) (C.2.2.2.2.1 _ hini) ⟨hd1.1, hd1.2, hd2⟩ hroom, C.2.2.2.2.1 _ hsta, trivial⟩ hpre rfl hn hl.1 hst (lv_room hcat) dc hR.2.2
theorem j_callS (C : CB x own cc) {d idx maxL np K' N' : Nat} {y : MethodName} {bytes : ByteArray} {ret : Option FieldType} (As rest : List Value) {Q : Option Value → Hp → Prop} (F : ML own idx y) (M : MCs y bytes maxL ret np) (hC : Ct d y bytes maxL ret K' N' As S Q) (hR : rmOk x d maxL k K' n N') (hn : As.length = np) (hst : st = As.reverse ++ rest) (hcat : (rest.map fun v => v.category).sum ≤ 8) (dc : decode cc pc = .ok (.invokestatic idx, 3))
    (K : ∀ (r : Option Value) (S' : Hp), Q r S' → J x (k + K') (n + N') S' lv (pc + 3) (r.toList ++ rest)) : J x k n S lv pc st := j_callSA C As rest F M (hC.at _) hR hn hst hcat dc K
/-- the ends of a method -/
theorem CM.qw {d K0 N0 : Nat} {ret : Option FieldType} {S0 : Hp} {Q : Option Value → Hp → Prop} (M : CM x d K0 N0 ret S0 Q) {H : Heap} {locs : List Loc} {r : Option Value} (hq : Q r S) (hP : va_P (x_v x).1 vwCl (pl (x_v x).2.1 S) H) (hD : va_D (x_A x) (pl (x_v x).2.1 S)) (hS : va_S (x_A x) (x_s x).heap H locs) (t : State) (ht : t.heap = H) : QW (x_v x) (x_s x).heap.size S0 Q (x_a x) (x_s x) (.returned r) t := by
  have e := M.2.1
  rw [e] at hD hS
  exact ⟨⟨r, S, rfl, hq, by rw [ht]; exact hP, hD⟩, hS.F ht⟩
theorem j_vret (C : CB x own cc) {d K0 N0 : Nat} {S0 : Hp} {Q : Option Value → Hp → Prop} (M : CM x d K0 N0 none S0 Q) (dc : decode cc pc = .ok (.return_, 1)) (hk : k ≤ K0) (hn : n ≤ N0) (hq : Q none S) : J x k n S lv pc [] := J.widen hk hn fun H locs ls hP hD hS hl => by
  show W _ _ _ _ _ _ _ _ _ _ _ _ _ _ _ _
  rw [M.2.2.1]
  exact W.vret C.1 C.2.1 M.2.2.2.1 (fun t ht hW => M.qw hq hP hD hS t ht) hS.2.2 dc (hlocks := M.2.2.2.2)
theorem j_iret (C : CB x own cc) {d K0 N0 : Nat} {S0 : Hp} {Q : Option Value → Hp → Prop} {v : Int32} (M : CM x d K0 N0 (some .int) S0 Q) (dc : decode cc pc = .ok (.ireturn, 1)) (hk : k ≤ K0) (hn : n ≤ N0) (hq : Q (some (.int v)) S) : J x k n S lv pc [.int v] := J.widen hk hn fun H locs ls hP hD hS hl => by
  show W _ _ _ _ _ _ _ _ _ _ _ _ _ _ _ _
  rw [M.2.2.1]
  exact W.iret C.1 C.2.1 M.2.2.2.1 (fun t ht hW => M.qw hq hP hD hS t ht) hS.2.2 dc (hlocks := M.2.2.2.2)
theorem j_zret (C : CB x own cc) {d K0 N0 : Nat} {S0 : Hp} {Q : Option Value → Hp → Prop} {v : Int32} {ty : FieldType} (M : CM x d K0 N0 (some ty) S0 Q) (hv : narrow ty (.int v) = .int v) (dc : decode cc pc = .ok (.ireturn, 1)) (hk : k ≤ K0) (hn : n ≤ N0) (hq : Q (some (.int v)) S) : J x k n S lv pc [.int v] := J.widen hk hn fun H locs ls hP hD hS hl => by
  show W _ _ _ _ _ _ _ _ _ _ _ _ _ _ _ _
  rw [M.2.2.1]
  exact W.zret C.1 C.2.1 M.2.2.2.1 hv (fun t ht hW => M.qw hq hP hD hS t ht) hS.2.2 dc (hlocks := M.2.2.2.2)
theorem j_lret (C : CB x own cc) {d K0 N0 : Nat} {S0 : Hp} {Q : Option Value → Hp → Prop} {v : Int64} (M : CM x d K0 N0 (some .long) S0 Q) (dc : decode cc pc = .ok (.lreturn, 1)) (hk : k ≤ K0) (hn : n ≤ N0) (hq : Q (some (.long v)) S) : J x k n S lv pc [.long v] := J.widen hk hn fun H locs ls hP hD hS hl => by
  show W _ _ _ _ _ _ _ _ _ _ _ _ _ _ _ _
  rw [M.2.2.1]
  exact W.lret C.1 C.2.1 M.2.2.2.1 (fun t ht hW => M.qw hq hP hD hS t ht) hS.2.2 dc (hlocks := M.2.2.2.2)
theorem j_aret (C : CB x own cc) {d K0 N0 : Nat} {S0 : Hp} {Q : Option Value → Hp → Prop} {v : Nat} {rt : FieldType} (M : CM x d K0 N0 (some rt) S0 Q) (hrt : (∃ n, rt = .object n) ∨ ∃ t, rt = .array t) (dc : decode cc pc = .ok (.areturn, 1)) (hk : k ≤ K0) (hn : n ≤ N0) (hq : Q (some (.ref v)) S) : J x k n S lv pc [.ref v] := J.widen hk hn fun H locs ls hP hD hS hl => by
  show W _ _ _ _ _ _ _ _ _ _ _ _ _ _ _ _
  rw [M.2.2.1]
  exact W.aret C.1 C.2.1 M.2.2.2.1 hrt (Or.inr ⟨v, rfl⟩) (fun t ht hW => M.qw hq hP hD hS t ht) hS.2.2 dc (hlocks := M.2.2.2.2)
/-- a fresh cell's address is not of the pool -/
theorem fresh_of {A : Nat → Prop} {cy : Nat → ClassId} {q : Nat} {e : va_E} (hD1 : va_D A (pl cy S ++ [(q, e)])) : q ∉ hL S := fun hq => by
  obtain ⟨j, hj⟩ := pl_get (cy := cy) hq
  have hlt := (List.getElem?_eq_some_iff.mp hj).1
  have g1 : (pl cy S ++ [(q, e)])[j]? = some (q, pf cy S q) := by rw [List.getElem?_append_left hlt]; exact hj
  have g2 : (pl cy S ++ [(q, e)])[(pl cy S).length]? = some (q, e) := by rw [List.getElem?_append_right (Nat.le_refl _)]; simp
  exact absurd (hD1.1 _ _ _ _ g1 g2 rfl) (Nat.ne_of_lt hlt)
/-- an array class is the one that the launch has -/
theorem cy_prim {s : State} {D : va_G} {cy : Nat → ClassId} {t kd : Nat} {ty : FieldType} {cA : ClassId} (h1 : va_K D vwCl (TY cy) s) (ht : (TY cy)[t]? = some (cy kd, ty)) (hno : ∀ C, ty ≠ .object C) (h2 : va_K D vwCl (TY cy ++ [(cA, ty)]) s) : cA = cy kd := by
  have a1 := (h1.2 t _ ht).2
  have a2 := (h2.2 (TY cy).length (cA, ty) (by rw [List.getElem?_append_right (Nat.le_refl _)]; simp)).2
  unfold va_RA at a1 a2
  cases ty with
  | object C => exact absurd rfl (hno C)
  | _ => exact Option.some.inj (a2.symm.trans a1)
theorem cy_obj {s : State} {D : va_G} {cy : Nat → ClassId} {t kd : Nat} {E : String} {cA : ClassId} (h1 : va_K D vwCl (TY cy) s) (ht : (TY cy)[t]? = some (cy kd, .object E)) (h2 : va_K D vwCl (TY cy ++ [(cA, .object E)]) s) : cA = cy kd := by
  obtain ⟨_, _, -, -, -, a1⟩ := (h1.2 t _ ht).2
  obtain ⟨_, _, -, -, -, a2⟩ := (h2.2 (TY cy).length (cA, .object E) (by rw [List.getElem?_append_right (Nat.le_refl _)]; simp)).2
  exact Option.some.inj (a2.symm.trans a1)

theorem j_newI (C : CB x own cc) {v : Int32} {N : Nat} (ha : Cond.arrayClass .int ∈ TBL) (hv : ¬ v < 0) (hN' : v.toNatClampNeg = N) (hb : N * componentBytes .int ≤ 536870912) (hk : k + 1 ≤ (x_R x).cells) (hn : n + N ≤ (x_R x).slots) (dc : decode cc pc = .ok (.newarray .int, 2)) (K : ∀ q : Nat, q ∉ hL S → J x (k + 1) (n + N) (nA S q 14 N) lv (pc + 2) (.ref q :: st)) : J x k n S lv pc (.int v :: st) := fun H locs ls hP hD hS hl => by
  refine va_newa (atype := .int) (ty := .int) (a0 := (N, .inl (fun _ => 0))) C.1 C.2.1 (C.2.2.2.2.1 _ ha) rfl C.2.2.2.2.2.2.1 hP hD hS C.2.2.2.2.2.1 (fun cA => by first | rfl | simp [vp_cell, defaultValue]) hv hN' hb hk hn dc (fun q cA H1 hK1 hP1 hD1 hS1 => ?_)
  have hq := fresh_of hD1
  have e := cy_prim (t := 1) (kd := 14) C.2.2.2.2.2.2.1 rfl (fun _ h => by cases h) hK1
  subst e
  rw [pl_push (S' := nA S q 14 N) hq rfl (fun b => pf_nAI (by decide) (by decide) (by decide) b)] at hP1 hD1
  exact K q hq H1 locs ls hP1 hD1 hS1 hl
theorem j_newB (C : CB x own cc) {v : Int32} {N : Nat} (ha : Cond.arrayClass .byte ∈ TBL) (hv : ¬ v < 0) (hN' : v.toNatClampNeg = N) (hb : N * componentBytes .byte ≤ 536870912) (hk : k + 1 ≤ (x_R x).cells) (hn : n + N ≤ (x_R x).slots) (dc : decode cc pc = .ok (.newarray .byte, 2)) (K : ∀ q : Nat, q ∉ hL S → J x (k + 1) (n + N) (nA S q 13 N) lv (pc + 2) (.ref q :: st)) : J x k n S lv pc (.int v :: st) := fun H locs ls hP hD hS hl => by
  refine va_newa (atype := .byte) (ty := .byte) (a0 := (N, .inl (fun _ => 0))) C.1 C.2.1 (C.2.2.2.2.1 _ ha) rfl C.2.2.2.2.2.2.1 hP hD hS C.2.2.2.2.2.1 (fun cA => by first | rfl | simp [vp_cell, defaultValue]) hv hN' hb hk hn dc (fun q cA H1 hK1 hP1 hD1 hS1 => ?_)
  have hq := fresh_of hD1
  have e := cy_prim (t := 0) (kd := 13) C.2.2.2.2.2.2.1 rfl (fun _ h => by cases h) hK1
  subst e
  rw [pl_push (S' := nA S q 13 N) hq rfl (fun b => pf_nAI (by decide) (by decide) (by decide) b)] at hP1 hD1
  exact K q hq H1 locs ls hP1 hD1 hS1 hl
theorem j_newZ (C : CB x own cc) {v : Int32} {N : Nat} (ha : Cond.arrayClass .boolean ∈ TBL) (hv : ¬ v < 0) (hN' : v.toNatClampNeg = N) (hb : N * componentBytes .boolean ≤ 536870912) (hk : k + 1 ≤ (x_R x).cells) (hn : n + N ≤ (x_R x).slots) (dc : decode cc pc = .ok (.newarray .boolean, 2)) (K : ∀ q : Nat, q ∉ hL S → J x (k + 1) (n + N) (nA S q 17 N) lv (pc + 2) (.ref q :: st)) : J x k n S lv pc (.int v :: st) := fun H locs ls hP hD hS hl => by
  refine va_newa (atype := .boolean) (ty := .boolean) (a0 := (N, .inl (fun _ => 0))) C.1 C.2.1 (C.2.2.2.2.1 _ ha) rfl C.2.2.2.2.2.2.1 hP hD hS C.2.2.2.2.2.1 (fun cA => by first | rfl | simp [vp_cell, defaultValue]) hv hN' hb hk hn dc (fun q cA H1 hK1 hP1 hD1 hS1 => ?_)
  have hq := fresh_of hD1
  have e := cy_prim (t := 4) (kd := 17) C.2.2.2.2.2.2.1 rfl (fun _ h => by cases h) hK1
  subst e
  rw [pl_push (S' := nA S q 17 N) hq rfl (fun b => pf_nAI (by decide) (by decide) (by decide) b)] at hP1 hD1
  exact K q hq H1 locs ls hP1 hD1 hS1 hl
theorem j_newS (C : CB x own cc) {v : Int32} {N : Nat} (ha : Cond.arrayClass .short ∈ TBL) (hv : ¬ v < 0) (hN' : v.toNatClampNeg = N) (hb : N * componentBytes .short ≤ 536870912) (hk : k + 1 ≤ (x_R x).cells) (hn : n + N ≤ (x_R x).slots) (dc : decode cc pc = .ok (.newarray .short, 2)) (K : ∀ q : Nat, q ∉ hL S → J x (k + 1) (n + N) (nA S q 16 N) lv (pc + 2) (.ref q :: st)) : J x k n S lv pc (.int v :: st) := fun H locs ls hP hD hS hl => by
  refine va_newa (atype := .short) (ty := .short) (a0 := (N, .inl (fun _ => 0))) C.1 C.2.1 (C.2.2.2.2.1 _ ha) rfl C.2.2.2.2.2.2.1 hP hD hS C.2.2.2.2.2.1 (fun cA => by first | rfl | simp [vp_cell, defaultValue]) hv hN' hb hk hn dc (fun q cA H1 hK1 hP1 hD1 hS1 => ?_)
  have hq := fresh_of hD1
  have e := cy_prim (t := 3) (kd := 16) C.2.2.2.2.2.2.1 rfl (fun _ h => by cases h) hK1
  subst e
  rw [pl_push (S' := nA S q 16 N) hq rfl (fun b => pf_nAI (by decide) (by decide) (by decide) b)] at hP1 hD1
  exact K q hq H1 locs ls hP1 hD1 hS1 hl
theorem j_newJ (C : CB x own cc) {v : Int32} {N : Nat} (ha : Cond.arrayClass .long ∈ TBL) (hv : ¬ v < 0) (hN' : v.toNatClampNeg = N) (hb : N * componentBytes .long ≤ 536870912) (hk : k + 1 ≤ (x_R x).cells) (hn : n + N ≤ (x_R x).slots) (dc : decode cc pc = .ok (.newarray .long, 2)) (K : ∀ q : Nat, q ∉ hL S → J x (k + 1) (n + N) (nA S q 15 N) lv (pc + 2) (.ref q :: st)) : J x k n S lv pc (.int v :: st) := fun H locs ls hP hD hS hl => by
  refine va_newa (atype := .long) (ty := .long) (a0 := (N, .inr (.inl (fun _ => 0)))) C.1 C.2.1 (C.2.2.2.2.1 _ ha) rfl C.2.2.2.2.2.2.1 hP hD hS C.2.2.2.2.2.1 (fun cA => by first | rfl | simp [vp_cell, defaultValue]) hv hN' hb hk hn dc (fun q cA H1 hK1 hP1 hD1 hS1 => ?_)
  have hq := fresh_of hD1
  have e := cy_prim (t := 2) (kd := 15) C.2.2.2.2.2.2.1 rfl (fun _ h => by cases h) hK1
  subst e
  rw [pl_push (S' := nA S q 15 N) hq rfl (fun b => pf_nAJ b)] at hP1 hD1
  exact K q hq H1 locs ls hP1 hD1 hS1 hl
theorem j_newQ (C : CB x own cc) {v : Int32} {N idx : Nat} (kd : Nat) {E : String} (hkd : kd = 18 ∨ kd = 19 ∨ kd = 20) (hE : (TY (fun i => i))[kd - 13]? = some (kd, .object E)) (hkl : Cond.classLink own idx E ∈ TBL) (hov : va_AO E (x_s x)) (hv : ¬ v < 0) (hN' : v.toNatClampNeg = N) (hb : N * 4 ≤ 536870912) (hk : k + 1 ≤ (x_R x).cells) (hn : n + N ≤ (x_R x).slots) (dc : decode cc pc = .ok (.anewarray idx, 3)) (K : ∀ q : Nat, q ∉ hL S → J x (k + 1) (n + N) (nA S q kd N) lv (pc + 3) (.ref q :: st)) : J x k n S lv pc (.int v :: st) := fun H locs ls hP hD hS hl => by
  refine va_newq C.1 C.2.1 C.2.2.2.1 (C.2.2.2.2.1 _ hkl) hov C.2.2.2.2.2.2.1 hP hD hS C.2.2.2.2.2.1 hv hN' hb hk hn dc (fun q cA H1 hK1 hP1 hD1 hS1 => ?_)
  have hq := fresh_of hD1
  have ht : (TY (x_v x).2.1)[kd - 13]? = some ((x_v x).2.1 kd, .object E) := by
    rcases hkd with rfl | rfl | rfl <;> (cases hE; rfl)
  have e := cy_obj (t := kd - 13) (kd := kd) C.2.2.2.2.2.2.1 ht hK1
  subst e
  rw [pl_push (S' := nA S q kd N) hq rfl (fun b => pf_nAR (by omega) b)] at hP1 hD1
  exact K q hq H1 locs ls hP1 hD1 hS1 hl
theorem j_aald (C : CB x own cc) {a v j : Nat} {i : Int32} (kd : Nat) {E : String} (hkd : kd = 18 ∨ kd = 19 ∨ kd = 20) (hE : (TY (fun i => i))[kd - 13]? = some (kd, .object E)) (d : decode cc pc = .ok (.aaload, 1)) (hL' : a ∈ hL S) (hK' : hK S a = kd) (hin : vp_in i (hN S a)) (hj : i.toNatClampNeg = j) (hv : aR S a j = some v) (K : J x k n S lv (pc + 1) (.ref v :: st)) : J x k n S lv pc (.int i :: .ref a :: st) := fun H locs ls hP hD hS hl => by
  subst hj
  obtain ⟨q, hq, -⟩ := ar_R (cy := (x_v x).2.1) hL' hK' (by omega)
  have ht : (TY (x_v x).2.1)[kd - 13]? = some ((x_v x).2.1 kd, .object E) := by
    rcases hkd with rfl | rfl | rfl <;> (cases hE; rfl)
  refine va_aldq C.1 C.2.1 C.2.2.2.2.2.2.1 hP q _ hq ht hin d ?_
  rw [hv]
  exact K H locs ls hP hD hS hl
theorem j_aast (C : CB x own cc) {a v ci j : Nat} {i : Int32} (kd : Nat) {r : vw_C} (hkd : kd = 18 ∨ kd = 19 ∨ kd = 20) (hE : (TY (fun i => i))[kd - 13]? = some (kd, .object r.1)) (d : decode cc pc = .ok (.aastore, 1)) (hL' : a ∈ hL S) (hK' : hK S a = kd) (hin : vp_in i (hN S a)) (hj : i.toNatClampNeg = j) (hLv : v ∈ hL S) (hKv : hK S v = ci) (hr : vwCl[ci]? = some r) (K : J x k n (tR S a j (some v)) lv (pc + 1) st) : J x k n S lv pc (.ref v :: .int i :: .ref a :: st) := fun H locs ls hP hD hS hl => by
  subst hj
  obtain ⟨-, h13, -⟩ := cl_all ci r hr
  obtain ⟨q, hq, hq2⟩ := ar_R (cy := (x_v x).2.1) hL' hK' (by omega)
  obtain ⟨qv, hqv⟩ := pl_get (cy := (x_v x).2.1) hLv
  rw [pf_obj hKv h13] at hqv
  have ht : (TY (x_v x).2.1)[kd - 13]? = some ((x_v x).2.1 kd, .object r.1) := by
    rcases hkd with rfl | rfl | rfl <;> (injection hE with hE; injection hE with _ hE; injection hE with hE; rw [← hE]; rfl)
  refine va_astq C.1 C.2.1 C.2.2.2.2.2.2.1 hP hD hS q _ qv ci hq ht hqv hr hin d (fun H1 locs1 hP1 hD1 hS1 => ?_)
  rw [pl_set (S' := tR S a i.toNatClampNeg (some v)) hD hL' hq2 rfl (pf_tR hK' (by omega) _ _)] at hP1 hD1
  exact K H1 locs1 ls hP1 hD1 hS1 hl
theorem j_copy (C : CB x own cc) {a0 a kd n0 n1 idx p0 p1 m0 : Nat} {ty : FieldType} {sp dp c : Int32} (F : Cond.methodLink own idx arraycopyName ∈ TBL) (hty : (kd = 13 ∧ ty = .byte) ∨ (kd = 14 ∧ ty = .int)) (h0 : a0 ∈ hL S) (hk0 : hK S a0 = kd) (hn0 : hN S a0 = n0) (h1 : a ∈ hL S) (hk1 : hK S a = kd) (hn1 : hN S a = n1) (hsp : ¬ sp < 0) (hdp : ¬ dp < 0) (hc : ¬ c < 0) (e0 : sp.toNatClampNeg = p0) (e1 : dp.toNatClampNeg = p1) (e2 : c.toNatClampNeg = m0) (b0 : p0 + m0 ≤ n0) (b1 : p1 + m0 ≤ n1) (hfit : ∀ i, i < m0 → fits ty (.int (aI S a0 (p0 + i))) = true) (hR : 1 ≤ (x_R x).frames ∧ 20 ≤ (x_R x).locals) (dc : decode cc pc = .ok (.invokestatic idx, 3)) (K : J x k n (rI S a (va_cpy (aI S a0) (aI S a) p0 p1 m0)) lv (pc + 3) []) : J x k n S lv pc [.int c, .int dp, .ref a, .int sp, .ref a0] := fun H locs ls hP hD hS hl => by
  subst e0; subst e1; subst e2; subst hn0; subst hn1
  have hkd : ¬ kd < 13 ∧ ¬ kd = 15 ∧ kd < 18 := by omega
  have ht : (TY (x_v x).2.1)[kd - 13]? = some ((x_v x).2.1 kd, ty) := by rcases hty with ⟨rfl, rfl⟩ | ⟨rfl, rfl⟩ <;> rfl
  obtain ⟨q0, hq0, -⟩ := ar_I (cy := (x_v x).2.1) h0 hk0 hkd.1 hkd.2.1 hkd.2.2
  obtain ⟨q1, hq1, hq2⟩ := ar_I (cy := (x_v x).2.1) h1 hk1 hkd.1 hkd.2.1 hkd.2.2
  refine va_copyi C.1 C.2.1 (by rw [C.2.2.1]; exact hl.1.symm) C.2.2.2.1 (C.2.2.2.2.1 _ F) (C.2.2.2.2.1 _ ac_nat) (C.2.2.2.2.1 _ ac_sta) (C.2.2.2.2.1 _ ac_ini) C.2.2.2.2.2.2.1 hP hD hS q0 q1 (kd - 13) (kd - 13) hq0 hq1 ht ht (by rcases hty with ⟨rfl, rfl⟩ | ⟨rfl, rfl⟩ <;> rfl) hsp hdp hc b0 b1 hfit hR.1 (Nat.le_trans (Nat.le_of_ble_eq_true rfl) hR.2) dc (fun H1 locs1 hP1 hD1 hS1 => ?_)
  rw [pl_set (S' := rI S a (va_cpy (aI S a0) (aI S a) sp.toNatClampNeg dp.toNatClampNeg c.toNatClampNeg)) hD h1 hq2 rfl (pf_rI hk1 hkd.1 hkd.2.1 hkd.2.2 _)] at hP1 hD1
  exact K H1 locs1 ls hP1 hD1 hS1 hl
end JR3
end
section
/-! Frames: from S to S', only the fields WI (whole numbers, longs), WR (references) and the rows of the arrays WA may have changed, of all that was there. -/
def Fm (WI WR : Nat → Nat → Prop) (WA : Nat → Prop) (S S' : Hp) : Prop := ∀ a, a ∈ hL S → a ∈ hL S' ∧ hK S' a = hK S a ∧ hN S' a = hN S a ∧ (∀ f, ¬ WI f a → hI S' f a = hI S f a ∧ hJ S' f a = hJ S f a) ∧ (∀ f, ¬ WR f a → hR S' f a = hR S f a) ∧ (¬ WA a → ∀ j, aI S' a j = aI S a j ∧ aJ S' a j = aJ S a j ∧ aR S' a j = aR S a j)
/-- a kind, a length: said so that omega does not look at it -/
def Kd (S : Hp) (a c : Nat) : Prop := hK S a = c
def Ln (S : Hp) (a c : Nat) : Prop := hN S a = c
section FRM
variable {WI WR VI VR : Nat → Nat → Prop} {WA VA : Nat → Prop} {S S' S2 : Hp}
theorem Fm.refl : Fm WI WR WA S S := fun a h => ⟨h, rfl, rfl, fun _ _ => ⟨rfl, rfl⟩, fun _ _ => rfl, fun _ _ => ⟨rfl, rfl, rfl⟩⟩
theorem Fm.mem (h : Fm WI WR WA S S') {a : Nat} (ha : a ∈ hL S) : a ∈ hL S' := (h a ha).1
theorem Fm.kd (h : Fm WI WR WA S S') {a c : Nat} (ha : a ∈ hL S) (hc : hK S a = c) : hK S' a = c := (h a ha).2.1.trans hc
theorem Fm.ln (h : Fm WI WR WA S S') {a c : Nat} (ha : a ∈ hL S) (hc : hN S a = c) : hN S' a = c := (h a ha).2.2.1.trans hc
theorem Fm.fi (h : Fm WI WR WA S S') {a f : Nat} {v : Int32} (ha : a ∈ hL S) (hw : ¬ WI f a) (hc : hI S f a = v) : hI S' f a = v := ((h a ha).2.2.2.1 f hw).1.trans hc
theorem Fm.fj (h : Fm WI WR WA S S') {a f : Nat} {v : Int64} (ha : a ∈ hL S) (hw : ¬ WI f a) (hc : hJ S f a = v) : hJ S' f a = v := ((h a ha).2.2.2.1 f hw).2.trans hc
theorem Fm.fr (h : Fm WI WR WA S S') {a f : Nat} {v : Option Nat} (ha : a ∈ hL S) (hw : ¬ WR f a) (hc : hR S f a = v) : hR S' f a = v := ((h a ha).2.2.2.2.1 f hw).trans hc
theorem Fm.ai (h : Fm WI WR WA S S') {a : Nat} (ha : a ∈ hL S) (hw : ¬ WA a) (j : Nat) : aI S' a j = aI S a j := ((h a ha).2.2.2.2.2 hw j).1
theorem Fm.aj (h : Fm WI WR WA S S') {a : Nat} (ha : a ∈ hL S) (hw : ¬ WA a) (j : Nat) : aJ S' a j = aJ S a j := ((h a ha).2.2.2.2.2 hw j).2.1
theorem Fm.ar (h : Fm WI WR WA S S') {a : Nat} (ha : a ∈ hL S) (hw : ¬ WA a) (j : Nat) : aR S' a j = aR S a j := ((h a ha).2.2.2.2.2 hw j).2.2
theorem Fm.then (h : Fm WI WR WA S S') (h2 : Fm VI VR VA S' S2) (h3 : ∀ a, a ∈ hL S → (∀ f, VI f a → WI f a) ∧ (∀ f, VR f a → WR f a) ∧ (VA a → WA a)) : Fm WI WR WA S S2 := fun a ha => by
  obtain ⟨q1, q2, q3, q4, q5, q6⟩ := h a ha
  obtain ⟨p1, p2, p3, p4, p5, p6⟩ := h2 a q1
  obtain ⟨w1, w2, w3⟩ := h3 a ha
  exact ⟨p1, p2.trans q2, p3.trans q3, fun f hf => ⟨(p4 f (fun q => hf (w1 f q))).1.trans (q4 f hf).1, (p4 f (fun q => hf (w1 f q))).2.trans (q4 f hf).2⟩, fun f hf => (p5 f (fun q => hf (w2 f q))).trans (q5 f hf), fun hf j => ⟨(p6 (fun q => hf (w3 q)) j).1.trans (q6 hf j).1, (p6 (fun q => hf (w3 q)) j).2.1.trans (q6 hf j).2.1, (p6 (fun q => hf (w3 q)) j).2.2.trans (q6 hf j).2.2⟩⟩
theorem Fm.weak (h : Fm WI WR WA S S') (h1 : ∀ f a, WI f a → VI f a) (h2 : ∀ f a, WR f a → VR f a) (h3 : ∀ a, WA a → VA a) : Fm VI VR VA S S' := Fm.then Fm.refl h fun a _ => ⟨fun f => h1 f a, fun f => h2 f a, h3 a⟩
theorem Fm.sI (h : Fm WI WR WA S S') {g b : Nat} (v : Int32) (hw : b ∈ hL S → WI g b) : Fm WI WR WA S (sI S' g b v) := fun a ha => by
  obtain ⟨q1, q2, q3, q4, q5, q6⟩ := h a ha
  refine ⟨q1, q2, q3, fun f hf => ⟨?_, (q4 f hf).2⟩, q5, q6⟩
  rw [hI_sI, if_neg]
  · exact (q4 f hf).1
  · rintro ⟨rfl, rfl⟩
    exact hf (hw ha)
theorem Fm.sJ (h : Fm WI WR WA S S') {g b : Nat} (v : Int64) (hw : b ∈ hL S → WI g b) : Fm WI WR WA S (sJ S' g b v) := fun a ha => by
  obtain ⟨q1, q2, q3, q4, q5, q6⟩ := h a ha
  refine ⟨q1, q2, q3, fun f hf => ⟨(q4 f hf).1, ?_⟩, q5, q6⟩
  rw [hJ_sJ, if_neg]
  · exact (q4 f hf).2
  · rintro ⟨rfl, rfl⟩
    exact hf (hw ha)
theorem Fm.sR (h : Fm WI WR WA S S') {g b : Nat} (v : Option Nat) (hw : b ∈ hL S → WR g b) : Fm WI WR WA S (sR S' g b v) := fun a ha => by
  obtain ⟨q1, q2, q3, q4, q5, q6⟩ := h a ha
  refine ⟨q1, q2, q3, q4, fun f hf => ?_, q6⟩
  rw [hR_sR, if_neg]
  · exact q5 f hf
  · rintro ⟨rfl, rfl⟩
    exact hf (hw ha)
theorem Fm.tI (h : Fm WI WR WA S S') {b : Nat} (i : Nat) (v : Int32) (hw : b ∈ hL S → WA b) : Fm WI WR WA S (tI S' b i v) := fun a ha => by
  obtain ⟨q1, q2, q3, q4, q5, q6⟩ := h a ha
  refine ⟨q1, q2, q3, q4, q5, fun hf j => ⟨?_, (q6 hf j).2⟩⟩
  rw [aI_tI, if_neg]
  · exact (q6 hf j).1
  · rintro ⟨rfl, rfl⟩
    exact hf (hw ha)
theorem Fm.tJ (h : Fm WI WR WA S S') {b : Nat} (i : Nat) (v : Int64) (hw : b ∈ hL S → WA b) : Fm WI WR WA S (tJ S' b i v) := fun a ha => by
  obtain ⟨q1, q2, q3, q4, q5, q6⟩ := h a ha
  refine ⟨q1, q2, q3, q4, q5, fun hf j => ⟨(q6 hf j).1, ?_, (q6 hf j).2.2⟩⟩
  rw [aJ_tJ, if_neg]
  · exact (q6 hf j).2.1
  · rintro ⟨rfl, rfl⟩
    exact hf (hw ha)
theorem Fm.tR (h : Fm WI WR WA S S') {b : Nat} (i : Nat) (v : Option Nat) (hw : b ∈ hL S → WA b) : Fm WI WR WA S (tR S' b i v) := fun a ha => by
  obtain ⟨q1, q2, q3, q4, q5, q6⟩ := h a ha
  refine ⟨q1, q2, q3, q4, q5, fun hf j => ⟨(q6 hf j).1, (q6 hf j).2.1, ?_⟩⟩
  rw [aR_tR, if_neg]
  · exact (q6 hf j).2.2
  · rintro ⟨rfl, rfl⟩
    exact hf (hw ha)
theorem Fm.rI (h : Fm WI WR WA S S') {b : Nat} (v : Nat → Int32) (hw : b ∈ hL S → WA b) : Fm WI WR WA S (rI S' b v) := fun a ha => by
  obtain ⟨q1, q2, q3, q4, q5, q6⟩ := h a ha
  refine ⟨q1, q2, q3, q4, q5, fun hf j => ⟨?_, (q6 hf j).2⟩⟩
  rw [aI_rI, if_neg]
  · exact (q6 hf j).1
  · rintro rfl
    exact hf (hw ha)
theorem Fm.nO (h : Fm WI WR WA S S') {b : Nat} (k : Nat) (hb : b ∉ hL S') : Fm WI WR WA S (nO S' b k) := fun a ha => by
  obtain ⟨q1, q2, q3, q4, q5, q6⟩ := h a ha
  have e : a ≠ b := fun e => hb (e ▸ q1)
  refine ⟨List.mem_append_left _ q1, ?_, q3, fun f hf => ⟨?_, ?_⟩, fun f hf => ?_, q6⟩
  · rw [hK_nO, if_neg e]; exact q2
  · rw [hI_nO, if_neg e]; exact (q4 f hf).1
  · rw [hJ_nO, if_neg e]; exact (q4 f hf).2
  · rw [hR_nO, if_neg e]; exact q5 f hf
theorem Fm.nA (h : Fm WI WR WA S S') {b : Nat} (k n : Nat) (hb : b ∉ hL S') : Fm WI WR WA S (nA S' b k n) := fun a ha => by
  obtain ⟨q1, q2, q3, q4, q5, q6⟩ := h a ha
  have e : a ≠ b := fun e => hb (e ▸ q1)
  refine ⟨List.mem_append_left _ q1, ?_, ?_, q4, q5, fun hf j => ⟨?_, ?_, ?_⟩⟩
  · rw [hK_nA, if_neg e]; exact q2
  · rw [hN_nA, if_neg e]; exact q3
  · rw [aI_nA, if_neg e]; exact (q6 hf j).1
  · rw [aJ_nA, if_neg e]; exact (q6 hf j).2.1
  · rw [aR_nA, if_neg e]; exact (q6 hf j).2.2
end FRM
/-- what stands behind a new cell -/
theorem mem_old {l : List Nat} {a q : Nat} (h : a ∈ l) : a ∈ l ++ [q] := List.mem_append_left _ h
theorem mem_new {l : List Nat} {q : Nat} : q ∈ l ++ [q] := List.mem_append_right _ (List.mem_singleton.mpr rfl)
theorem kd_nO {S : Hp} {a q k c : Nat} (hq : q ∉ hL S) (ha : a ∈ hL S) (h : hK S a = c) : hK (nO S q k) a = c := by
  rw [hK_nO, if_neg (fun e : a = q => hq (e ▸ ha))]; exact h
theorem kd_nO' {S : Hp} {q k : Nat} : hK (nO S q k) q = k := by rw [hK_nO, if_pos rfl]
theorem kd_nA {S : Hp} {a q k n c : Nat} (hq : q ∉ hL S) (ha : a ∈ hL S) (h : hK S a = c) : hK (nA S q k n) a = c := by
  rw [hK_nA, if_neg (fun e : a = q => hq (e ▸ ha))]; exact h
theorem kd_nA' {S : Hp} {q k n : Nat} : hK (nA S q k n) q = k := by rw [hK_nA, if_pos rfl]
theorem ln_nA {S : Hp} {a q k n c : Nat} (hq : q ∉ hL S) (ha : a ∈ hL S) (h : hN S a = c) : hN (nA S q k n) a = c := by
  rw [hN_nA, if_neg (fun e : a = q => hq (e ▸ ha))]; exact h
theorem ln_nA' {S : Hp} {q k n : Nat} : hN (nA S q k n) q = n := by rw [hN_nA, if_pos rfl]
theorem rd_sI {S : Hp} {g a : Nat} {v : Int32} : hI (sI S g a v) g a = v := if_pos ⟨rfl, rfl⟩
theorem rd_sIf {S : Hp} {g a x b : Nat} {v c : Int32} (h : x ≠ g) (hc : hI S x b = c) : hI (sI S g a v) x b = c := (if_neg (fun q => h q.1)).trans hc
theorem rd_sIa {S : Hp} {g a x b : Nat} {v c : Int32} (h : b ≠ a) (hc : hI S x b = c) : hI (sI S g a v) x b = c := (if_neg (fun q => h q.2)).trans hc
theorem rd_sJ {S : Hp} {g a : Nat} {v : Int64} : hJ (sJ S g a v) g a = v := if_pos ⟨rfl, rfl⟩
theorem rd_sJf {S : Hp} {g a x b : Nat} {v c : Int64} (h : x ≠ g) (hc : hJ S x b = c) : hJ (sJ S g a v) x b = c := (if_neg (fun q => h q.1)).trans hc
theorem rd_sJa {S : Hp} {g a x b : Nat} {v c : Int64} (h : b ≠ a) (hc : hJ S x b = c) : hJ (sJ S g a v) x b = c := (if_neg (fun q => h q.2)).trans hc
theorem rd_sR {S : Hp} {g a : Nat} {v : Option Nat} : hR (sR S g a v) g a = v := if_pos ⟨rfl, rfl⟩
theorem rd_sRf {S : Hp} {g a x b : Nat} {v c : Option Nat} (h : x ≠ g) (hc : hR S x b = c) : hR (sR S g a v) x b = c := (if_neg (fun q => h q.1)).trans hc
theorem rd_sRa {S : Hp} {g a x b : Nat} {v c : Option Nat} (h : b ≠ a) (hc : hR S x b = c) : hR (sR S g a v) x b = c := (if_neg (fun q => h q.2)).trans hc
theorem rd_nOI {S : Hp} {q k f a : Nat} {c : Int32} (hq : q ∉ hL S) (ha : a ∈ hL S) (h : hI S f a = c) : hI (nO S q k) f a = c := (if_neg (fun e : a = q => hq (e ▸ ha))).trans h
theorem rd_nOJ {S : Hp} {q k f a : Nat} {c : Int64} (hq : q ∉ hL S) (ha : a ∈ hL S) (h : hJ S f a = c) : hJ (nO S q k) f a = c := (if_neg (fun e : a = q => hq (e ▸ ha))).trans h
theorem rd_nOR {S : Hp} {q k f a : Nat} {c : Option Nat} (hq : q ∉ hL S) (ha : a ∈ hL S) (h : hR S f a = c) : hR (nO S q k) f a = c := (if_neg (fun e : a = q => hq (e ▸ ha))).trans h
theorem rd_nOI' {S : Hp} {q k f : Nat} : hI (nO S q k) f q = 0 := if_pos rfl
theorem rd_nOJ' {S : Hp} {q k f : Nat} : hJ (nO S q k) f q = 0 := if_pos rfl
theorem rd_nOR' {S : Hp} {q k f : Nat} : hR (nO S q k) f q = none := if_pos rfl
theorem rd_nAI {S : Hp} {q k n j a : Nat} {c : Int32} (hq : q ∉ hL S) (ha : a ∈ hL S) (h : aI S a j = c) : aI (nA S q k n) a j = c := by
  rw [aI_nA, if_neg (fun e : a = q => hq (e ▸ ha))]; exact h
theorem rd_nAR {S : Hp} {q k n j a : Nat} {c : Option Nat} (hq : q ∉ hL S) (ha : a ∈ hL S) (h : aR S a j = c) : aR (nA S q k n) a j = c := by
  rw [aR_nA, if_neg (fun e : a = q => hq (e ▸ ha))]; exact h
theorem rd_nAI' {S : Hp} {q k n j : Nat} : aI (nA S q k n) q j = 0 := by rw [aI_nA, if_pos rfl]
theorem rd_nAR' {S : Hp} {q k n j : Nat} : aR (nA S q k n) q j = none := by rw [aR_nA, if_pos rfl]
theorem rd_tIa {S : Hp} {a b j i : Nat} {v c : Int32} (h : a ≠ b) (hc : aI S a i = c) : aI (tI S b j v) a i = c := (if_neg (fun q => h q.1)).trans hc
theorem rd_tIj {S : Hp} {a j i : Nat} {v c : Int32} (h : i ≠ j) (hc : aI S a i = c) : aI (tI S a j v) a i = c := (if_neg (fun q => h q.2)).trans hc
theorem rd_rIa {S : Hp} {a b i : Nat} {f : Nat → Int32} {c : Int32} (h : a ≠ b) (hc : aI S a i = c) : aI (rI S b f) a i = c := by
  rw [aI_rI, if_neg h]; exact hc
theorem fill_step {S : Hp} {a i : Nat} {v : Int32} (h : ∀ j, j < i → aI S a j = v) (j : Nat) (hj : j < i + 1) : aI (tI S a i v) a j = v := by
  rw [aI_tI]
  by_cases e : j = i
  · rw [if_pos ⟨rfl, e⟩]
  · rw [if_neg (fun q => e q.2)]
    exact h j (by omega)
theorem inr_of {S : Hp} {a n : Nat} {i : Int32} (h : hN S a = n) (h2 : vp_in i n) : vp_in i (hN S a) := by rw [h]; exact h2
theorem len_of {S : Hp} {a n : Nat} {v : Int32} (h : hN S a = n) (h2 : Int32.ofNat n = v) : Int32.ofNat (hN S a) = v := by rw [h]; exact h2
theorem vp_lit {i : Int32} {n : Nat} (h : ¬ (i < 0 ∨ n ≤ i.toNatClampNeg)) : vp_in i n := h
theorem vp_ge {i : Int32} {n : Nat} {m : Int32} (h0 : ¬ i < 0) (h1 : ¬ m ≤ i) (hm : m = nI n := by rfl) (hn : n < 2 ^ 31 := by decide) : vp_in i n := by
  rcases pk_ix i hn with h | h | ⟨j, hj, e⟩
  · exact absurd h h0
  · exact absurd (by rw [hm]; exact h) h1
  · rw [e]
    exact vp_in_nI hj hn
theorem CM.cells {x : JX} {d K0 N0 k : Nat} {ret : Option FieldType} {S0 : Hp} {Q : Option Value → Hp → Prop} (M : CM x d K0 N0 ret S0 Q) (h : k ≤ K0) : k ≤ (x_R x).cells := by rw [M.1]; exact h
theorem CM.slots {x : JX} {d K0 N0 k : Nat} {ret : Option FieldType} {S0 : Hp} {Q : Option Value → Hp → Prop} (M : CM x d K0 N0 ret S0 Q) (h : k ≤ N0) : k ≤ (x_R x).slots := by rw [M.1]; exact h
theorem CM.fl {x : JX} {d K0 N0 : Nat} {ret : Option FieldType} {S0 : Hp} {Q : Option Value → Hp → Prop} (M : CM x d K0 N0 ret S0 Q) (h : 1 ≤ d) : 1 ≤ (x_R x).frames ∧ 20 ≤ (x_R x).locals := by
  rw [M.1]
  exact ⟨h, show 20 ≤ 40 * d by omega⟩
def notOi : Cond → Bool
  | .methodLinkNest _ _ y _ => !(decide (y.cls = "java/lang/Object"))
  | _ => true
set_option maxRecDepth 100000 in
theorem nst_oi_tab : NST.all notOi = true := by decide +kernel
theorem nst_oi {own : String} {idx : Nat} : ∀ host, Cond.methodLinkNest own idx Lib.objectInit host ∉ NST := fun host h => by
  have := List.all_eq_true.mp nst_oi_tab _ h
  exact Bool.noConfusion (show false = true from this)
theorem gx_Environment {x : JX} {own : String} {cc : ByteArray} (C : CB x own cc) : va_AO "PrinterHouse$Environment" (x_s x) := C.2.2.2.2.2.2.2.2.2.2.2.2.2.1
theorem gx_Reading {x : JX} {own : String} {cc : ByteArray} (C : CB x own cc) : va_AO "PrinterHouse$Reading" (x_s x) := C.2.2.2.2.2.2.2.2.2.2.2.2.2.2.1
theorem gx_Tile {x : JX} {own : String} {cc : ByteArray} (C : CB x own cc) : va_AO "PrinterHouse$Tile" (x_s x) := C.2.2.2.2.2.2.2.2.2.2.2.2.2.2.2.1
theorem gx_rows {x : JX} {own : String} {cc : ByteArray} (C : CB x own cc) : va_AOA .int (x_s x) := C.2.2.2.2.2.2.2.2.2.2.2.2.2.2.2.2.1
theorem ne_of_nin {l : List Nat} {a q : Nat} (hq : q ∉ l) (ha : a ∈ l) : a ≠ q := fun e => hq (e ▸ ha)
end
section
/-- an array of rows and its rows -/
def nM (S : Hp) (q : Nat) (rs : List Nat) (N K : Nat) : Hp := (q :: (hL S ++ rs), (fun a => if a = q then 21 else if a ∈ rs then 14 else hK S a), hI S, hJ S, hR S, (fun a => if a = q then N else if a ∈ rs then K else hN S a), (fun a => if a ∈ rs then (fun _ => 0) else aI S a), aJ S, (fun a => if a = q then (fun i => rs[i]?) else aR S a))
/-- what is known of a new array of rows -/
def Rows (S S' : Hp) (q N K : Nat) : Prop := (∀ i, i < N → ∃ y, aR S' q i = some y ∧ y ∉ hL S ∧ y ∈ hL S' ∧ Kd S' y 14 ∧ Ln S' y K ∧ ∀ j, aI S' y j = 0) ∧ ∀ i j y, i < N → j < N → aR S' q i = some y → aR S' q j = some y → i = j
theorem nM_q {cy : Nat → ClassId} {S : Hp} {q : Nat} {rs : List Nat} {N K : Nat} : pf cy (nM S q rs N K) q = .inl (cy 21, N, .inr (.inr (.inr (.inr (fun i => rs[i]?))))) := by
  have h : hK (nM S q rs N K) q = 21 := if_pos rfl
  rw [pf_R h (by decide)]
  have h1 : hN (nM S q rs N K) q = N := if_pos rfl
  have h2 : aR (nM S q rs N K) q = fun i => rs[i]? := if_pos rfl
  rw [h1, h2]
theorem nM_r {cy : Nat → ClassId} {S : Hp} {q a : Nat} {rs : List Nat} {N K : Nat} (hq : a ≠ q) (ha : a ∈ rs) : pf cy (nM S q rs N K) a = .inl (cy 14, K, .inl (fun _ => 0)) := by
  have h : hK (nM S q rs N K) a = 14 := (if_neg hq).trans (if_pos ha)
  rw [pf_I h (by decide) (by decide) (by decide)]
  have h1 : hN (nM S q rs N K) a = K := (if_neg hq).trans (if_pos ha)
  have h2 : aI (nM S q rs N K) a = fun _ => 0 := if_pos ha
  rw [h1, h2]
theorem nM_o {cy : Nat → ClassId} {S : Hp} {q a : Nat} {rs : List Nat} {N K : Nat} (hq : a ≠ q) (ha : a ∉ rs) : pf cy S a = pf cy (nM S q rs N K) a :=
  pf_off ((if_neg hq).trans (if_neg ha)) ((if_neg hq).trans (if_neg ha)) (fun _ => rfl) (fun _ => rfl) (fun _ => rfl) (if_neg ha) rfl (if_neg hq)
theorem Fm_nM {WI WR : Nat → Nat → Prop} {WA : Nat → Prop} {S : Hp} {q : Nat} {rs : List Nat} {N K : Nat} (hq : q ∉ hL S) (hr : ∀ a, a ∈ rs → a ∉ hL S) : Fm WI WR WA S (nM S q rs N K) := fun a ha => by
  have e : a ≠ q := fun e => hq (e ▸ ha)
  have e2 : a ∉ rs := fun h => hr a h ha
  refine ⟨List.mem_cons_of_mem _ (List.mem_append_left _ ha), (if_neg e).trans (if_neg e2), (if_neg e).trans (if_neg e2), fun f _ => ⟨rfl, rfl⟩, fun f _ => rfl, fun _ j => ⟨?_, rfl, ?_⟩⟩
  · exact congrFun (if_neg e2 : aI (nM S q rs N K) a = aI S a) j
  · exact congrFun (if_neg e : aR (nM S q rs N K) a = aR S a) j
theorem inner_int (c : ClassId) (K : Nat) : Jvm.Free.Multi.innerC c K (defaultValue .int) = vp_cell c (K, .inl (fun _ => 0)) := by
  show ({ cls := c, slots := Array.replicate K (.int 0), vm := .none } : Cell) = _
  rw [arrV_new]
  rfl
section JRM
variable {x : JX} {own : String} {cc : ByteArray} {k n pc tgt : Nat} {S : Hp} {lv : List (Nat × Value)} {st : List Value}
theorem j_mna (C : CB x own cc) {idx N K : Nat} {u v : Int32} (hkl : Cond.classLink own idx "[[I" ∈ TBL) (hu : ¬ u < 0) (hv : ¬ v < 0) (hN' : u.toNatClampNeg = N) (hK' : v.toNatClampNeg = K) (hb1 : N * 4 ≤ 536870912) (hb2 : K * 4 ≤ 536870912) (hk : k + (1 + N) ≤ (x_R x).cells) (hn : n + (N + N * K) ≤ (x_R x).slots) (dc : decode cc pc = .ok (.multianewarray idx 2, 4)) (ha : Cond.arrayClass .int ∈ TBL)
    (KK : ∀ (q : Nat) (S' : Hp), q ∉ hL S → Fm (fun _ _ => False) (fun _ _ => False) (fun _ => False) S S' → q ∈ hL S' → Kd S' q 21 → Ln S' q N → Rows S S' q N K → J x (k + 1 + N) (n + N + N * K) S' lv (pc + 4) (.ref q :: st)) : J x k n S lv pc (.int v :: .int u :: st) := fun H locs ls hP hD hS hl => by
  have hcy : (x_s x).vm.findClass (FieldType.array .int).toString = some ((x_v x).2.1 14) := by
    have := (C.2.2.2.2.2.2.1.2 1 _ (rfl : (TY (x_v x).2.1)[1]? = some ((x_v x).2.1 14, .int))).2
    exact this
  refine va_mna (X := []) (L := hL S) (f := pf (x_v x).2.1 S) (ty := .int) (z := (K, .inl (fun _ => 0))) C.1 C.2.1 C.2.2.2.1 (C.2.2.2.2.1 _ hkl) (gx_rows C) (C.2.2.2.2.1 _ ha) hcy C.2.2.2.2.2.2.1 hP hD hS C.2.2.2.2.2.1 hu hv hN' hK' hb1 hb2 (by omega) rfl rfl hk hn (fun c => inner_int c K) dc (fun q r cA H1 hinj hfr hK1 hP1 hD1 hS1 => ?_)
  have e := cy_prim (t := 8) (kd := 21) C.2.2.2.2.2.2.1 rfl (fun _ h => by cases h) hK1
  subst e
  have hq : q ∉ hL S ++ (List.range N).map r := fun h => by
    have h2 : ∃ j, (va_pl (hL S ++ (List.range N).map r) (vr_up (pf (x_v x).2.1 S) ((List.range N).map r) (.inl ((x_v x).2.1 14, (K, .inl (fun _ => 0))))))[j]? = some (q, vr_up (pf (x_v x).2.1 S) ((List.range N).map r) (.inl ((x_v x).2.1 14, (K, .inl (fun _ => 0)))) q) := va_pl_get (X := []) h
    obtain ⟨j, hj⟩ := h2
    exact absurd (hD1.1 0 (j + 1) (q, _) (q, _) rfl hj rfl) (by omega)
  have hq1 : q ∉ hL S := fun h => hq (List.mem_append_left _ h)
  have hq2 : q ∉ (List.range N).map r := fun h => hq (List.mem_append_right _ h)
  have hrs : ∀ a, a ∈ (List.range N).map r → a ∉ hL S := fun a h => by
    obtain ⟨i, hi, rfl⟩ := List.mem_map.mp h
    exact hfr i (List.mem_range.mp hi)
  have hget : ∀ i, ((List.range N).map r)[i]? = if i < N then some (r i) else none := fun i => by
    by_cases h : i < N <;> simp [h]
  have hpl : ([] ++ [(q, (.inl ((x_v x).2.1 21, N, .inr (.inr (.inr (.inr (fun i => if i < N then some (r i) else none))))) : va_E))]) ++ va_pl (hL S ++ (List.range N).map r) (vr_up (pf (x_v x).2.1 S) ((List.range N).map r) (.inl ((x_v x).2.1 14, (K, .inl (fun _ => 0))))) = pl (x_v x).2.1 (nM S q ((List.range N).map r) N K) := by
    show (q, _) :: va_pl (hL S ++ (List.range N).map r) _ = (q, pf (x_v x).2.1 (nM S q ((List.range N).map r) N K) q) :: va_pl (hL S ++ (List.range N).map r) (pf (x_v x).2.1 (nM S q ((List.range N).map r) N K))
    rw [nM_q]
    congr 1
    · simp only [hget]
    · unfold va_pl
      refine List.map_congr_left fun a ha => ?_
      have e : a ≠ q := fun e => hq (e ▸ ha)
      by_cases h : a ∈ (List.range N).map r
      · rw [vr_up_in h, nM_r e h]
      · rw [vr_up_ne h, nM_o e h]
  rw [hpl] at hP1 hD1
  refine KK q _ hq1 (Fm_nM hq1 hrs) List.mem_cons_self (if_pos rfl) (if_pos rfl) ⟨fun i hi => ⟨r i, ?_, hfr i hi, ?_, ?_, ?_, ?_⟩, fun i j y hi hj h1 h2 => ?_⟩ H1 locs ls hP1 hD1 hS1 hl
  · show (if q = q then (fun i => ((List.range N).map r)[i]?) else aR S q) i = _
    rw [if_pos rfl]
    exact (hget i).trans (if_pos hi)
  · exact List.mem_cons_of_mem _ (List.mem_append_right _ (List.mem_map.mpr ⟨i, List.mem_range.mpr hi, rfl⟩))
  · have hm : r i ∈ (List.range N).map r := List.mem_map.mpr ⟨i, List.mem_range.mpr hi, rfl⟩
    exact (if_neg (fun e : r i = q => hq2 (e ▸ hm))).trans (if_pos hm)
  · have hm : r i ∈ (List.range N).map r := List.mem_map.mpr ⟨i, List.mem_range.mpr hi, rfl⟩
    exact (if_neg (fun e : r i = q => hq2 (e ▸ hm))).trans (if_pos hm)
  · intro j
    have hm : r i ∈ (List.range N).map r := List.mem_map.mpr ⟨i, List.mem_range.mpr hi, rfl⟩
    exact congrFun (if_pos hm : aI (nM S q ((List.range N).map r) N K) (r i) = fun _ => 0) j
  · have g1 : aR (nM S q ((List.range N).map r) N K) q i = some (r i) := by
      show (if q = q then (fun i => ((List.range N).map r)[i]?) else aR S q) i = _
      rw [if_pos rfl]
      exact (hget i).trans (if_pos hi)
    have g2 : aR (nM S q ((List.range N).map r) N K) q j = some (r j) := by
      show (if q = q then (fun i => ((List.range N).map r)[i]?) else aR S q) j = _
      rw [if_pos rfl]
      exact (hget j).trans (if_pos hj)
    exact hinj i j hi hj (Option.some.inj ((g1.symm.trans h1).trans (h2.symm.trans g2)))
end JRM
end
section
section JRS
variable {x : JX} {own : String} {cc : ByteArray} {k n pc tgt : Nat} {S : Hp} {lv : List (Nat × Value)} {st : List Value}
theorem tx_ok (C : CB x own cc) : GXs (x_v x) (x_A x) (x_s x) (x_s x).heap := C.2.2.2.2.2.2.2.2.2
theorem j_getsZ (C : CB x own cc) {idx : Nat} (F : Cond.fieldLink own idx "java/lang/String" "COMPACT_STRINGS" "Z" ∈ TBL) (d : decode cc pc = .ok (.getstatic idx, 3)) (K : J x k n S lv (pc + 3) (.int 1 :: st)) : J x k n S lv pc st := fun H locs ls hP hD hS hl =>
  va_gets C.1 C.2.1 (tx_ok C).1 hS C.2.2.2.1 (C.2.2.2.2.1 _ F) (fun _ h => h) d (K H locs ls hP hD hS hl)
theorem j_getsF (C : CB x own cc) {idx : Nat} (F : Cond.fieldLink own idx "jdk/internal/util/Preconditions" "SIOOBE_FORMATTER" "Ljava/util/function/BiFunction;" ∈ TBL) (d : decode cc pc = .ok (.getstatic idx, 3)) (K : ∀ z : Value, z = .null ∨ (∃ t, z = .ref t) → J x k n S lv (pc + 3) (z :: st)) : J x k n S lv pc st := fun H locs ls hP hD hS hl => by
  rcases (tx_ok C).2.2.2.2.2.2.2.2 with h | ⟨t, h⟩
  · exact va_gets C.1 C.2.1 h hS C.2.2.2.1 (C.2.2.2.2.1 _ F) (fun _ h => h) d (K .null (Or.inl rfl) H locs ls hP hD hS hl)
  · exact va_gets C.1 C.2.1 h hS C.2.2.2.1 (C.2.2.2.2.1 _ F) (fun _ h => h) d (K (.ref t) (Or.inr ⟨t, rfl⟩) H locs ls hP hD hS hl)
theorem j_strval (C : CB x own cc) {idx i : Nat} (hi : i < 2) (F : Cond.fieldLink own idx "java/lang/String" "value" "[B" ∈ TBL) (d : decode cc pc = .ok (.getfield idx, 3)) (K : J x k n S lv (pc + 3) (.ref ((x_v x).2.2 (30 + i)) :: st)) : J x k n S lv pc (.ref ((x_v x).2.2 (20 + i)) :: st) := fun H locs ls hP hD hS hl =>
  vk_getf C.1 C.2.1 ((tx_ok C).2.1.1 i hi).2.2.1 hS C.2.2.2.1 (C.2.2.2.2.1 _ F) (fun _ h => h) d (K H locs ls hP hD hS hl)
theorem j_strcod (C : CB x own cc) {idx i : Nat} (hi : i < 2) (F : Cond.fieldLink own idx "java/lang/String" "coder" "B" ∈ TBL) (d : decode cc pc = .ok (.getfield idx, 3)) (K : J x k n S lv (pc + 3) (.int 0 :: st)) : J x k n S lv pc (.ref ((x_v x).2.2 (20 + i)) :: st) := fun H locs ls hP hD hS hl =>
  vk_getf C.1 C.2.1 ((tx_ok C).2.1.1 i hi).2.1 hS C.2.2.2.1 (C.2.2.2.2.1 _ F) (fun _ h => h) d (K H locs ls hP hD hS hl)
theorem j_strlen (C : CB x own cc) {i : Nat} {v : Int32} (hi : i < 2) (hv : Int32.ofNat (txLen.getD i 0) = v) (d : decode cc pc = .ok (.arraylength, 1)) (K : J x k n S lv (pc + 1) (.int v :: st)) : J x k n S lv pc (.ref ((x_v x).2.2 (30 + i)) :: st) := fun H locs ls hP hD hS hl =>
  va_tlen C.1 C.2.1 ((tx_ok C).2.1.1 i hi).2.2.2 hS hv d (K H locs ls hP hD hS hl)
theorem j_strld (C : CB x own cc) {i : Nat} {j v : Int32} (hi : i < 2) (hj : vp_in j (txLen.getD i 0)) (hv : (txB.getD i []).getD j.toNatClampNeg 0 = v) (d : decode cc pc = .ok (.baload, 1)) (K : J x k n S lv (pc + 1) (.int v :: st)) : J x k n S lv pc (.int j :: .ref ((x_v x).2.2 (30 + i)) :: st) := fun H locs ls hP hD hS hl =>
  va_tb C.1 C.2.1 ((tx_ok C).2.1.1 i hi).2.2.2 hS hj (by rw [hv]) d (K H locs ls hP hD hS hl)
theorem j_ldcwS (C : CB x own cc) {idx q : Nat} {tx : String} (hZ : vk_R own idx tx q (x_s x)) (d : decode cc pc = .ok (.ldc_w idx, 3)) (K : J x k n S lv (pc + 3) (.ref q :: st)) : J x k n S lv pc st := fun H locs ls hP hD hS hl => by
  intro T hT X
  obtain ⟨t, a1, b1⟩ := K H locs ls hP hD hS hl T hT X
  exact ⟨t, X.ldcStringW C.1 C.2.2.2.1 (text := tx) (a := q) hZ.1 hZ.2 (g := F0 (x_m x) pc ls st) rfl (by rw [C.2.1]; exact d) t a1, b1⟩
theorem j_i2c (C : CB x own cc) {a v : Int32} (d : decode cc pc = .ok (.i2c, 1)) (hv : (a.toUInt32 % 65536).toInt32 = v) (K : J x k n S lv (pc + 1) (.int v :: st)) : J x k n S lv pc (.int a :: st) := fun H locs ls hP hD hS hl => lv_i2c C.1 C.2.1 d hv (K H locs ls hP hD hS hl)
theorem st_recv (C : CB x own cc) {i : Nat} (hi : i < 2) : ∀ (H : Heap) (locs : List Loc), va_S (x_A x) (x_s x).heap H locs → ∃ cell : Cell, H[(x_v x).2.2 (20 + i)]? = some cell ∧ cell.vm.isStatics = false ∧ (x_s x).vm.findClass "java/lang/String" = some cell.cls := fun H locs hS => vk_recv (i := i) (tx_ok C).2.1 hi hS
end JRS

theorem dJ0_coder_7d493_0 : decode cJ0_coder_7d493 0 = .ok (.getstatic 38, 3) := by decide +kernel
theorem dJ0_coder_7d493_3 : decode cJ0_coder_7d493 3 = .ok (.ifCond .eq 10, 3) := by decide +kernel
theorem dJ0_coder_7d493_6 : decode cJ0_coder_7d493 6 = .ok (.aload_n 0, 1) := by decide +kernel
theorem dJ0_coder_7d493_7 : decode cJ0_coder_7d493 7 = .ok (.getfield 15, 3) := by decide +kernel
theorem dJ0_coder_7d493_10 : decode cJ0_coder_7d493 10 = .ok (.goto 4, 3) := by decide +kernel
theorem dJ0_coder_7d493_13 : decode cJ0_coder_7d493 13 = .ok (.iconst 1, 1) := by decide +kernel
theorem dJ0_coder_7d493_14 : decode cJ0_coder_7d493 14 = .ok (.ireturn, 1) := by decide +kernel

theorem dJ0_length_8abf5_0 : decode cJ0_length_8abf5 0 = .ok (.aload_n 0, 1) := by decide +kernel
theorem dJ0_length_8abf5_1 : decode cJ0_length_8abf5 1 = .ok (.getfield 9, 3) := by decide +kernel
theorem dJ0_length_8abf5_4 : decode cJ0_length_8abf5 4 = .ok (.arraylength, 1) := by decide +kernel
theorem dJ0_length_8abf5_5 : decode cJ0_length_8abf5 5 = .ok (.aload_n 0, 1) := by decide +kernel
theorem dJ0_length_8abf5_6 : decode cJ0_length_8abf5 6 = .ok (.invokevirtual 335, 3) := by decide +kernel
theorem dJ0_length_8abf5_9 : decode cJ0_length_8abf5 9 = .ok (.ishr, 1) := by decide +kernel
theorem dJ0_length_8abf5_10 : decode cJ0_length_8abf5 10 = .ok (.ireturn, 1) := by decide +kernel

theorem dJ0_isLatin1_aae02_0 : decode cJ0_isLatin1_aae02 0 = .ok (.getstatic 38, 3) := by decide +kernel
theorem dJ0_isLatin1_aae02_3 : decode cJ0_isLatin1_aae02 3 = .ok (.ifCond .eq 14, 3) := by decide +kernel
theorem dJ0_isLatin1_aae02_6 : decode cJ0_isLatin1_aae02 6 = .ok (.aload_n 0, 1) := by decide +kernel
theorem dJ0_isLatin1_aae02_7 : decode cJ0_isLatin1_aae02 7 = .ok (.getfield 15, 3) := by decide +kernel
theorem dJ0_isLatin1_aae02_10 : decode cJ0_isLatin1_aae02 10 = .ok (.ifCond .ne 7, 3) := by decide +kernel
theorem dJ0_isLatin1_aae02_13 : decode cJ0_isLatin1_aae02 13 = .ok (.iconst 1, 1) := by decide +kernel
theorem dJ0_isLatin1_aae02_14 : decode cJ0_isLatin1_aae02 14 = .ok (.goto 4, 3) := by decide +kernel
theorem dJ0_isLatin1_aae02_17 : decode cJ0_isLatin1_aae02 17 = .ok (.iconst 0, 1) := by decide +kernel
theorem dJ0_isLatin1_aae02_18 : decode cJ0_isLatin1_aae02 18 = .ok (.ireturn, 1) := by decide +kernel

theorem dJ0_charAt_5068e_0 : decode cJ0_charAt_5068e 0 = .ok (.aload_n 0, 1) := by decide +kernel
theorem dJ0_charAt_5068e_1 : decode cJ0_charAt_5068e 1 = .ok (.invokevirtual 492, 3) := by decide +kernel
theorem dJ0_charAt_5068e_4 : decode cJ0_charAt_5068e 4 = .ok (.ifCond .eq 12, 3) := by decide +kernel
theorem dJ0_charAt_5068e_7 : decode cJ0_charAt_5068e 7 = .ok (.aload_n 0, 1) := by decide +kernel
theorem dJ0_charAt_5068e_8 : decode cJ0_charAt_5068e 8 = .ok (.getfield 9, 3) := by decide +kernel
theorem dJ0_charAt_5068e_11 : decode cJ0_charAt_5068e 11 = .ok (.iload_n 1, 1) := by decide +kernel
theorem dJ0_charAt_5068e_12 : decode cJ0_charAt_5068e 12 = .ok (.invokestatic 495, 3) := by decide +kernel
theorem dJ0_charAt_5068e_15 : decode cJ0_charAt_5068e 15 = .ok (.ireturn, 1) := by decide +kernel
theorem dJ0_charAt_5068e_16 : decode cJ0_charAt_5068e 16 = .ok (.aload_n 0, 1) := by decide +kernel
theorem dJ0_charAt_5068e_17 : decode cJ0_charAt_5068e 17 = .ok (.getfield 9, 3) := by decide +kernel
theorem dJ0_charAt_5068e_20 : decode cJ0_charAt_5068e 20 = .ok (.iload_n 1, 1) := by decide +kernel
theorem dJ0_charAt_5068e_21 : decode cJ0_charAt_5068e 21 = .ok (.invokestatic 498, 3) := by decide +kernel
theorem dJ0_charAt_5068e_24 : decode cJ0_charAt_5068e 24 = .ok (.ireturn, 1) := by decide +kernel

theorem dJ1_charAt_3b067_0 : decode cJ1_charAt_3b067 0 = .ok (.iload_n 1, 1) := by decide +kernel
theorem dJ1_charAt_3b067_1 : decode cJ1_charAt_3b067 1 = .ok (.aload_n 0, 1) := by decide +kernel
theorem dJ1_charAt_3b067_2 : decode cJ1_charAt_3b067 2 = .ok (.arraylength, 1) := by decide +kernel
theorem dJ1_charAt_3b067_3 : decode cJ1_charAt_3b067 3 = .ok (.invokestatic 9, 3) := by decide +kernel
theorem dJ1_charAt_3b067_6 : decode cJ1_charAt_3b067 6 = .ok (.aload_n 0, 1) := by decide +kernel
theorem dJ1_charAt_3b067_7 : decode cJ1_charAt_3b067 7 = .ok (.iload_n 1, 1) := by decide +kernel
theorem dJ1_charAt_3b067_8 : decode cJ1_charAt_3b067 8 = .ok (.baload, 1) := by decide +kernel
theorem dJ1_charAt_3b067_9 : decode cJ1_charAt_3b067 9 = .ok (.sipush 255, 3) := by decide +kernel
theorem dJ1_charAt_3b067_12 : decode cJ1_charAt_3b067 12 = .ok (.iand, 1) := by decide +kernel
theorem dJ1_charAt_3b067_13 : decode cJ1_charAt_3b067 13 = .ok (.i2c, 1) := by decide +kernel
theorem dJ1_charAt_3b067_14 : decode cJ1_charAt_3b067 14 = .ok (.ireturn, 1) := by decide +kernel

theorem dJ0_checkIndex_df160_0 : decode cJ0_checkIndex_df160 0 = .ok (.iload_n 0, 1) := by decide +kernel
theorem dJ0_checkIndex_df160_1 : decode cJ0_checkIndex_df160 1 = .ok (.iload_n 1, 1) := by decide +kernel
theorem dJ0_checkIndex_df160_2 : decode cJ0_checkIndex_df160 2 = .ok (.getstatic 1053, 3) := by decide +kernel
theorem dJ0_checkIndex_df160_5 : decode cJ0_checkIndex_df160 5 = .ok (.invokestatic 1059, 3) := by decide +kernel
theorem dJ0_checkIndex_df160_8 : decode cJ0_checkIndex_df160 8 = .ok (.pop, 1) := by decide +kernel
theorem dJ0_checkIndex_df160_9 : decode cJ0_checkIndex_df160 9 = .ok (.return_, 1) := by decide +kernel

theorem dJ3_checkIndex_8e157_0 : decode cJ3_checkIndex_8e157 0 = .ok (.iload_n 0, 1) := by decide +kernel
theorem dJ3_checkIndex_8e157_1 : decode cJ3_checkIndex_8e157 1 = .ok (.ifCond .lt 8, 3) := by decide +kernel
theorem dJ3_checkIndex_8e157_4 : decode cJ3_checkIndex_8e157 4 = .ok (.iload_n 0, 1) := by decide +kernel
theorem dJ3_checkIndex_8e157_5 : decode cJ3_checkIndex_8e157 5 = .ok (.iload_n 1, 1) := by decide +kernel
theorem dJ3_checkIndex_8e157_6 : decode cJ3_checkIndex_8e157 6 = .ok (.if_icmp .lt 10, 3) := by decide +kernel
theorem dJ3_checkIndex_8e157_9 : decode cJ3_checkIndex_8e157 9 = .ok (.aload_n 2, 1) := by decide +kernel
theorem dJ3_checkIndex_8e157_10 : decode cJ3_checkIndex_8e157 10 = .ok (.iload_n 0, 1) := by decide +kernel
theorem dJ3_checkIndex_8e157_11 : decode cJ3_checkIndex_8e157 11 = .ok (.iload_n 1, 1) := by decide +kernel
theorem dJ3_checkIndex_8e157_12 : decode cJ3_checkIndex_8e157 12 = .ok (.invokestatic 95, 3) := by decide +kernel
theorem dJ3_checkIndex_8e157_15 : decode cJ3_checkIndex_8e157 15 = .ok (.athrow, 1) := by decide +kernel
theorem dJ3_checkIndex_8e157_16 : decode cJ3_checkIndex_8e157 16 = .ok (.iload_n 0, 1) := by decide +kernel
theorem dJ3_checkIndex_8e157_17 : decode cJ3_checkIndex_8e157 17 = .ok (.ireturn, 1) := by decide +kernel

theorem sc_nar' (z : Int32) : narrow .char (.int (z.toUInt32 % 65536).toInt32) = .int (z.toUInt32 % 65536).toInt32 := pk_nc z
set_option maxRecDepth 100000 in
set_option maxHeartbeats 4000000 in
theorem c_coder (v : EV) (S : Hp) (i : Nat) (hi : i < 2) : CtA v 1 yJ0_coder_7d493 cJ0_coder_7d493 1 (some .byte) 0 0 [.ref (v.2.2 (20 + i))] S (fun r S' => r = some (.int 0) ∧ S' = S) := by
  refine ct_ofA (by decide) (Nat.le_of_ble_eq_true rfl) fun x hv9 hn9 C M hm9 => ?_
  subst hv9
  have C : CB x RJ0 cJ0_coder_7d493 := C

  refine J.eq (lv' := [(0, .ref ((x_v x).2.2 (20 + i)))]) rfl rfl rfl ?_
  refine j_getsZ C gsJ0_38 dJ0_coder_7d493_0 ?_
  refine j_if_eq (tgt := 13) C dJ0_coder_7d493_3 (by decide) (fun c9 => absurd c9 (by decide)) (fun c9 => ?_)
  refine j_aload_n C dJ0_coder_7d493_6 rfl 0 rfl ?_
  refine j_strcod C hi gsJ0_15 dJ0_coder_7d493_7 ?_
  refine j_goto (tgt := 14) C dJ0_coder_7d493_10 (by decide) ?_
  exact j_zret C M rfl dJ0_coder_7d493_14 (by decide) (by decide) ⟨rfl, rfl⟩

set_option maxRecDepth 100000 in
set_option maxHeartbeats 4000000 in
theorem c_isLatin1 (v : EV) (S : Hp) (i : Nat) (hi : i < 2) : CtA v 1 yJ0_isLatin1_aae02 cJ0_isLatin1_aae02 1 (some .boolean) 0 0 [.ref (v.2.2 (20 + i))] S (fun r S' => r = some (.int 1) ∧ S' = S) := by
  refine ct_ofA (by decide) (Nat.le_of_ble_eq_true rfl) fun x hv9 hn9 C M hm9 => ?_
  subst hv9
  have C : CB x RJ0 cJ0_isLatin1_aae02 := C

  refine J.eq (lv' := [(0, .ref ((x_v x).2.2 (20 + i)))]) rfl rfl rfl ?_
  refine j_getsZ C gsJ0_38 dJ0_isLatin1_aae02_0 ?_
  refine j_if_eq (tgt := 17) C dJ0_isLatin1_aae02_3 (by decide) (fun c9 => absurd c9 (by decide)) (fun c9 => ?_)
  refine j_aload_n C dJ0_isLatin1_aae02_6 rfl 0 rfl ?_
  refine j_strcod C hi gsJ0_15 dJ0_isLatin1_aae02_7 ?_
  refine j_if_ne (tgt := 17) C dJ0_isLatin1_aae02_10 (by decide) (fun c9 => absurd rfl c9) (fun c9 => ?_)
  refine j_iconst (v := 1) C dJ0_isLatin1_aae02_13 (by decide) ?_
  refine j_goto (tgt := 18) C dJ0_isLatin1_aae02_14 (by decide) ?_
  exact j_zret C M rfl dJ0_isLatin1_aae02_18 (by decide) (by decide) ⟨rfl, rfl⟩

set_option maxRecDepth 100000 in
set_option maxHeartbeats 4000000 in
theorem c_length (v : EV) (S : Hp) (i : Nat) (hi : i < 2) (hz : nI (txLen.getD i 0) >>> ((0 : Int32) &&& 31) = nI (txLen.getD i 0)) : CtA v 2 yJ0_length_8abf5 cJ0_length_8abf5 1 (some .int) 0 0 [.ref (v.2.2 (20 + i))] S (fun r S' => r = some (.int (nI (txLen.getD i 0))) ∧ S' = S) := by
  refine ct_ofA (by decide) (Nat.le_of_ble_eq_true rfl) fun x hv9 hn9 C M hm9 => ?_
  subst hv9
  have C : CB x RJ0 cJ0_length_8abf5 := C

  refine J.eq (lv' := [(0, .ref ((x_v x).2.2 (20 + i)))]) rfl rfl rfl ?_
  refine j_aload_n C dJ0_length_8abf5_0 rfl 0 rfl ?_
  refine j_strval C hi gsJ0_9 dJ0_length_8abf5_1 ?_
  refine j_strlen (v := nI (txLen.getD i 0)) C hi rfl dJ0_length_8abf5_4 ?_
  refine j_aload_n C dJ0_length_8abf5_5 rfl 0 rfl ?_
  refine j_callVX C [] [.int (nI (txLen.getD i 0))] mlJ0_335 mcJ0_coder_7d493 (c_coder (x_v x) S i hi) (st_recv C hi) (M.rm (by decide) (by decide) (Nat.le_of_ble_eq_true rfl) (Nat.le_of_ble_eq_true rfl)) rfl rfl (Nat.le_of_ble_eq_true rfl) dJ0_length_8abf5_6 (fun r1 S1 h1 => ?_)
  obtain ⟨rfl, rfl⟩ := h1
  refine J.eq (st' := [.int 0, .int (nI (txLen.getD i 0))]) rfl rfl rfl ?_
  refine j_ishr (v := nI (txLen.getD i 0)) C dJ0_length_8abf5_9 hz ?_
  exact j_iret C M dJ0_length_8abf5_10 (by decide) (by decide) ⟨rfl, rfl⟩

set_option maxRecDepth 100000 in
set_option maxHeartbeats 4000000 in
theorem c_pck_n (v : EV) (S : Hp) (a b : Int32) (h0 : ¬ a < 0) (h1 : a < b) : CtA v 1 yJ3_checkIndex_8e157 cJ3_checkIndex_8e157 3 (some .int) 0 0 [.int a, .int b, .null] S (fun r S' => r = some (.int a) ∧ S' = S) := by
  refine ct_ofA (by decide) (Nat.le_of_ble_eq_true rfl) fun x hv9 hn9 C M hm9 => ?_
  subst hv9
  have C : CB x RJ3 cJ3_checkIndex_8e157 := C

  refine J.eq (lv' := [(0, .int a), (1, .int b), (2, .null)]) rfl rfl rfl ?_
  refine j_iload_n C dJ3_checkIndex_8e157_0 rfl 0 rfl ?_
  refine j_if_lt (tgt := 9) C dJ3_checkIndex_8e157_1 (by decide) (fun c9 => absurd c9 h0) (fun c9 => ?_)
  refine j_iload_n C dJ3_checkIndex_8e157_4 rfl 0 rfl ?_
  refine j_iload_n C dJ3_checkIndex_8e157_5 rfl 1 rfl ?_
  refine j_ic_lt (tgt := 16) C dJ3_checkIndex_8e157_6 (by decide) (fun c9 => ?_) (fun c9 => absurd h1 c9)
  refine j_iload_n C dJ3_checkIndex_8e157_16 rfl 0 rfl ?_
  exact j_iret C M dJ3_checkIndex_8e157_17 (by decide) (by decide) ⟨rfl, rfl⟩

set_option maxRecDepth 100000 in
set_option maxHeartbeats 4000000 in
theorem c_pck_r (v : EV) (S : Hp) (a b : Int32) (t : Nat) (h0 : ¬ a < 0) (h1 : a < b) : CtA v 1 yJ3_checkIndex_8e157 cJ3_checkIndex_8e157 3 (some .int) 0 0 [.int a, .int b, .ref t] S (fun r S' => r = some (.int a) ∧ S' = S) := by
  refine ct_ofA (by decide) (Nat.le_of_ble_eq_true rfl) fun x hv9 hn9 C M hm9 => ?_
  subst hv9
  have C : CB x RJ3 cJ3_checkIndex_8e157 := C

  refine J.eq (lv' := [(0, .int a), (1, .int b), (2, .ref t)]) rfl rfl rfl ?_
  refine j_iload_n C dJ3_checkIndex_8e157_0 rfl 0 rfl ?_
  refine j_if_lt (tgt := 9) C dJ3_checkIndex_8e157_1 (by decide) (fun c9 => absurd c9 h0) (fun c9 => ?_)
  refine j_iload_n C dJ3_checkIndex_8e157_4 rfl 0 rfl ?_
  refine j_iload_n C dJ3_checkIndex_8e157_5 rfl 1 rfl ?_
  refine j_ic_lt (tgt := 16) C dJ3_checkIndex_8e157_6 (by decide) (fun c9 => ?_) (fun c9 => absurd h1 c9)
  refine j_iload_n C dJ3_checkIndex_8e157_16 rfl 0 rfl ?_
  exact j_iret C M dJ3_checkIndex_8e157_17 (by decide) (by decide) ⟨rfl, rfl⟩

set_option maxRecDepth 100000 in
set_option maxHeartbeats 4000000 in
theorem c_ck (v : EV) (S : Hp) (a b : Int32) (h0 : ¬ a < 0) (h1 : a < b) : CtA v 2 yJ0_checkIndex_df160 cJ0_checkIndex_df160 2 none 0 0 [.int a, .int b] S (fun r S' => r = none ∧ S' = S) := by
  refine ct_ofA (by decide) (Nat.le_of_ble_eq_true rfl) fun x hv9 hn9 C M hm9 => ?_
  subst hv9
  have C : CB x RJ0 cJ0_checkIndex_df160 := C

  refine J.eq (lv' := [(0, .int a), (1, .int b)]) rfl rfl rfl ?_
  refine j_iload_n C dJ0_checkIndex_df160_0 rfl 0 rfl ?_
  refine j_iload_n C dJ0_checkIndex_df160_1 rfl 1 rfl ?_
  refine j_getsF C gsJ0_1053 dJ0_checkIndex_df160_2 (fun z hz => ?_)
  rcases hz with rfl | ⟨t, rfl⟩

  · refine j_callSA C [.int a, .int b, .null] [] mlJ0_1059 mcJ3_checkIndex_8e157 (c_pck_n (x_v x) S a b h0 h1) (M.rm (by decide) (by decide) (Nat.le_of_ble_eq_true rfl) (Nat.le_of_ble_eq_true rfl)) rfl rfl (Nat.le_of_ble_eq_true rfl) dJ0_checkIndex_df160_5 (fun r1 S1 h1 => ?_)
    obtain ⟨rfl, rfl⟩ := h1
    refine J.eq (st' := [.int a]) rfl rfl rfl ?_
    refine j_pop C dJ0_checkIndex_df160_8 rfl ?_
    exact j_vret C M dJ0_checkIndex_df160_9 (by decide) (by decide) ⟨rfl, rfl⟩

  · refine j_callSA C [.int a, .int b, .ref t] [] mlJ0_1059 mcJ3_checkIndex_8e157 (c_pck_r (x_v x) S a b t h0 h1) (M.rm (by decide) (by decide) (Nat.le_of_ble_eq_true rfl) (Nat.le_of_ble_eq_true rfl)) rfl rfl (Nat.le_of_ble_eq_true rfl) dJ0_checkIndex_df160_5 (fun r1 S1 h1 => ?_)
    obtain ⟨rfl, rfl⟩ := h1
    refine J.eq (st' := [.int a]) rfl rfl rfl ?_
    refine j_pop C dJ0_checkIndex_df160_8 rfl ?_
    exact j_vret C M dJ0_checkIndex_df160_9 (by decide) (by decide) ⟨rfl, rfl⟩

/-- the char at place k of text i -/
def chv (i k : Nat) : Int32 := (((txB.getD i []).getD k 0 &&& 255).toUInt32 % 65536).toInt32

set_option maxRecDepth 100000 in
set_option maxHeartbeats 4000000 in
theorem c_charAt1 (v : EV) (S : Hp) (i k0 : Nat) (hi : i < 2) (hk : k0 < txLen.getD i 0) (hl : txLen.getD i 0 < 2 ^ 31) : CtA v 3 yJ1_charAt_3b067 cJ1_charAt_3b067 2 (some .char) 0 0 [.ref (v.2.2 (30 + i)), .int (nI k0)] S (fun r S' => r = some (.int (chv i k0)) ∧ S' = S) := by
  refine ct_ofA (by decide) (Nat.le_of_ble_eq_true rfl) fun x hv9 hn9 C M hm9 => ?_
  subst hv9
  have C : CB x RJ1 cJ1_charAt_3b067 := C

  refine J.eq (lv' := [(0, .ref ((x_v x).2.2 (30 + i))), (1, .int (nI k0))]) rfl rfl rfl ?_
  refine j_iload_n C dJ1_charAt_3b067_0 rfl 1 rfl ?_
  refine j_aload_n C dJ1_charAt_3b067_1 rfl 0 rfl ?_
  refine j_strlen (v := nI (txLen.getD i 0)) C hi rfl dJ1_charAt_3b067_2 ?_
  refine j_callSA C [.int (nI k0), .int (nI (txLen.getD i 0))] [] mlJ1_9 mcJ0_checkIndex_df160 (c_ck (x_v x) S _ _ (nI_pos (by omega)) (nI_lt hk hl)) (M.rm (by decide) (by decide) (Nat.le_of_ble_eq_true rfl) (Nat.le_of_ble_eq_true rfl)) rfl rfl (Nat.le_of_ble_eq_true rfl) dJ1_charAt_3b067_3 (fun r1 S1 h1 => ?_)
  obtain ⟨rfl, rfl⟩ := h1
  refine J.eq (st' := []) rfl rfl rfl ?_
  refine j_aload_n C dJ1_charAt_3b067_6 rfl 0 rfl ?_
  refine j_iload_n C dJ1_charAt_3b067_7 rfl 1 rfl ?_
  refine j_strld (v := (txB.getD i []).getD k0 0) C hi (vp_in_nI hk hl) (by rw [nI_clamp (by omega)]) dJ1_charAt_3b067_8 ?_
  refine j_sipush (v := 255) C dJ1_charAt_3b067_9 (by decide) ?_
  refine j_iand C dJ1_charAt_3b067_12 rfl ?_
  refine j_i2c (v := chv i k0) C dJ1_charAt_3b067_13 rfl ?_
  exact j_zret C M (sc_nar' _) dJ1_charAt_3b067_14 (by decide) (by decide) ⟨rfl, rfl⟩

set_option maxRecDepth 100000 in
set_option maxHeartbeats 4000000 in
theorem c_charAt (v : EV) (S : Hp) (i k0 : Nat) (hi : i < 2) (hk : k0 < txLen.getD i 0) (hl : txLen.getD i 0 < 2 ^ 31) : CtA v 4 yJ0_charAt_5068e cJ0_charAt_5068e 2 (some .char) 0 0 [.ref (v.2.2 (20 + i)), .int (nI k0)] S (fun r S' => r = some (.int (chv i k0)) ∧ S' = S) := by
  refine ct_ofA (by decide) (Nat.le_of_ble_eq_true rfl) fun x hv9 hn9 C M hm9 => ?_
  subst hv9
  have C : CB x RJ0 cJ0_charAt_5068e := C

  refine J.eq (lv' := [(0, .ref ((x_v x).2.2 (20 + i))), (1, .int (nI k0))]) rfl rfl rfl ?_
  refine j_aload_n C dJ0_charAt_5068e_0 rfl 0 rfl ?_
  refine j_callVX C [] [] mlJ0_492 mcJ0_isLatin1_aae02 (c_isLatin1 (x_v x) S i hi) (st_recv C hi) (M.rm (by decide) (by decide) (Nat.le_of_ble_eq_true rfl) (Nat.le_of_ble_eq_true rfl)) rfl rfl (Nat.le_of_ble_eq_true rfl) dJ0_charAt_5068e_1 (fun r1 S1 h1 => ?_)
  obtain ⟨rfl, rfl⟩ := h1
  refine J.eq (st' := [.int 1]) rfl rfl rfl ?_
  refine j_if_eq (tgt := 16) C dJ0_charAt_5068e_4 (by decide) (fun c9 => absurd c9 (by decide)) (fun c9 => ?_)
  refine j_aload_n C dJ0_charAt_5068e_7 rfl 0 rfl ?_
  refine j_strval C hi gsJ0_9 dJ0_charAt_5068e_8 ?_
  refine j_iload_n C dJ0_charAt_5068e_11 rfl 1 rfl ?_
  refine j_callSA C [.ref ((x_v x).2.2 (30 + i)), .int (nI k0)] [] mlJ0_495 mcJ1_charAt_3b067 (c_charAt1 (x_v x) S1 i k0 hi hk hl) (M.rm (by decide) (by decide) (Nat.le_of_ble_eq_true rfl) (Nat.le_of_ble_eq_true rfl)) rfl rfl (Nat.le_of_ble_eq_true rfl) dJ0_charAt_5068e_12 (fun r1 S1 h1 => ?_)
  obtain ⟨rfl, rfl⟩ := h1
  refine J.eq (st' := [.int (chv i k0)]) rfl rfl rfl ?_
  exact j_zret C M (sc_nar' _) dJ0_charAt_5068e_15 (by decide) (by decide) ⟨rfl, rfl⟩
end
section
theorem dX11_feedNumber_0 : decode cX11_feedNumber 0 = .ok (.bipush 24, 2) := by decide +kernel
theorem dX11_feedNumber_2 : decode cX11_feedNumber 2 = .ok (.istore_n 2, 1) := by decide +kernel
theorem dX11_feedNumber_3 : decode cX11_feedNumber 3 = .ok (.iload_n 2, 1) := by decide +kernel
theorem dX11_feedNumber_4 : decode cX11_feedNumber 4 = .ok (.ifCond .lt 51, 3) := by decide +kernel
theorem dX11_feedNumber_7 : decode cX11_feedNumber 7 = .ok (.aload_n 0, 1) := by decide +kernel
theorem dX11_feedNumber_8 : decode cX11_feedNumber 8 = .ok (.getfield 53, 3) := by decide +kernel
theorem dX11_feedNumber_11 : decode cX11_feedNumber 11 = .ok (.ifCond .lt 38, 3) := by decide +kernel
theorem dX11_feedNumber_14 : decode cX11_feedNumber 14 = .ok (.aload_n 0, 1) := by decide +kernel
theorem dX11_feedNumber_15 : decode cX11_feedNumber 15 = .ok (.getfield 53, 3) := by decide +kernel
theorem dX11_feedNumber_18 : decode cX11_feedNumber 18 = .ok (.aload_n 0, 1) := by decide +kernel
theorem dX11_feedNumber_19 : decode cX11_feedNumber 19 = .ok (.getfield 9, 3) := by decide +kernel
theorem dX11_feedNumber_22 : decode cX11_feedNumber 22 = .ok (.arraylength, 1) := by decide +kernel
theorem dX11_feedNumber_23 : decode cX11_feedNumber 23 = .ok (.if_icmp .ge 26, 3) := by decide +kernel
theorem dX11_feedNumber_26 : decode cX11_feedNumber 26 = .ok (.aload_n 0, 1) := by decide +kernel
theorem dX11_feedNumber_27 : decode cX11_feedNumber 27 = .ok (.getfield 9, 3) := by decide +kernel
theorem dX11_feedNumber_30 : decode cX11_feedNumber 30 = .ok (.aload_n 0, 1) := by decide +kernel
theorem dX11_feedNumber_31 : decode cX11_feedNumber 31 = .ok (.getfield 53, 3) := by decide +kernel
theorem dX11_feedNumber_34 : decode cX11_feedNumber 34 = .ok (.iload_n 1, 1) := by decide +kernel
theorem dX11_feedNumber_35 : decode cX11_feedNumber 35 = .ok (.iload_n 2, 1) := by decide +kernel
theorem dX11_feedNumber_36 : decode cX11_feedNumber 36 = .ok (.ishr, 1) := by decide +kernel
theorem dX11_feedNumber_37 : decode cX11_feedNumber 37 = .ok (.i2b, 1) := by decide +kernel
theorem dX11_feedNumber_38 : decode cX11_feedNumber 38 = .ok (.bastore, 1) := by decide +kernel
theorem dX11_feedNumber_39 : decode cX11_feedNumber 39 = .ok (.aload_n 0, 1) := by decide +kernel
theorem dX11_feedNumber_40 : decode cX11_feedNumber 40 = .ok (.dup, 1) := by decide +kernel
theorem dX11_feedNumber_41 : decode cX11_feedNumber 41 = .ok (.getfield 53, 3) := by decide +kernel
theorem dX11_feedNumber_44 : decode cX11_feedNumber 44 = .ok (.iconst 1, 1) := by decide +kernel
theorem dX11_feedNumber_45 : decode cX11_feedNumber 45 = .ok (.iadd, 1) := by decide +kernel
theorem dX11_feedNumber_46 : decode cX11_feedNumber 46 = .ok (.putfield 53, 3) := by decide +kernel
theorem dX11_feedNumber_49 : decode cX11_feedNumber 49 = .ok (.iinc 2 (-8), 3) := by decide +kernel
theorem dX11_feedNumber_52 : decode cX11_feedNumber 52 = .ok (.goto (-49), 3) := by decide +kernel
theorem dX11_feedNumber_55 : decode cX11_feedNumber 55 = .ok (.return_, 1) := by decide +kernel
set_option maxRecDepth 100000 in
set_option maxHeartbeats 4000000 in
theorem c_X11_feedNumber (S : Hp) (h : Nat) (hm : h ∈ hL S) (hk : hK S h = 11) (t : Nat) (rt : hR S 1100 h = some t) (mt : t ∈ hL S) (kt : Kd S t 13) (lt : Ln S t 8000) (v : Int32) (n0 : Nat) (ht : hI S 1101 h = nI n0) (hle : n0 + 4 ≤ 8000) : Ct 1 yX11_feedNumber cX11_feedNumber 3 none 0 0 [.ref h, .int v] S (fun r S' => r = none ∧ Fm (fun f9 b9 => (f9 = 1101 ∧ b9 = h)) (fun _ _ => False) (fun b9 => b9 = t) S S' ∧ hI S' 1101 h = nI (n0 + 4)) := by
  refine ct_of (by decide) (Nat.le_of_ble_eq_true rfl) fun x hn9 C M hm9 => ?_
  have C : CB x RX11 cX11_feedNumber := C
  refine J.eq (lv' := [(0, .ref h), (1, .int v)]) rfl rfl rfl ?_
  refine j_bipush (v := 24) C dX11_feedNumber_0 (by decide) ?_
  refine j_istore_n (lv' := [(2, .int 24), (0, .ref h), (1, .int v)]) C dX11_feedNumber_2 rfl (by rw [hn9]; decide) rfl ?_
  refine j_iload_n C dX11_feedNumber_3 rfl 0 rfl ?_
  refine j_if_lt (tgt := 55) C dX11_feedNumber_4 (by decide) (fun c9 => absurd c9 (by decide)) (fun c9 => ?_)
  refine j_aload_n C dX11_feedNumber_7 rfl 1 rfl ?_
  refine j_geti (f := 1101) (v := nI n0) C flX11_53 dX11_feedNumber_8 hm hk (by decide) (by decide) rfl ht ?_
  refine j_if_lt (tgt := 49) C dX11_feedNumber_11 (by decide) (fun c_11 => absurd c_11 (nI_pos (by omega))) (fun c_11 => ?_)
  refine j_aload_n C dX11_feedNumber_14 rfl 1 rfl ?_
  show J _ _ _ _ _ 15 _
  refine j_geti (f := 1101) (v := nI n0) C flX11_53 dX11_feedNumber_15 hm hk (by decide) (by decide) rfl ht ?_
  refine j_aload_n C dX11_feedNumber_18 rfl 1 rfl ?_
  refine j_getr (f := 1100) (v := t) C flX11_9 dX11_feedNumber_19 hm hk (by decide) rfl rt ?_
  refine j_alen (v := 8000) C dX11_feedNumber_22 mt kt (by decide) (by decide) (len_of (n := 8000) lt (by decide)) ?_
  refine j_ic_ge (tgt := 49) C dX11_feedNumber_23 (by decide) (fun c_23 => absurd c_23 (nI_ge (b := 8000) (by omega) (by omega))) (fun c_23 => ?_)
  refine j_aload_n C dX11_feedNumber_26 rfl 1 rfl ?_
  refine j_getr (f := 1100) (v := t) C flX11_9 dX11_feedNumber_27 hm hk (by decide) rfl rt ?_
  refine j_aload_n C dX11_feedNumber_30 rfl 1 rfl ?_
  show J _ _ _ _ _ 31 _
  refine j_geti (f := 1101) (v := nI n0) C flX11_53 dX11_feedNumber_31 hm hk (by decide) (by decide) rfl ht ?_
  refine j_iload_n C dX11_feedNumber_34 rfl 2 rfl ?_
  refine j_iload_n C dX11_feedNumber_35 rfl 0 rfl ?_
  refine j_ishr C dX11_feedNumber_36 rfl ?_
  refine j_i2b C dX11_feedNumber_37 rfl ?_
  refine j_bast (j := n0) C dX11_feedNumber_38 mt kt (inr_of (n := 8000) lt (vp_in_nI (by omega) (by omega))) (nI_clamp (by omega)) ?_
  refine j_aload_n C dX11_feedNumber_39 rfl 1 rfl ?_
  refine j_dup C dX11_feedNumber_40 rfl ?_
  show J _ _ _ _ _ 41 _
  refine j_geti (f := 1101) (v := nI n0) C flX11_53 dX11_feedNumber_41 hm hk (by decide) (by decide) rfl ht ?_
  refine j_iconst (v := 1) C dX11_feedNumber_44 (by decide) ?_
  refine j_iadd (v := nI (n0 + 1)) C dX11_feedNumber_45 (nI_add n0 1) ?_
  refine j_puti (f := 1101) C flX11_53 (by decide) rfl rfl dX11_feedNumber_46 hm hk rfl ?_
  have hf_3 : Fm (fun f9 b9 => (f9 = 1101 ∧ b9 = h)) (fun _ _ => False) (fun b9 => b9 = t) S (sI (tI S t n0 (((v >>> (24 &&& 31)).toInt8.toInt32).toInt8.toInt32)) 1101 h (nI (n0 + 1))) := (((Fm.refl (WI := (fun f9 b9 => (f9 = 1101 ∧ b9 = h))) (WR := (fun _ _ => False)) (WA := (fun b9 => b9 = t))).tI _ _ (fun _ => rfl)).sI _ (fun _ => ⟨rfl, rfl⟩))
  obtain ⟨S_1, eS_2⟩ : ∃ S9 : Hp, S9 = (sI (tI S t n0 (((v >>> (24 &&& 31)).toInt8.toInt32).toInt8.toInt32)) 1101 h (nI (n0 + 1))) := ⟨_, rfl⟩
  refine J.eq (S' := S_1) eS_2.symm rfl rfl ?_
  have hm_4 : h ∈ hL S_1 := by rw [eS_2]; exact hm
  have hk_5 : Kd S_1 h 11 := by rw [eS_2]; exact hk
  have hm_6 : t ∈ hL S_1 := by rw [eS_2]; exact mt
  have hk_7 : Kd S_1 t 13 := by rw [eS_2]; exact kt
  have hn_8 : Ln S_1 t 8000 := by rw [eS_2]; exact lt
  have hv_9 : hI S_1 1101 h = nI (n0 + 1) := by rw [eS_2]; exact (rd_sI (S := (tI S t n0 (((v >>> (24 &&& 31)).toInt8.toInt32).toInt8.toInt32))) (g := 1101) (a := h) (v := nI (n0 + 1)))
  have hv_10 : hR S_1 1100 h = (some t) := by rw [eS_2]; exact rt
  have hf_11 : Fm (fun f9 b9 => (f9 = 1101 ∧ b9 = h)) (fun _ _ => False) (fun b9 => b9 = t) S S_1 := by rw [eS_2]; exact hf_3
  refine j_iinc (q := 0) (v := 16) (lv' := [(2, .int 16), (0, .ref h), (1, .int v)]) C dX11_feedNumber_49 rfl (by decide) (by rw [hn9]; decide) rfl ?_
  refine j_goto (tgt := 3) C dX11_feedNumber_52 (by decide) ?_
  refine j_iload_n C dX11_feedNumber_3 rfl 0 rfl ?_
  refine j_if_lt (tgt := 55) C dX11_feedNumber_4 (by decide) (fun c9 => absurd c9 (by decide)) (fun c9 => ?_)
  show J _ _ _ _ _ 7 _
  refine j_aload_n C dX11_feedNumber_7 rfl 1 rfl ?_
  refine j_geti (f := 1101) (v := nI (n0 + 1)) C flX11_53 dX11_feedNumber_8 hm_4 hk_5 (by decide) (by decide) rfl hv_9 ?_
  refine j_if_lt (tgt := 49) C dX11_feedNumber_11 (by decide) (fun c_11 => absurd c_11 (nI_pos (by omega))) (fun c_11 => ?_)
  refine j_aload_n C dX11_feedNumber_14 rfl 1 rfl ?_
  refine j_geti (f := 1101) (v := nI (n0 + 1)) C flX11_53 dX11_feedNumber_15 hm_4 hk_5 (by decide) (by decide) rfl hv_9 ?_
  refine j_aload_n C dX11_feedNumber_18 rfl 1 rfl ?_
  refine j_getr (f := 1100) (v := t) C flX11_9 dX11_feedNumber_19 hm_4 hk_5 (by decide) rfl hv_10 ?_
  refine j_alen (v := 8000) C dX11_feedNumber_22 hm_6 hk_7 (by decide) (by decide) (len_of (n := 8000) hn_8 (by decide)) ?_
  show J _ _ _ _ _ 23 _
  refine j_ic_ge (tgt := 49) C dX11_feedNumber_23 (by decide) (fun c_23 => absurd c_23 (nI_ge (b := 8000) (by omega) (by omega))) (fun c_23 => ?_)
  refine j_aload_n C dX11_feedNumber_26 rfl 1 rfl ?_
  refine j_getr (f := 1100) (v := t) C flX11_9 dX11_feedNumber_27 hm_4 hk_5 (by decide) rfl hv_10 ?_
  refine j_aload_n C dX11_feedNumber_30 rfl 1 rfl ?_
  refine j_geti (f := 1101) (v := nI (n0 + 1)) C flX11_53 dX11_feedNumber_31 hm_4 hk_5 (by decide) (by decide) rfl hv_9 ?_
  refine j_iload_n C dX11_feedNumber_34 rfl 2 rfl ?_
  refine j_iload_n C dX11_feedNumber_35 rfl 0 rfl ?_
  refine j_ishr C dX11_feedNumber_36 rfl ?_
  show J _ _ _ _ _ 37 _
  refine j_i2b C dX11_feedNumber_37 rfl ?_
  refine j_bast (j := (n0 + 1)) C dX11_feedNumber_38 hm_6 hk_7 (inr_of (n := 8000) hn_8 (vp_in_nI (by omega) (by omega))) (nI_clamp (by omega)) ?_
  refine j_aload_n C dX11_feedNumber_39 rfl 1 rfl ?_
  refine j_dup C dX11_feedNumber_40 rfl ?_
  refine j_geti (f := 1101) (v := nI (n0 + 1)) C flX11_53 dX11_feedNumber_41 hm_4 hk_5 (by decide) (by decide) rfl hv_9 ?_
  refine j_iconst (v := 1) C dX11_feedNumber_44 (by decide) ?_
  refine j_iadd (v := nI (n0 + 2)) C dX11_feedNumber_45 (nI_add (n0 + 1) 1) ?_
  refine j_puti (f := 1101) C flX11_53 (by decide) rfl rfl dX11_feedNumber_46 hm_4 hk_5 rfl ?_
  show J _ _ _ _ _ 49 _
  have hf_14 : Fm (fun f9 b9 => (f9 = 1101 ∧ b9 = h)) (fun _ _ => False) (fun b9 => b9 = t) S (sI (tI S_1 t (n0 + 1) (((v >>> (16 &&& 31)).toInt8.toInt32).toInt8.toInt32)) 1101 h (nI (n0 + 2))) := ((hf_11.tI _ _ (fun _ => rfl)).sI _ (fun _ => ⟨rfl, rfl⟩))
  obtain ⟨S_12, eS_13⟩ : ∃ S9 : Hp, S9 = (sI (tI S_1 t (n0 + 1) (((v >>> (16 &&& 31)).toInt8.toInt32).toInt8.toInt32)) 1101 h (nI (n0 + 2))) := ⟨_, rfl⟩
  refine J.eq (S' := S_12) eS_13.symm rfl rfl ?_
  have hm_15 : h ∈ hL S_12 := by rw [eS_13]; exact hm_4
  have hk_16 : Kd S_12 h 11 := by rw [eS_13]; exact hk_5
  have hm_17 : t ∈ hL S_12 := by rw [eS_13]; exact hm_6
  have hk_18 : Kd S_12 t 13 := by rw [eS_13]; exact hk_7
  have hn_19 : Ln S_12 t 8000 := by rw [eS_13]; exact hn_8
  have hv_20 : hI S_12 1101 h = nI (n0 + 2) := by rw [eS_13]; exact (rd_sI (S := (tI S_1 t (n0 + 1) (((v >>> (16 &&& 31)).toInt8.toInt32).toInt8.toInt32))) (g := 1101) (a := h) (v := nI (n0 + 2)))
  have hv_21 : hR S_12 1100 h = (some t) := by rw [eS_13]; exact hv_10
  have hf_22 : Fm (fun f9 b9 => (f9 = 1101 ∧ b9 = h)) (fun _ _ => False) (fun b9 => b9 = t) S S_12 := by rw [eS_13]; exact hf_14
  refine j_iinc (q := 0) (v := 8) (lv' := [(2, .int 8), (0, .ref h), (1, .int v)]) C dX11_feedNumber_49 rfl (by decide) (by rw [hn9]; decide) rfl ?_
  refine j_goto (tgt := 3) C dX11_feedNumber_52 (by decide) ?_
  refine j_iload_n C dX11_feedNumber_3 rfl 0 rfl ?_
  refine j_if_lt (tgt := 55) C dX11_feedNumber_4 (by decide) (fun c9 => absurd c9 (by decide)) (fun c9 => ?_)
  refine j_aload_n C dX11_feedNumber_7 rfl 1 rfl ?_
  refine j_geti (f := 1101) (v := nI (n0 + 2)) C flX11_53 dX11_feedNumber_8 hm_15 hk_16 (by decide) (by decide) rfl hv_20 ?_
  refine j_if_lt (tgt := 49) C dX11_feedNumber_11 (by decide) (fun c_11 => absurd c_11 (nI_pos (by omega))) (fun c_11 => ?_)
  refine j_aload_n C dX11_feedNumber_14 rfl 1 rfl ?_
  show J _ _ _ _ _ 15 _
  refine j_geti (f := 1101) (v := nI (n0 + 2)) C flX11_53 dX11_feedNumber_15 hm_15 hk_16 (by decide) (by decide) rfl hv_20 ?_
  refine j_aload_n C dX11_feedNumber_18 rfl 1 rfl ?_
  refine j_getr (f := 1100) (v := t) C flX11_9 dX11_feedNumber_19 hm_15 hk_16 (by decide) rfl hv_21 ?_
  refine j_alen (v := 8000) C dX11_feedNumber_22 hm_17 hk_18 (by decide) (by decide) (len_of (n := 8000) hn_19 (by decide)) ?_
  refine j_ic_ge (tgt := 49) C dX11_feedNumber_23 (by decide) (fun c_23 => absurd c_23 (nI_ge (b := 8000) (by omega) (by omega))) (fun c_23 => ?_)
  refine j_aload_n C dX11_feedNumber_26 rfl 1 rfl ?_
  refine j_getr (f := 1100) (v := t) C flX11_9 dX11_feedNumber_27 hm_15 hk_16 (by decide) rfl hv_21 ?_
  refine j_aload_n C dX11_feedNumber_30 rfl 1 rfl ?_
  show J _ _ _ _ _ 31 _
  refine j_geti (f := 1101) (v := nI (n0 + 2)) C flX11_53 dX11_feedNumber_31 hm_15 hk_16 (by decide) (by decide) rfl hv_20 ?_
  refine j_iload_n C dX11_feedNumber_34 rfl 2 rfl ?_
  refine j_iload_n C dX11_feedNumber_35 rfl 0 rfl ?_
  refine j_ishr C dX11_feedNumber_36 rfl ?_
  refine j_i2b C dX11_feedNumber_37 rfl ?_
  refine j_bast (j := (n0 + 2)) C dX11_feedNumber_38 hm_17 hk_18 (inr_of (n := 8000) hn_19 (vp_in_nI (by omega) (by omega))) (nI_clamp (by omega)) ?_
  refine j_aload_n C dX11_feedNumber_39 rfl 1 rfl ?_
  refine j_dup C dX11_feedNumber_40 rfl ?_
  show J _ _ _ _ _ 41 _
  refine j_geti (f := 1101) (v := nI (n0 + 2)) C flX11_53 dX11_feedNumber_41 hm_15 hk_16 (by decide) (by decide) rfl hv_20 ?_
  refine j_iconst (v := 1) C dX11_feedNumber_44 (by decide) ?_
  refine j_iadd (v := nI (n0 + 3)) C dX11_feedNumber_45 (nI_add (n0 + 2) 1) ?_
  refine j_puti (f := 1101) C flX11_53 (by decide) rfl rfl dX11_feedNumber_46 hm_15 hk_16 rfl ?_
  have hf_25 : Fm (fun f9 b9 => (f9 = 1101 ∧ b9 = h)) (fun _ _ => False) (fun b9 => b9 = t) S (sI (tI S_12 t (n0 + 2) (((v >>> (8 &&& 31)).toInt8.toInt32).toInt8.toInt32)) 1101 h (nI (n0 + 3))) := ((hf_22.tI _ _ (fun _ => rfl)).sI _ (fun _ => ⟨rfl, rfl⟩))
  obtain ⟨S_23, eS_24⟩ : ∃ S9 : Hp, S9 = (sI (tI S_12 t (n0 + 2) (((v >>> (8 &&& 31)).toInt8.toInt32).toInt8.toInt32)) 1101 h (nI (n0 + 3))) := ⟨_, rfl⟩
  refine J.eq (S' := S_23) eS_24.symm rfl rfl ?_
  have hm_26 : h ∈ hL S_23 := by rw [eS_24]; exact hm_15
  have hk_27 : Kd S_23 h 11 := by rw [eS_24]; exact hk_16
  have hm_28 : t ∈ hL S_23 := by rw [eS_24]; exact hm_17
  have hk_29 : Kd S_23 t 13 := by rw [eS_24]; exact hk_18
  have hn_30 : Ln S_23 t 8000 := by rw [eS_24]; exact hn_19
  have hv_31 : hI S_23 1101 h = nI (n0 + 3) := by rw [eS_24]; exact (rd_sI (S := (tI S_12 t (n0 + 2) (((v >>> (8 &&& 31)).toInt8.toInt32).toInt8.toInt32))) (g := 1101) (a := h) (v := nI (n0 + 3)))
  have hv_32 : hR S_23 1100 h = (some t) := by rw [eS_24]; exact hv_21
  have hf_33 : Fm (fun f9 b9 => (f9 = 1101 ∧ b9 = h)) (fun _ _ => False) (fun b9 => b9 = t) S S_23 := by rw [eS_24]; exact hf_25
  refine j_iinc (q := 0) (v := 0) (lv' := [(2, .int 0), (0, .ref h), (1, .int v)]) C dX11_feedNumber_49 rfl (by decide) (by rw [hn9]; decide) rfl ?_
  refine j_goto (tgt := 3) C dX11_feedNumber_52 (by decide) ?_
  refine j_iload_n C dX11_feedNumber_3 rfl 0 rfl ?_
  refine j_if_lt (tgt := 55) C dX11_feedNumber_4 (by decide) (fun c9 => absurd c9 (by decide)) (fun c9 => ?_)
  show J _ _ _ _ _ 7 _
  refine j_aload_n C dX11_feedNumber_7 rfl 1 rfl ?_
  refine j_geti (f := 1101) (v := nI (n0 + 3)) C flX11_53 dX11_feedNumber_8 hm_26 hk_27 (by decide) (by decide) rfl hv_31 ?_
  refine j_if_lt (tgt := 49) C dX11_feedNumber_11 (by decide) (fun c_11 => absurd c_11 (nI_pos (by omega))) (fun c_11 => ?_)
  refine j_aload_n C dX11_feedNumber_14 rfl 1 rfl ?_
  refine j_geti (f := 1101) (v := nI (n0 + 3)) C flX11_53 dX11_feedNumber_15 hm_26 hk_27 (by decide) (by decide) rfl hv_31 ?_
  refine j_aload_n C dX11_feedNumber_18 rfl 1 rfl ?_
  refine j_getr (f := 1100) (v := t) C flX11_9 dX11_feedNumber_19 hm_26 hk_27 (by decide) rfl hv_32 ?_
  refine j_alen (v := 8000) C dX11_feedNumber_22 hm_28 hk_29 (by decide) (by decide) (len_of (n := 8000) hn_30 (by decide)) ?_
  show J _ _ _ _ _ 23 _
  refine j_ic_ge (tgt := 49) C dX11_feedNumber_23 (by decide) (fun c_23 => absurd c_23 (nI_ge (b := 8000) (by omega) (by omega))) (fun c_23 => ?_)
  refine j_aload_n C dX11_feedNumber_26 rfl 1 rfl ?_
  refine j_getr (f := 1100) (v := t) C flX11_9 dX11_feedNumber_27 hm_26 hk_27 (by decide) rfl hv_32 ?_
  refine j_aload_n C dX11_feedNumber_30 rfl 1 rfl ?_
  refine j_geti (f := 1101) (v := nI (n0 + 3)) C flX11_53 dX11_feedNumber_31 hm_26 hk_27 (by decide) (by decide) rfl hv_31 ?_
  refine j_iload_n C dX11_feedNumber_34 rfl 2 rfl ?_
  refine j_iload_n C dX11_feedNumber_35 rfl 0 rfl ?_
  refine j_ishr C dX11_feedNumber_36 rfl ?_
  show J _ _ _ _ _ 37 _
  refine j_i2b C dX11_feedNumber_37 rfl ?_
  refine j_bast (j := (n0 + 3)) C dX11_feedNumber_38 hm_28 hk_29 (inr_of (n := 8000) hn_30 (vp_in_nI (by omega) (by omega))) (nI_clamp (by omega)) ?_
  refine j_aload_n C dX11_feedNumber_39 rfl 1 rfl ?_
  refine j_dup C dX11_feedNumber_40 rfl ?_
  refine j_geti (f := 1101) (v := nI (n0 + 3)) C flX11_53 dX11_feedNumber_41 hm_26 hk_27 (by decide) (by decide) rfl hv_31 ?_
  refine j_iconst (v := 1) C dX11_feedNumber_44 (by decide) ?_
  refine j_iadd (v := nI (n0 + 4)) C dX11_feedNumber_45 (nI_add (n0 + 3) 1) ?_
  refine j_puti (f := 1101) C flX11_53 (by decide) rfl rfl dX11_feedNumber_46 hm_26 hk_27 rfl ?_
  show J _ _ _ _ _ 49 _
  have hf_36 : Fm (fun f9 b9 => (f9 = 1101 ∧ b9 = h)) (fun _ _ => False) (fun b9 => b9 = t) S (sI (tI S_23 t (n0 + 3) (((v >>> (0 &&& 31)).toInt8.toInt32).toInt8.toInt32)) 1101 h (nI (n0 + 4))) := ((hf_33.tI _ _ (fun _ => rfl)).sI _ (fun _ => ⟨rfl, rfl⟩))
  obtain ⟨S_34, eS_35⟩ : ∃ S9 : Hp, S9 = (sI (tI S_23 t (n0 + 3) (((v >>> (0 &&& 31)).toInt8.toInt32).toInt8.toInt32)) 1101 h (nI (n0 + 4))) := ⟨_, rfl⟩
  refine J.eq (S' := S_34) eS_35.symm rfl rfl ?_
  have hm_37 : h ∈ hL S_34 := by rw [eS_35]; exact hm_26
  have hk_38 : Kd S_34 h 11 := by rw [eS_35]; exact hk_27
  have hm_39 : t ∈ hL S_34 := by rw [eS_35]; exact hm_28
  have hk_40 : Kd S_34 t 13 := by rw [eS_35]; exact hk_29
  have hn_41 : Ln S_34 t 8000 := by rw [eS_35]; exact hn_30
  have hv_42 : hI S_34 1101 h = nI (n0 + 4) := by rw [eS_35]; exact (rd_sI (S := (tI S_23 t (n0 + 3) (((v >>> (0 &&& 31)).toInt8.toInt32).toInt8.toInt32))) (g := 1101) (a := h) (v := nI (n0 + 4)))
  have hv_43 : hR S_34 1100 h = (some t) := by rw [eS_35]; exact hv_32
  have hf_44 : Fm (fun f9 b9 => (f9 = 1101 ∧ b9 = h)) (fun _ _ => False) (fun b9 => b9 = t) S S_34 := by rw [eS_35]; exact hf_36
  refine j_iinc (q := 0) (v := (-8)) (lv' := [(2, .int (-8)), (0, .ref h), (1, .int v)]) C dX11_feedNumber_49 rfl (by decide) (by rw [hn9]; decide) rfl ?_
  refine j_goto (tgt := 3) C dX11_feedNumber_52 (by decide) ?_
  refine j_iload_n C dX11_feedNumber_3 rfl 0 rfl ?_
  refine j_if_lt (tgt := 55) C dX11_feedNumber_4 (by decide) (fun c9 => ?_) (fun c9 => absurd (by decide) c9)
  exact j_vret C M dX11_feedNumber_55 (by decide) (by decide) ⟨rfl, hf_44, hv_42⟩
end
section
theorem dX8_count_0 : decode cX8_count 0 = .ok (.iconst 0, 1) := by decide +kernel
theorem dX8_count_1 : decode cX8_count 1 = .ok (.istore_n 1, 1) := by decide +kernel
theorem dX8_count_2 : decode cX8_count 2 = .ok (.iconst 0, 1) := by decide +kernel
theorem dX8_count_3 : decode cX8_count 3 = .ok (.istore_n 2, 1) := by decide +kernel
theorem dX8_count_4 : decode cX8_count 4 = .ok (.iload_n 2, 1) := by decide +kernel
theorem dX8_count_5 : decode cX8_count 5 = .ok (.bipush 16, 2) := by decide +kernel
theorem dX8_count_7 : decode cX8_count 7 = .ok (.if_icmp .ge 26, 3) := by decide +kernel
theorem dX8_count_10 : decode cX8_count 10 = .ok (.iload_n 1, 1) := by decide +kernel
theorem dX8_count_11 : decode cX8_count 11 = .ok (.aload_n 0, 1) := by decide +kernel
theorem dX8_count_12 : decode cX8_count 12 = .ok (.getfield 9, 3) := by decide +kernel
theorem dX8_count_15 : decode cX8_count 15 = .ok (.iload_n 2, 1) := by decide +kernel
theorem dX8_count_16 : decode cX8_count 16 = .ok (.iaload, 1) := by decide +kernel
theorem dX8_count_17 : decode cX8_count 17 = .ok (.ifCond .eq 7, 3) := by decide +kernel
theorem dX8_count_20 : decode cX8_count 20 = .ok (.iconst 1, 1) := by decide +kernel
theorem dX8_count_21 : decode cX8_count 21 = .ok (.goto 4, 3) := by decide +kernel
theorem dX8_count_24 : decode cX8_count 24 = .ok (.iconst 0, 1) := by decide +kernel
theorem dX8_count_25 : decode cX8_count 25 = .ok (.iadd, 1) := by decide +kernel
theorem dX8_count_26 : decode cX8_count 26 = .ok (.istore_n 1, 1) := by decide +kernel
theorem dX8_count_27 : decode cX8_count 27 = .ok (.iinc 2 1, 3) := by decide +kernel
theorem dX8_count_30 : decode cX8_count 30 = .ok (.goto (-26), 3) := by decide +kernel
theorem dX8_count_33 : decode cX8_count 33 = .ok (.iload_n 1, 1) := by decide +kernel
theorem dX8_count_34 : decode cX8_count 34 = .ok (.ireturn, 1) := by decide +kernel
set_option maxRecDepth 100000 in
set_option maxHeartbeats 4000000 in
theorem c_X8_count (S : Hp) (h : Nat) (hm : h ∈ hL S) (hk : hK S h = 8) (q : Nat) (rq : hR S 800 h = some q) (mq : q ∈ hL S) (kq : Kd S q 14) (lq : Ln S q 16) (zq : ∀ j, aI S q j = 0) : Ct 1 yX8_count cX8_count 3 (some .int) 0 0 [.ref h] S (fun r S' => r = some (.int 0) ∧ Fm (fun _ _ => False) (fun _ _ => False) (fun _ => False) S S') := by
  refine ct_of (by decide) (Nat.le_of_ble_eq_true rfl) fun x hn9 C M hm9 => ?_
  have C : CB x RX8 cX8_count := C
  refine J.eq (lv' := [(0, .ref h)]) rfl rfl rfl ?_
  refine j_iconst (v := 0) C dX8_count_0 (by decide) ?_
  refine j_istore_n (lv' := [(1, .int 0), (0, .ref h)]) C dX8_count_1 rfl (by rw [hn9]; decide) rfl ?_
  refine j_iconst (v := 0) C dX8_count_2 (by decide) ?_
  refine j_istore_n (lv' := [(2, .int 0), (1, .int 0), (0, .ref h)]) C dX8_count_3 rfl (by rw [hn9]; decide) rfl ?_
  refine j_iload_n C dX8_count_4 rfl 0 rfl ?_
  refine j_bipush (v := 16) C dX8_count_5 (by decide) ?_
  refine j_ic_ge (tgt := 33) C dX8_count_7 (by decide) (fun c9 => absurd c9 (by decide)) (fun c9 => ?_)
  refine j_iload_n C dX8_count_10 rfl 1 rfl ?_
  show J _ _ _ _ _ 11 _
  refine j_aload_n C dX8_count_11 rfl 2 rfl ?_
  refine j_getr (f := 800) (v := q) C flX8_9 dX8_count_12 hm hk (by decide) rfl rq ?_
  refine j_iload_n C dX8_count_15 rfl 0 rfl ?_
  refine j_iald (j := 0) (v := 0) C dX8_count_16 mq kq (inr_of (n := 16) lq (vp_lit (by decide))) (by decide) (zq 0) ?_
  refine j_if_eq (tgt := 24) C dX8_count_17 (by decide) (fun c9 => ?_) (fun c9 => absurd (by decide) c9)
  refine j_iconst (v := 0) C dX8_count_24 (by decide) ?_
  refine j_iadd (v := 0) C dX8_count_25 (by decide) ?_
  refine j_istore_n (lv' := [(1, .int 0), (2, .int 0), (0, .ref h)]) C dX8_count_26 rfl (by rw [hn9]; decide) rfl ?_
  show J _ _ _ _ _ 27 _
  refine j_iinc (q := 1) (v := 1) (lv' := [(2, .int 1), (1, .int 0), (0, .ref h)]) C dX8_count_27 rfl (by decide) (by rw [hn9]; decide) rfl ?_
  refine j_goto (tgt := 4) C dX8_count_30 (by decide) ?_
  refine j_iload_n C dX8_count_4 rfl 0 rfl ?_
  refine j_bipush (v := 16) C dX8_count_5 (by decide) ?_
  refine j_ic_ge (tgt := 33) C dX8_count_7 (by decide) (fun c9 => absurd c9 (by decide)) (fun c9 => ?_)
  refine j_iload_n C dX8_count_10 rfl 1 rfl ?_
  refine j_aload_n C dX8_count_11 rfl 2 rfl ?_
  refine j_getr (f := 800) (v := q) C flX8_9 dX8_count_12 hm hk (by decide) rfl rq ?_
  show J _ _ _ _ _ 15 _
  refine j_iload_n C dX8_count_15 rfl 0 rfl ?_
  refine j_iald (j := 1) (v := 0) C dX8_count_16 mq kq (inr_of (n := 16) lq (vp_lit (by decide))) (by decide) (zq 1) ?_
  refine j_if_eq (tgt := 24) C dX8_count_17 (by decide) (fun c9 => ?_) (fun c9 => absurd (by decide) c9)
  refine j_iconst (v := 0) C dX8_count_24 (by decide) ?_
  refine j_iadd (v := 0) C dX8_count_25 (by decide) ?_
  refine j_istore_n (lv' := [(1, .int 0), (2, .int 1), (0, .ref h)]) C dX8_count_26 rfl (by rw [hn9]; decide) rfl ?_
  refine j_iinc (q := 1) (v := 2) (lv' := [(2, .int 2), (1, .int 0), (0, .ref h)]) C dX8_count_27 rfl (by decide) (by rw [hn9]; decide) rfl ?_
  refine j_goto (tgt := 4) C dX8_count_30 (by decide) ?_
  show J _ _ _ _ _ 4 _
  refine j_iload_n C dX8_count_4 rfl 0 rfl ?_
  refine j_bipush (v := 16) C dX8_count_5 (by decide) ?_
  refine j_ic_ge (tgt := 33) C dX8_count_7 (by decide) (fun c9 => absurd c9 (by decide)) (fun c9 => ?_)
  refine j_iload_n C dX8_count_10 rfl 1 rfl ?_
  refine j_aload_n C dX8_count_11 rfl 2 rfl ?_
  refine j_getr (f := 800) (v := q) C flX8_9 dX8_count_12 hm hk (by decide) rfl rq ?_
  refine j_iload_n C dX8_count_15 rfl 0 rfl ?_
  refine j_iald (j := 2) (v := 0) C dX8_count_16 mq kq (inr_of (n := 16) lq (vp_lit (by decide))) (by decide) (zq 2) ?_
  show J _ _ _ _ _ 17 _
  refine j_if_eq (tgt := 24) C dX8_count_17 (by decide) (fun c9 => ?_) (fun c9 => absurd (by decide) c9)
  refine j_iconst (v := 0) C dX8_count_24 (by decide) ?_
  refine j_iadd (v := 0) C dX8_count_25 (by decide) ?_
  refine j_istore_n (lv' := [(1, .int 0), (2, .int 2), (0, .ref h)]) C dX8_count_26 rfl (by rw [hn9]; decide) rfl ?_
  refine j_iinc (q := 1) (v := 3) (lv' := [(2, .int 3), (1, .int 0), (0, .ref h)]) C dX8_count_27 rfl (by decide) (by rw [hn9]; decide) rfl ?_
  refine j_goto (tgt := 4) C dX8_count_30 (by decide) ?_
  refine j_iload_n C dX8_count_4 rfl 0 rfl ?_
  refine j_bipush (v := 16) C dX8_count_5 (by decide) ?_
  show J _ _ _ _ _ 7 _
  refine j_ic_ge (tgt := 33) C dX8_count_7 (by decide) (fun c9 => absurd c9 (by decide)) (fun c9 => ?_)
  refine j_iload_n C dX8_count_10 rfl 1 rfl ?_
  refine j_aload_n C dX8_count_11 rfl 2 rfl ?_
  refine j_getr (f := 800) (v := q) C flX8_9 dX8_count_12 hm hk (by decide) rfl rq ?_
  refine j_iload_n C dX8_count_15 rfl 0 rfl ?_
  refine j_iald (j := 3) (v := 0) C dX8_count_16 mq kq (inr_of (n := 16) lq (vp_lit (by decide))) (by decide) (zq 3) ?_
  refine j_if_eq (tgt := 24) C dX8_count_17 (by decide) (fun c9 => ?_) (fun c9 => absurd (by decide) c9)
  refine j_iconst (v := 0) C dX8_count_24 (by decide) ?_
  show J _ _ _ _ _ 25 _
  refine j_iadd (v := 0) C dX8_count_25 (by decide) ?_
  refine j_istore_n (lv' := [(1, .int 0), (2, .int 3), (0, .ref h)]) C dX8_count_26 rfl (by rw [hn9]; decide) rfl ?_
  refine j_iinc (q := 1) (v := 4) (lv' := [(2, .int 4), (1, .int 0), (0, .ref h)]) C dX8_count_27 rfl (by decide) (by rw [hn9]; decide) rfl ?_
  refine j_goto (tgt := 4) C dX8_count_30 (by decide) ?_
  refine j_iload_n C dX8_count_4 rfl 0 rfl ?_
  refine j_bipush (v := 16) C dX8_count_5 (by decide) ?_
  refine j_ic_ge (tgt := 33) C dX8_count_7 (by decide) (fun c9 => absurd c9 (by decide)) (fun c9 => ?_)
  refine j_iload_n C dX8_count_10 rfl 1 rfl ?_
  show J _ _ _ _ _ 11 _
  refine j_aload_n C dX8_count_11 rfl 2 rfl ?_
  refine j_getr (f := 800) (v := q) C flX8_9 dX8_count_12 hm hk (by decide) rfl rq ?_
  refine j_iload_n C dX8_count_15 rfl 0 rfl ?_
  refine j_iald (j := 4) (v := 0) C dX8_count_16 mq kq (inr_of (n := 16) lq (vp_lit (by decide))) (by decide) (zq 4) ?_
  refine j_if_eq (tgt := 24) C dX8_count_17 (by decide) (fun c9 => ?_) (fun c9 => absurd (by decide) c9)
  refine j_iconst (v := 0) C dX8_count_24 (by decide) ?_
  refine j_iadd (v := 0) C dX8_count_25 (by decide) ?_
  refine j_istore_n (lv' := [(1, .int 0), (2, .int 4), (0, .ref h)]) C dX8_count_26 rfl (by rw [hn9]; decide) rfl ?_
  show J _ _ _ _ _ 27 _
  refine j_iinc (q := 1) (v := 5) (lv' := [(2, .int 5), (1, .int 0), (0, .ref h)]) C dX8_count_27 rfl (by decide) (by rw [hn9]; decide) rfl ?_
  refine j_goto (tgt := 4) C dX8_count_30 (by decide) ?_
  refine j_iload_n C dX8_count_4 rfl 0 rfl ?_
  refine j_bipush (v := 16) C dX8_count_5 (by decide) ?_
  refine j_ic_ge (tgt := 33) C dX8_count_7 (by decide) (fun c9 => absurd c9 (by decide)) (fun c9 => ?_)
  refine j_iload_n C dX8_count_10 rfl 1 rfl ?_
  refine j_aload_n C dX8_count_11 rfl 2 rfl ?_
  refine j_getr (f := 800) (v := q) C flX8_9 dX8_count_12 hm hk (by decide) rfl rq ?_
  show J _ _ _ _ _ 15 _
  refine j_iload_n C dX8_count_15 rfl 0 rfl ?_
  refine j_iald (j := 5) (v := 0) C dX8_count_16 mq kq (inr_of (n := 16) lq (vp_lit (by decide))) (by decide) (zq 5) ?_
  refine j_if_eq (tgt := 24) C dX8_count_17 (by decide) (fun c9 => ?_) (fun c9 => absurd (by decide) c9)
  refine j_iconst (v := 0) C dX8_count_24 (by decide) ?_
  refine j_iadd (v := 0) C dX8_count_25 (by decide) ?_
  refine j_istore_n (lv' := [(1, .int 0), (2, .int 5), (0, .ref h)]) C dX8_count_26 rfl (by rw [hn9]; decide) rfl ?_
  refine j_iinc (q := 1) (v := 6) (lv' := [(2, .int 6), (1, .int 0), (0, .ref h)]) C dX8_count_27 rfl (by decide) (by rw [hn9]; decide) rfl ?_
  refine j_goto (tgt := 4) C dX8_count_30 (by decide) ?_
  show J _ _ _ _ _ 4 _
  refine j_iload_n C dX8_count_4 rfl 0 rfl ?_
  refine j_bipush (v := 16) C dX8_count_5 (by decide) ?_
  refine j_ic_ge (tgt := 33) C dX8_count_7 (by decide) (fun c9 => absurd c9 (by decide)) (fun c9 => ?_)
  refine j_iload_n C dX8_count_10 rfl 1 rfl ?_
  refine j_aload_n C dX8_count_11 rfl 2 rfl ?_
  refine j_getr (f := 800) (v := q) C flX8_9 dX8_count_12 hm hk (by decide) rfl rq ?_
  refine j_iload_n C dX8_count_15 rfl 0 rfl ?_
  refine j_iald (j := 6) (v := 0) C dX8_count_16 mq kq (inr_of (n := 16) lq (vp_lit (by decide))) (by decide) (zq 6) ?_
  show J _ _ _ _ _ 17 _
  refine j_if_eq (tgt := 24) C dX8_count_17 (by decide) (fun c9 => ?_) (fun c9 => absurd (by decide) c9)
  refine j_iconst (v := 0) C dX8_count_24 (by decide) ?_
  refine j_iadd (v := 0) C dX8_count_25 (by decide) ?_
  refine j_istore_n (lv' := [(1, .int 0), (2, .int 6), (0, .ref h)]) C dX8_count_26 rfl (by rw [hn9]; decide) rfl ?_
  refine j_iinc (q := 1) (v := 7) (lv' := [(2, .int 7), (1, .int 0), (0, .ref h)]) C dX8_count_27 rfl (by decide) (by rw [hn9]; decide) rfl ?_
  refine j_goto (tgt := 4) C dX8_count_30 (by decide) ?_
  refine j_iload_n C dX8_count_4 rfl 0 rfl ?_
  refine j_bipush (v := 16) C dX8_count_5 (by decide) ?_
  show J _ _ _ _ _ 7 _
  refine j_ic_ge (tgt := 33) C dX8_count_7 (by decide) (fun c9 => absurd c9 (by decide)) (fun c9 => ?_)
  refine j_iload_n C dX8_count_10 rfl 1 rfl ?_
  refine j_aload_n C dX8_count_11 rfl 2 rfl ?_
  refine j_getr (f := 800) (v := q) C flX8_9 dX8_count_12 hm hk (by decide) rfl rq ?_
  refine j_iload_n C dX8_count_15 rfl 0 rfl ?_
  refine j_iald (j := 7) (v := 0) C dX8_count_16 mq kq (inr_of (n := 16) lq (vp_lit (by decide))) (by decide) (zq 7) ?_
  refine j_if_eq (tgt := 24) C dX8_count_17 (by decide) (fun c9 => ?_) (fun c9 => absurd (by decide) c9)
  refine j_iconst (v := 0) C dX8_count_24 (by decide) ?_
  show J _ _ _ _ _ 25 _
  refine j_iadd (v := 0) C dX8_count_25 (by decide) ?_
  refine j_istore_n (lv' := [(1, .int 0), (2, .int 7), (0, .ref h)]) C dX8_count_26 rfl (by rw [hn9]; decide) rfl ?_
  refine j_iinc (q := 1) (v := 8) (lv' := [(2, .int 8), (1, .int 0), (0, .ref h)]) C dX8_count_27 rfl (by decide) (by rw [hn9]; decide) rfl ?_
  refine j_goto (tgt := 4) C dX8_count_30 (by decide) ?_
  refine j_iload_n C dX8_count_4 rfl 0 rfl ?_
  refine j_bipush (v := 16) C dX8_count_5 (by decide) ?_
  refine j_ic_ge (tgt := 33) C dX8_count_7 (by decide) (fun c9 => absurd c9 (by decide)) (fun c9 => ?_)
  refine j_iload_n C dX8_count_10 rfl 1 rfl ?_
  show J _ _ _ _ _ 11 _
  refine j_aload_n C dX8_count_11 rfl 2 rfl ?_
  refine j_getr (f := 800) (v := q) C flX8_9 dX8_count_12 hm hk (by decide) rfl rq ?_
  refine j_iload_n C dX8_count_15 rfl 0 rfl ?_
  refine j_iald (j := 8) (v := 0) C dX8_count_16 mq kq (inr_of (n := 16) lq (vp_lit (by decide))) (by decide) (zq 8) ?_
  refine j_if_eq (tgt := 24) C dX8_count_17 (by decide) (fun c9 => ?_) (fun c9 => absurd (by decide) c9)
  refine j_iconst (v := 0) C dX8_count_24 (by decide) ?_
  refine j_iadd (v := 0) C dX8_count_25 (by decide) ?_
  refine j_istore_n (lv' := [(1, .int 0), (2, .int 8), (0, .ref h)]) C dX8_count_26 rfl (by rw [hn9]; decide) rfl ?_
  show J _ _ _ _ _ 27 _
  refine j_iinc (q := 1) (v := 9) (lv' := [(2, .int 9), (1, .int 0), (0, .ref h)]) C dX8_count_27 rfl (by decide) (by rw [hn9]; decide) rfl ?_
  refine j_goto (tgt := 4) C dX8_count_30 (by decide) ?_
  refine j_iload_n C dX8_count_4 rfl 0 rfl ?_
  refine j_bipush (v := 16) C dX8_count_5 (by decide) ?_
  refine j_ic_ge (tgt := 33) C dX8_count_7 (by decide) (fun c9 => absurd c9 (by decide)) (fun c9 => ?_)
  refine j_iload_n C dX8_count_10 rfl 1 rfl ?_
  refine j_aload_n C dX8_count_11 rfl 2 rfl ?_
  refine j_getr (f := 800) (v := q) C flX8_9 dX8_count_12 hm hk (by decide) rfl rq ?_
  show J _ _ _ _ _ 15 _
  refine j_iload_n C dX8_count_15 rfl 0 rfl ?_
  refine j_iald (j := 9) (v := 0) C dX8_count_16 mq kq (inr_of (n := 16) lq (vp_lit (by decide))) (by decide) (zq 9) ?_
  refine j_if_eq (tgt := 24) C dX8_count_17 (by decide) (fun c9 => ?_) (fun c9 => absurd (by decide) c9)
  refine j_iconst (v := 0) C dX8_count_24 (by decide) ?_
  refine j_iadd (v := 0) C dX8_count_25 (by decide) ?_
  refine j_istore_n (lv' := [(1, .int 0), (2, .int 9), (0, .ref h)]) C dX8_count_26 rfl (by rw [hn9]; decide) rfl ?_
  refine j_iinc (q := 1) (v := 10) (lv' := [(2, .int 10), (1, .int 0), (0, .ref h)]) C dX8_count_27 rfl (by decide) (by rw [hn9]; decide) rfl ?_
  refine j_goto (tgt := 4) C dX8_count_30 (by decide) ?_
  show J _ _ _ _ _ 4 _
  refine j_iload_n C dX8_count_4 rfl 0 rfl ?_
  refine j_bipush (v := 16) C dX8_count_5 (by decide) ?_
  refine j_ic_ge (tgt := 33) C dX8_count_7 (by decide) (fun c9 => absurd c9 (by decide)) (fun c9 => ?_)
  refine j_iload_n C dX8_count_10 rfl 1 rfl ?_
  refine j_aload_n C dX8_count_11 rfl 2 rfl ?_
  refine j_getr (f := 800) (v := q) C flX8_9 dX8_count_12 hm hk (by decide) rfl rq ?_
  refine j_iload_n C dX8_count_15 rfl 0 rfl ?_
  refine j_iald (j := 10) (v := 0) C dX8_count_16 mq kq (inr_of (n := 16) lq (vp_lit (by decide))) (by decide) (zq 10) ?_
  show J _ _ _ _ _ 17 _
  refine j_if_eq (tgt := 24) C dX8_count_17 (by decide) (fun c9 => ?_) (fun c9 => absurd (by decide) c9)
  refine j_iconst (v := 0) C dX8_count_24 (by decide) ?_
  refine j_iadd (v := 0) C dX8_count_25 (by decide) ?_
  refine j_istore_n (lv' := [(1, .int 0), (2, .int 10), (0, .ref h)]) C dX8_count_26 rfl (by rw [hn9]; decide) rfl ?_
  refine j_iinc (q := 1) (v := 11) (lv' := [(2, .int 11), (1, .int 0), (0, .ref h)]) C dX8_count_27 rfl (by decide) (by rw [hn9]; decide) rfl ?_
  refine j_goto (tgt := 4) C dX8_count_30 (by decide) ?_
  refine j_iload_n C dX8_count_4 rfl 0 rfl ?_
  refine j_bipush (v := 16) C dX8_count_5 (by decide) ?_
  show J _ _ _ _ _ 7 _
  refine j_ic_ge (tgt := 33) C dX8_count_7 (by decide) (fun c9 => absurd c9 (by decide)) (fun c9 => ?_)
  refine j_iload_n C dX8_count_10 rfl 1 rfl ?_
  refine j_aload_n C dX8_count_11 rfl 2 rfl ?_
  refine j_getr (f := 800) (v := q) C flX8_9 dX8_count_12 hm hk (by decide) rfl rq ?_
  refine j_iload_n C dX8_count_15 rfl 0 rfl ?_
  refine j_iald (j := 11) (v := 0) C dX8_count_16 mq kq (inr_of (n := 16) lq (vp_lit (by decide))) (by decide) (zq 11) ?_
  refine j_if_eq (tgt := 24) C dX8_count_17 (by decide) (fun c9 => ?_) (fun c9 => absurd (by decide) c9)
  refine j_iconst (v := 0) C dX8_count_24 (by decide) ?_
  show J _ _ _ _ _ 25 _
  refine j_iadd (v := 0) C dX8_count_25 (by decide) ?_
  refine j_istore_n (lv' := [(1, .int 0), (2, .int 11), (0, .ref h)]) C dX8_count_26 rfl (by rw [hn9]; decide) rfl ?_
  refine j_iinc (q := 1) (v := 12) (lv' := [(2, .int 12), (1, .int 0), (0, .ref h)]) C dX8_count_27 rfl (by decide) (by rw [hn9]; decide) rfl ?_
  refine j_goto (tgt := 4) C dX8_count_30 (by decide) ?_
  refine j_iload_n C dX8_count_4 rfl 0 rfl ?_
  refine j_bipush (v := 16) C dX8_count_5 (by decide) ?_
  refine j_ic_ge (tgt := 33) C dX8_count_7 (by decide) (fun c9 => absurd c9 (by decide)) (fun c9 => ?_)
  refine j_iload_n C dX8_count_10 rfl 1 rfl ?_
  show J _ _ _ _ _ 11 _
  refine j_aload_n C dX8_count_11 rfl 2 rfl ?_
  refine j_getr (f := 800) (v := q) C flX8_9 dX8_count_12 hm hk (by decide) rfl rq ?_
  refine j_iload_n C dX8_count_15 rfl 0 rfl ?_
  refine j_iald (j := 12) (v := 0) C dX8_count_16 mq kq (inr_of (n := 16) lq (vp_lit (by decide))) (by decide) (zq 12) ?_
  refine j_if_eq (tgt := 24) C dX8_count_17 (by decide) (fun c9 => ?_) (fun c9 => absurd (by decide) c9)
  refine j_iconst (v := 0) C dX8_count_24 (by decide) ?_
  refine j_iadd (v := 0) C dX8_count_25 (by decide) ?_
  refine j_istore_n (lv' := [(1, .int 0), (2, .int 12), (0, .ref h)]) C dX8_count_26 rfl (by rw [hn9]; decide) rfl ?_
  show J _ _ _ _ _ 27 _
  refine j_iinc (q := 1) (v := 13) (lv' := [(2, .int 13), (1, .int 0), (0, .ref h)]) C dX8_count_27 rfl (by decide) (by rw [hn9]; decide) rfl ?_
  refine j_goto (tgt := 4) C dX8_count_30 (by decide) ?_
  refine j_iload_n C dX8_count_4 rfl 0 rfl ?_
  refine j_bipush (v := 16) C dX8_count_5 (by decide) ?_
  refine j_ic_ge (tgt := 33) C dX8_count_7 (by decide) (fun c9 => absurd c9 (by decide)) (fun c9 => ?_)
  refine j_iload_n C dX8_count_10 rfl 1 rfl ?_
  refine j_aload_n C dX8_count_11 rfl 2 rfl ?_
  refine j_getr (f := 800) (v := q) C flX8_9 dX8_count_12 hm hk (by decide) rfl rq ?_
  show J _ _ _ _ _ 15 _
  refine j_iload_n C dX8_count_15 rfl 0 rfl ?_
  refine j_iald (j := 13) (v := 0) C dX8_count_16 mq kq (inr_of (n := 16) lq (vp_lit (by decide))) (by decide) (zq 13) ?_
  refine j_if_eq (tgt := 24) C dX8_count_17 (by decide) (fun c9 => ?_) (fun c9 => absurd (by decide) c9)
  refine j_iconst (v := 0) C dX8_count_24 (by decide) ?_
  refine j_iadd (v := 0) C dX8_count_25 (by decide) ?_
  refine j_istore_n (lv' := [(1, .int 0), (2, .int 13), (0, .ref h)]) C dX8_count_26 rfl (by rw [hn9]; decide) rfl ?_
  refine j_iinc (q := 1) (v := 14) (lv' := [(2, .int 14), (1, .int 0), (0, .ref h)]) C dX8_count_27 rfl (by decide) (by rw [hn9]; decide) rfl ?_
  refine j_goto (tgt := 4) C dX8_count_30 (by decide) ?_
  show J _ _ _ _ _ 4 _
  refine j_iload_n C dX8_count_4 rfl 0 rfl ?_
  refine j_bipush (v := 16) C dX8_count_5 (by decide) ?_
  refine j_ic_ge (tgt := 33) C dX8_count_7 (by decide) (fun c9 => absurd c9 (by decide)) (fun c9 => ?_)
  refine j_iload_n C dX8_count_10 rfl 1 rfl ?_
  refine j_aload_n C dX8_count_11 rfl 2 rfl ?_
  refine j_getr (f := 800) (v := q) C flX8_9 dX8_count_12 hm hk (by decide) rfl rq ?_
  refine j_iload_n C dX8_count_15 rfl 0 rfl ?_
  refine j_iald (j := 14) (v := 0) C dX8_count_16 mq kq (inr_of (n := 16) lq (vp_lit (by decide))) (by decide) (zq 14) ?_
  show J _ _ _ _ _ 17 _
  refine j_if_eq (tgt := 24) C dX8_count_17 (by decide) (fun c9 => ?_) (fun c9 => absurd (by decide) c9)
  refine j_iconst (v := 0) C dX8_count_24 (by decide) ?_
  refine j_iadd (v := 0) C dX8_count_25 (by decide) ?_
  refine j_istore_n (lv' := [(1, .int 0), (2, .int 14), (0, .ref h)]) C dX8_count_26 rfl (by rw [hn9]; decide) rfl ?_
  refine j_iinc (q := 1) (v := 15) (lv' := [(2, .int 15), (1, .int 0), (0, .ref h)]) C dX8_count_27 rfl (by decide) (by rw [hn9]; decide) rfl ?_
  refine j_goto (tgt := 4) C dX8_count_30 (by decide) ?_
  refine j_iload_n C dX8_count_4 rfl 0 rfl ?_
  refine j_bipush (v := 16) C dX8_count_5 (by decide) ?_
  show J _ _ _ _ _ 7 _
  refine j_ic_ge (tgt := 33) C dX8_count_7 (by decide) (fun c9 => absurd c9 (by decide)) (fun c9 => ?_)
  refine j_iload_n C dX8_count_10 rfl 1 rfl ?_
  refine j_aload_n C dX8_count_11 rfl 2 rfl ?_
  refine j_getr (f := 800) (v := q) C flX8_9 dX8_count_12 hm hk (by decide) rfl rq ?_
  refine j_iload_n C dX8_count_15 rfl 0 rfl ?_
  refine j_iald (j := 15) (v := 0) C dX8_count_16 mq kq (inr_of (n := 16) lq (vp_lit (by decide))) (by decide) (zq 15) ?_
  refine j_if_eq (tgt := 24) C dX8_count_17 (by decide) (fun c9 => ?_) (fun c9 => absurd (by decide) c9)
  refine j_iconst (v := 0) C dX8_count_24 (by decide) ?_
  show J _ _ _ _ _ 25 _
  refine j_iadd (v := 0) C dX8_count_25 (by decide) ?_
  refine j_istore_n (lv' := [(1, .int 0), (2, .int 15), (0, .ref h)]) C dX8_count_26 rfl (by rw [hn9]; decide) rfl ?_
  refine j_iinc (q := 1) (v := 16) (lv' := [(2, .int 16), (1, .int 0), (0, .ref h)]) C dX8_count_27 rfl (by decide) (by rw [hn9]; decide) rfl ?_
  refine j_goto (tgt := 4) C dX8_count_30 (by decide) ?_
  refine j_iload_n C dX8_count_4 rfl 0 rfl ?_
  refine j_bipush (v := 16) C dX8_count_5 (by decide) ?_
  refine j_ic_ge (tgt := 33) C dX8_count_7 (by decide) (fun c9 => ?_) (fun c9 => absurd (by decide) c9)
  refine j_iload_n C dX8_count_33 rfl 1 rfl ?_
  show J _ _ _ _ _ 34 _
  exact j_iret C M dX8_count_34 (by decide) (by decide) ⟨rfl, (Fm.refl (WI := (fun _ _ => False)) (WR := (fun _ _ => False)) (WA := (fun _ => False)))⟩

theorem dX8_has_0 : decode cX8_has 0 = .ok (.iload_n 1, 1) := by decide +kernel
theorem dX8_has_1 : decode cX8_has 1 = .ok (.ifCond .lt 22, 3) := by decide +kernel
theorem dX8_has_4 : decode cX8_has 4 = .ok (.iload_n 1, 1) := by decide +kernel
theorem dX8_has_5 : decode cX8_has 5 = .ok (.bipush 16, 2) := by decide +kernel
theorem dX8_has_7 : decode cX8_has 7 = .ok (.if_icmp .ge 16, 3) := by decide +kernel
theorem dX8_has_10 : decode cX8_has 10 = .ok (.aload_n 0, 1) := by decide +kernel
theorem dX8_has_11 : decode cX8_has 11 = .ok (.getfield 9, 3) := by decide +kernel
theorem dX8_has_14 : decode cX8_has 14 = .ok (.iload_n 1, 1) := by decide +kernel
theorem dX8_has_15 : decode cX8_has 15 = .ok (.iaload, 1) := by decide +kernel
theorem dX8_has_16 : decode cX8_has 16 = .ok (.ifCond .eq 7, 3) := by decide +kernel
theorem dX8_has_19 : decode cX8_has 19 = .ok (.iconst 1, 1) := by decide +kernel
theorem dX8_has_20 : decode cX8_has 20 = .ok (.goto 4, 3) := by decide +kernel
theorem dX8_has_23 : decode cX8_has 23 = .ok (.iconst 0, 1) := by decide +kernel
theorem dX8_has_24 : decode cX8_has 24 = .ok (.ireturn, 1) := by decide +kernel
set_option maxRecDepth 100000 in
set_option maxHeartbeats 4000000 in
theorem c_X8_has (S : Hp) (h : Nat) (hm : h ∈ hL S) (hk : hK S h = 8) (q : Nat) (rq : hR S 800 h = some q) (mq : q ∈ hL S) (kq : Kd S q 14) (lq : Ln S q 16) (zq : ∀ j, aI S q j = 0) (i0 : Int32) : Ct 1 yX8_has cX8_has 2 (some .boolean) 0 0 [.ref h, .int i0] S (fun r S' => r = some (.int 0) ∧ Fm (fun _ _ => False) (fun _ _ => False) (fun _ => False) S S') := by
  refine ct_of (by decide) (Nat.le_of_ble_eq_true rfl) fun x hn9 C M hm9 => ?_
  have C : CB x RX8 cX8_has := C
  refine J.eq (lv' := [(0, .ref h), (1, .int i0)]) rfl rfl rfl ?_
  refine j_iload_n C dX8_has_0 rfl 1 rfl ?_
  refine j_if_lt (tgt := 23) C dX8_has_1 (by decide) (fun c_1 => ?_) (fun c_1 => ?_)
  · skip
    refine j_iconst (v := 0) C dX8_has_23 (by decide) ?_
    exact j_zret C M rfl dX8_has_24 (by decide) (by decide) ⟨rfl, (Fm.refl (WI := (fun _ _ => False)) (WR := (fun _ _ => False)) (WA := (fun _ => False)))⟩
  · skip
    refine j_iload_n C dX8_has_4 rfl 1 rfl ?_
    refine j_bipush (v := 16) C dX8_has_5 (by decide) ?_
    refine j_ic_ge (tgt := 23) C dX8_has_7 (by decide) (fun c_7 => ?_) (fun c_7 => ?_)
    · skip
      refine j_iconst (v := 0) C dX8_has_23 (by decide) ?_
      exact j_zret C M rfl dX8_has_24 (by decide) (by decide) ⟨rfl, (Fm.refl (WI := (fun _ _ => False)) (WR := (fun _ _ => False)) (WA := (fun _ => False)))⟩
    · skip
      refine j_aload_n C dX8_has_10 rfl 0 rfl ?_
      refine j_getr (f := 800) (v := q) C flX8_9 dX8_has_11 hm hk (by decide) rfl rq ?_
      refine j_iload_n C dX8_has_14 rfl 1 rfl ?_
      show J _ _ _ _ _ 15 _
      refine j_iald (j := (Int32.toNatClampNeg i0)) (v := 0) C dX8_has_15 mq kq (inr_of (n := 16) lq (vp_ge c_1 c_7)) rfl (zq _) ?_
      refine j_if_eq (tgt := 23) C dX8_has_16 (by decide) (fun c9 => ?_) (fun c9 => absurd (by decide) c9)
      refine j_iconst (v := 0) C dX8_has_23 (by decide) ?_
      exact j_zret C M rfl dX8_has_24 (by decide) (by decide) ⟨rfl, (Fm.refl (WI := (fun _ _ => False)) (WR := (fun _ _ => False)) (WA := (fun _ => False)))⟩
end
