section
-- ===== PART A: goes FIRST, ahead of the names: the tables' words, and 'selects' of the private methods out of them =====
/-- a private method of a class that the tables say can be made, by its rows of tables_1 -/
def lw_okq (q : MethodName × Nat) : Prop := (q.1.cls ≠ "java/lang/invoke/MethodHandle" ∧ q.1.cls ≠ "java/lang/invoke/VarHandle") ∧ Cond.instantiable q.1.cls q.2 ∈ tables_1 ∧ Cond.privateMethod q.1 ∈ tables_1 ∧ Cond.instanceMethod q.1 ∈ tables_1
theorem lw_p0 : lw_okq (⟨"PrinterHouse$Fonts", "setHead", "(IIIIII)V"⟩, 10) := ⟨⟨by decide +kernel, by decide +kernel⟩, List.mem_of_getElem? (i := 165) (by decide +kernel), List.mem_of_getElem? (i := 190) (by decide +kernel), List.mem_of_getElem? (i := 191) (by decide +kernel)⟩
theorem lw_p1 : lw_okq (⟨"PrinterHouse", "feedNumber", "(I)V"⟩, 12) := ⟨⟨by decide +kernel, by decide +kernel⟩, List.mem_of_getElem? (i := 23) (by decide +kernel), List.mem_of_getElem? (i := 663) (by decide +kernel), List.mem_of_getElem? (i := 664) (by decide +kernel)⟩
theorem lw_p2 : lw_okq (⟨"PrinterHouse$Streams", "goThrough", "([BII)V"⟩, 19) := ⟨⟨by decide +kernel, by decide +kernel⟩, List.mem_of_getElem? (i := 81) (by decide +kernel), List.mem_of_getElem? (i := 792) (by decide +kernel), List.mem_of_getElem? (i := 793) (by decide +kernel)⟩
theorem lw_p3 : lw_okq (⟨"PrinterHouse$Streams", "pass", "(I)Z"⟩, 19) := ⟨⟨by decide +kernel, by decide +kernel⟩, List.mem_of_getElem? (i := 81) (by decide +kernel), List.mem_of_getElem? (i := 820) (by decide +kernel), List.mem_of_getElem? (i := 821) (by decide +kernel)⟩
theorem lw_p4 : lw_okq (⟨"PrinterHouse$Streams", "other", "(I)V"⟩, 19) := ⟨⟨by decide +kernel, by decide +kernel⟩, List.mem_of_getElem? (i := 81) (by decide +kernel), List.mem_of_getElem? (i := 824) (by decide +kernel), List.mem_of_getElem? (i := 825) (by decide +kernel)⟩
theorem lw_p5 : lw_okq (⟨"PrinterHouse$Streams", "line", "(I)V"⟩, 19) := ⟨⟨by decide +kernel, by decide +kernel⟩, List.mem_of_getElem? (i := 81) (by decide +kernel), List.mem_of_getElem? (i := 835) (by decide +kernel), List.mem_of_getElem? (i := 836) (by decide +kernel)⟩
theorem lw_p6 : lw_okq (⟨"PrinterHouse$Streams", "form", "()V"⟩, 19) := ⟨⟨by decide +kernel, by decide +kernel⟩, List.mem_of_getElem? (i := 81) (by decide +kernel), List.mem_of_getElem? (i := 840) (by decide +kernel), List.mem_of_getElem? (i := 841) (by decide +kernel)⟩
theorem lw_p7 : lw_okq (⟨"PrinterHouse$Streams", "eject", "()V"⟩, 19) := ⟨⟨by decide +kernel, by decide +kernel⟩, List.mem_of_getElem? (i := 81) (by decide +kernel), List.mem_of_getElem? (i := 844) (by decide +kernel), List.mem_of_getElem? (i := 845) (by decide +kernel)⟩
theorem lw_p8 : lw_okq (⟨"PrinterHouse$Streams", "goMacro", "(I)V"⟩, 19) := ⟨⟨by decide +kernel, by decide +kernel⟩, List.mem_of_getElem? (i := 81) (by decide +kernel), List.mem_of_getElem? (i := 872) (by decide +kernel), List.mem_of_getElem? (i := 873) (by decide +kernel)⟩
theorem lw_p9 : lw_okq (⟨"PrinterHouse$Sheaf", "putNumber", "(II)V"⟩, 10) := ⟨⟨by decide +kernel, by decide +kernel⟩, List.mem_of_getElem? (i := 31) (by decide +kernel), List.mem_of_getElem? (i := 906) (by decide +kernel), List.mem_of_getElem? (i := 907) (by decide +kernel)⟩
theorem lw_p10 : lw_okq (⟨"PrinterHouse$Sheaf", "putByte", "(I)V"⟩, 10) := ⟨⟨by decide +kernel, by decide +kernel⟩, List.mem_of_getElem? (i := 31) (by decide +kernel), List.mem_of_getElem? (i := 910) (by decide +kernel), List.mem_of_getElem? (i := 911) (by decide +kernel)⟩
theorem lw_p11 : lw_okq (⟨"PrinterHouse$Sheaf", "writeRow", "([III)V"⟩, 10) := ⟨⟨by decide +kernel, by decide +kernel⟩, List.mem_of_getElem? (i := 31) (by decide +kernel), List.mem_of_getElem? (i := 915) (by decide +kernel), List.mem_of_getElem? (i := 916) (by decide +kernel)⟩
theorem lw_p12 : lw_okq (⟨"PrinterHouse$Sheaf", "putBits", "(II)V"⟩, 10) := ⟨⟨by decide +kernel, by decide +kernel⟩, List.mem_of_getElem? (i := 31) (by decide +kernel), List.mem_of_getElem? (i := 939) (by decide +kernel), List.mem_of_getElem? (i := 940) (by decide +kernel)⟩
theorem lw_p13 : lw_okq (⟨"PrinterHouse$Sheaf", "putRun", "(II)V"⟩, 10) := ⟨⟨by decide +kernel, by decide +kernel⟩, List.mem_of_getElem? (i := 31) (by decide +kernel), List.mem_of_getElem? (i := 947) (by decide +kernel), List.mem_of_getElem? (i := 948) (by decide +kernel)⟩
theorem lw_p14 : lw_okq (⟨"PrinterHouse$Sheaf", "writeDirectory", "(IIII)V"⟩, 10) := ⟨⟨by decide +kernel, by decide +kernel⟩, List.mem_of_getElem? (i := 31) (by decide +kernel), List.mem_of_getElem? (i := 953) (by decide +kernel), List.mem_of_getElem? (i := 954) (by decide +kernel)⟩
theorem lw_p15 : lw_okq (⟨"PrinterHouse$Sheaf", "setNumber", "(II)V"⟩, 10) := ⟨⟨by decide +kernel, by decide +kernel⟩, List.mem_of_getElem? (i := 31) (by decide +kernel), List.mem_of_getElem? (i := 957) (by decide +kernel), List.mem_of_getElem? (i := 958) (by decide +kernel)⟩
def lw_privs_1 : List (MethodName × Nat) := [(⟨"PrinterHouse$Fonts", "setHead", "(IIIIII)V"⟩, 10), (⟨"PrinterHouse", "feedNumber", "(I)V"⟩, 12), (⟨"PrinterHouse$Streams", "goThrough", "([BII)V"⟩, 19), (⟨"PrinterHouse$Streams", "pass", "(I)Z"⟩, 19), (⟨"PrinterHouse$Streams", "other", "(I)V"⟩, 19), (⟨"PrinterHouse$Streams", "line", "(I)V"⟩, 19), (⟨"PrinterHouse$Streams", "form", "()V"⟩, 19), (⟨"PrinterHouse$Streams", "eject", "()V"⟩, 19), (⟨"PrinterHouse$Streams", "goMacro", "(I)V"⟩, 19), (⟨"PrinterHouse$Sheaf", "putNumber", "(II)V"⟩, 10), (⟨"PrinterHouse$Sheaf", "putByte", "(I)V"⟩, 10), (⟨"PrinterHouse$Sheaf", "writeRow", "([III)V"⟩, 10), (⟨"PrinterHouse$Sheaf", "putBits", "(II)V"⟩, 10), (⟨"PrinterHouse$Sheaf", "putRun", "(II)V"⟩, 10), (⟨"PrinterHouse$Sheaf", "writeDirectory", "(IIII)V"⟩, 10), (⟨"PrinterHouse$Sheaf", "setNumber", "(II)V"⟩, 10)]
theorem lw_r1 : ∀ q ∈ lw_privs_1, lw_okq q := List.forall_mem_cons.mpr ⟨lw_p0, List.forall_mem_cons.mpr ⟨lw_p1, List.forall_mem_cons.mpr ⟨lw_p2, List.forall_mem_cons.mpr ⟨lw_p3, List.forall_mem_cons.mpr ⟨lw_p4, List.forall_mem_cons.mpr ⟨lw_p5, List.forall_mem_cons.mpr ⟨lw_p6, List.forall_mem_cons.mpr ⟨lw_p7, List.forall_mem_cons.mpr ⟨lw_p8, List.forall_mem_cons.mpr ⟨lw_p9, List.forall_mem_cons.mpr ⟨lw_p10, List.forall_mem_cons.mpr ⟨lw_p11, List.forall_mem_cons.mpr ⟨lw_p12, List.forall_mem_cons.mpr ⟨lw_p13, List.forall_mem_cons.mpr ⟨lw_p14, List.forall_mem_cons.mpr ⟨lw_p15, fun _ h => absurd h List.not_mem_nil⟩⟩⟩⟩⟩⟩⟩⟩⟩⟩⟩⟩⟩⟩⟩⟩
theorem lw_p16 : lw_okq (⟨"PrinterHouse$Sheaf", "putEntry", "(III)V"⟩, 10) := ⟨⟨by decide +kernel, by decide +kernel⟩, List.mem_of_getElem? (i := 31) (by decide +kernel), List.mem_of_getElem? (i := 961) (by decide +kernel), List.mem_of_getElem? (i := 962) (by decide +kernel)⟩
theorem lw_p17 : lw_okq (⟨"PrinterHouse$Streams", "endWithReturn", "()V"⟩, 19) := ⟨⟨by decide +kernel, by decide +kernel⟩, List.mem_of_getElem? (i := 81) (by decide +kernel), List.mem_of_getElem? (i := 967) (by decide +kernel), List.mem_of_getElem? (i := 968) (by decide +kernel)⟩
theorem lw_p18 : lw_okq (⟨"PrinterHouse$Streams", "carriageReturn", "()V"⟩, 19) := ⟨⟨by decide +kernel, by decide +kernel⟩, List.mem_of_getElem? (i := 81) (by decide +kernel), List.mem_of_getElem? (i := 971) (by decide +kernel), List.mem_of_getElem? (i := 972) (by decide +kernel)⟩
theorem lw_p19 : lw_okq (⟨"PrinterHouse$Streams", "followPitch", "()V"⟩, 19) := ⟨⟨by decide +kernel, by decide +kernel⟩, List.mem_of_getElem? (i := 81) (by decide +kernel), List.mem_of_getElem? (i := 975) (by decide +kernel), List.mem_of_getElem? (i := 976) (by decide +kernel)⟩
theorem lw_p20 : lw_okq (⟨"PrinterHouse$Fonts", "choose", "()I"⟩, 10) := ⟨⟨by decide +kernel, by decide +kernel⟩, List.mem_of_getElem? (i := 165) (by decide +kernel), List.mem_of_getElem? (i := 992) (by decide +kernel), List.mem_of_getElem? (i := 993) (by decide +kernel)⟩
theorem lw_p21 : lw_okq (⟨"PrinterHouse$Fonts", "alike", "(III)I"⟩, 10) := ⟨⟨by decide +kernel, by decide +kernel⟩, List.mem_of_getElem? (i := 165) (by decide +kernel), List.mem_of_getElem? (i := 997) (by decide +kernel), List.mem_of_getElem? (i := 998) (by decide +kernel)⟩
theorem lw_p22 : lw_okq (⟨"PrinterHouse$Fonts", "nearest", "(II)I"⟩, 10) := ⟨⟨by decide +kernel, by decide +kernel⟩, List.mem_of_getElem? (i := 165) (by decide +kernel), List.mem_of_getElem? (i := 1001) (by decide +kernel), List.mem_of_getElem? (i := 1002) (by decide +kernel)⟩
theorem lw_p23 : lw_okq (⟨"PrinterHouse$Streams", "beginSequence", "()V"⟩, 19) := ⟨⟨by decide +kernel, by decide +kernel⟩, List.mem_of_getElem? (i := 81) (by decide +kernel), List.mem_of_getElem? (i := 1013) (by decide +kernel), List.mem_of_getElem? (i := 1014) (by decide +kernel)⟩
theorem lw_p24 : lw_okq (⟨"PrinterHouse$Streams", "twoBytes", "(I)V"⟩, 19) := ⟨⟨by decide +kernel, by decide +kernel⟩, List.mem_of_getElem? (i := 81) (by decide +kernel), List.mem_of_getElem? (i := 1017) (by decide +kernel), List.mem_of_getElem? (i := 1018) (by decide +kernel)⟩
theorem lw_p25 : lw_okq (⟨"PrinterHouse$Streams", "reset", "()V"⟩, 19) := ⟨⟨by decide +kernel, by decide +kernel⟩, List.mem_of_getElem? (i := 81) (by decide +kernel), List.mem_of_getElem? (i := 1021) (by decide +kernel), List.mem_of_getElem? (i := 1022) (by decide +kernel)⟩
theorem lw_p26 : lw_okq (⟨"PrinterHouse$Streams", "showAll", "()V"⟩, 19) := ⟨⟨by decide +kernel, by decide +kernel⟩, List.mem_of_getElem? (i := 81) (by decide +kernel), List.mem_of_getElem? (i := 1055) (by decide +kernel), List.mem_of_getElem? (i := 1056) (by decide +kernel)⟩
theorem lw_p27 : lw_okq (⟨"PrinterHouse$Streams", "passEach", "(I)Z"⟩, 19) := ⟨⟨by decide +kernel, by decide +kernel⟩, List.mem_of_getElem? (i := 81) (by decide +kernel), List.mem_of_getElem? (i := 1060) (by decide +kernel), List.mem_of_getElem? (i := 1061) (by decide +kernel)⟩
theorem lw_p28 : lw_okq (⟨"PrinterHouse$Streams", "show", "(I)V"⟩, 19) := ⟨⟨by decide +kernel, by decide +kernel⟩, List.mem_of_getElem? (i := 81) (by decide +kernel), List.mem_of_getElem? (i := 1064) (by decide +kernel), List.mem_of_getElem? (i := 1065) (by decide +kernel)⟩
theorem lw_p29 : lw_okq (⟨"PrinterHouse$Streams", "advance", "(II)I"⟩, 19) := ⟨⟨by decide +kernel, by decide +kernel⟩, List.mem_of_getElem? (i := 81) (by decide +kernel), List.mem_of_getElem? (i := 1072) (by decide +kernel), List.mem_of_getElem? (i := 1073) (by decide +kernel)⟩
theorem lw_p30 : lw_okq (⟨"PrinterHouse$Streams", "markGlyph", "(I)V"⟩, 19) := ⟨⟨by decide +kernel, by decide +kernel⟩, List.mem_of_getElem? (i := 81) (by decide +kernel), List.mem_of_getElem? (i := 1081) (by decide +kernel), List.mem_of_getElem? (i := 1082) (by decide +kernel)⟩
theorem lw_p31 : lw_okq (⟨"PrinterHouse$Streams", "readField", "()Z"⟩, 19) := ⟨⟨by decide +kernel, by decide +kernel⟩, List.mem_of_getElem? (i := 81) (by decide +kernel), List.mem_of_getElem? (i := 1126) (by decide +kernel), List.mem_of_getElem? (i := 1127) (by decide +kernel)⟩
def lw_privs_2 : List (MethodName × Nat) := [(⟨"PrinterHouse$Sheaf", "putEntry", "(III)V"⟩, 10), (⟨"PrinterHouse$Streams", "endWithReturn", "()V"⟩, 19), (⟨"PrinterHouse$Streams", "carriageReturn", "()V"⟩, 19), (⟨"PrinterHouse$Streams", "followPitch", "()V"⟩, 19), (⟨"PrinterHouse$Fonts", "choose", "()I"⟩, 10), (⟨"PrinterHouse$Fonts", "alike", "(III)I"⟩, 10), (⟨"PrinterHouse$Fonts", "nearest", "(II)I"⟩, 10), (⟨"PrinterHouse$Streams", "beginSequence", "()V"⟩, 19), (⟨"PrinterHouse$Streams", "twoBytes", "(I)V"⟩, 19), (⟨"PrinterHouse$Streams", "reset", "()V"⟩, 19), (⟨"PrinterHouse$Streams", "showAll", "()V"⟩, 19), (⟨"PrinterHouse$Streams", "passEach", "(I)Z"⟩, 19), (⟨"PrinterHouse$Streams", "show", "(I)V"⟩, 19), (⟨"PrinterHouse$Streams", "advance", "(II)I"⟩, 19), (⟨"PrinterHouse$Streams", "markGlyph", "(I)V"⟩, 19), (⟨"PrinterHouse$Streams", "readField", "()Z"⟩, 19)]
theorem lw_r2 : ∀ q ∈ lw_privs_2, lw_okq q := List.forall_mem_cons.mpr ⟨lw_p16, List.forall_mem_cons.mpr ⟨lw_p17, List.forall_mem_cons.mpr ⟨lw_p18, List.forall_mem_cons.mpr ⟨lw_p19, List.forall_mem_cons.mpr ⟨lw_p20, List.forall_mem_cons.mpr ⟨lw_p21, List.forall_mem_cons.mpr ⟨lw_p22, List.forall_mem_cons.mpr ⟨lw_p23, List.forall_mem_cons.mpr ⟨lw_p24, List.forall_mem_cons.mpr ⟨lw_p25, List.forall_mem_cons.mpr ⟨lw_p26, List.forall_mem_cons.mpr ⟨lw_p27, List.forall_mem_cons.mpr ⟨lw_p28, List.forall_mem_cons.mpr ⟨lw_p29, List.forall_mem_cons.mpr ⟨lw_p30, List.forall_mem_cons.mpr ⟨lw_p31, fun _ h => absurd h List.not_mem_nil⟩⟩⟩⟩⟩⟩⟩⟩⟩⟩⟩⟩⟩⟩⟩⟩
theorem lw_p32 : lw_okq (⟨"PrinterHouse$Reading", "isDigit", "(I)Z"⟩, 13) := ⟨⟨by decide +kernel, by decide +kernel⟩, List.mem_of_getElem? (i := 432) (by decide +kernel), List.mem_of_getElem? (i := 1134) (by decide +kernel), List.mem_of_getElem? (i := 1135) (by decide +kernel)⟩
theorem lw_p33 : lw_okq (⟨"PrinterHouse$Streams", "obey", "()V"⟩, 19) := ⟨⟨by decide +kernel, by decide +kernel⟩, List.mem_of_getElem? (i := 81) (by decide +kernel), List.mem_of_getElem? (i := 1144) (by decide +kernel), List.mem_of_getElem? (i := 1145) (by decide +kernel)⟩
theorem lw_p34 : lw_okq (⟨"PrinterHouse$Streams", "pageField", "(I)V"⟩, 19) := ⟨⟨by decide +kernel, by decide +kernel⟩, List.mem_of_getElem? (i := 81) (by decide +kernel), List.mem_of_getElem? (i := 1148) (by decide +kernel), List.mem_of_getElem? (i := 1149) (by decide +kernel)⟩
theorem lw_p35 : lw_okq (⟨"PrinterHouse$Streams", "spacing", "(II)I"⟩, 19) := ⟨⟨by decide +kernel, by decide +kernel⟩, List.mem_of_getElem? (i := 81) (by decide +kernel), List.mem_of_getElem? (i := 1154) (by decide +kernel), List.mem_of_getElem? (i := 1155) (by decide +kernel)⟩
theorem lw_p36 : lw_okq (⟨"PrinterHouse$Streams", "placeField", "(I)V"⟩, 19) := ⟨⟨by decide +kernel, by decide +kernel⟩, List.mem_of_getElem? (i := 81) (by decide +kernel), List.mem_of_getElem? (i := 1176) (by decide +kernel), List.mem_of_getElem? (i := 1177) (by decide +kernel)⟩
theorem lw_p37 : lw_okq (⟨"PrinterHouse$Streams", "moveAcross", "(J)V"⟩, 19) := ⟨⟨by decide +kernel, by decide +kernel⟩, List.mem_of_getElem? (i := 81) (by decide +kernel), List.mem_of_getElem? (i := 1180) (by decide +kernel), List.mem_of_getElem? (i := 1181) (by decide +kernel)⟩
theorem lw_p38 : lw_okq (⟨"PrinterHouse$Streams", "moveDown", "(JI)V"⟩, 19) := ⟨⟨by decide +kernel, by decide +kernel⟩, List.mem_of_getElem? (i := 81) (by decide +kernel), List.mem_of_getElem? (i := 1184) (by decide +kernel), List.mem_of_getElem? (i := 1185) (by decide +kernel)⟩
theorem lw_p39 : lw_okq (⟨"PrinterHouse$Streams", "spaceField", "(I)V"⟩, 19) := ⟨⟨by decide +kernel, by decide +kernel⟩, List.mem_of_getElem? (i := 81) (by decide +kernel), List.mem_of_getElem? (i := 1196) (by decide +kernel), List.mem_of_getElem? (i := 1197) (by decide +kernel)⟩
theorem lw_p40 : lw_okq (⟨"PrinterHouse$Streams", "wrapField", "(I)V"⟩, 19) := ⟨⟨by decide +kernel, by decide +kernel⟩, List.mem_of_getElem? (i := 81) (by decide +kernel), List.mem_of_getElem? (i := 1200) (by decide +kernel), List.mem_of_getElem? (i := 1201) (by decide +kernel)⟩
theorem lw_p41 : lw_okq (⟨"PrinterHouse$Streams", "macroField", "(I)V"⟩, 19) := ⟨⟨by decide +kernel, by decide +kernel⟩, List.mem_of_getElem? (i := 81) (by decide +kernel), List.mem_of_getElem? (i := 1204) (by decide +kernel), List.mem_of_getElem? (i := 1205) (by decide +kernel)⟩
theorem lw_p42 : lw_okq (⟨"PrinterHouse$Streams", "macroTask", "(I)V"⟩, 19) := ⟨⟨by decide +kernel, by decide +kernel⟩, List.mem_of_getElem? (i := 81) (by decide +kernel), List.mem_of_getElem? (i := 1216) (by decide +kernel), List.mem_of_getElem? (i := 1217) (by decide +kernel)⟩
theorem lw_p43 : lw_okq (⟨"PrinterHouse$Streams", "tellMacro", "(I)V"⟩, 19) := ⟨⟨by decide +kernel, by decide +kernel⟩, List.mem_of_getElem? (i := 81) (by decide +kernel), List.mem_of_getElem? (i := 1220) (by decide +kernel), List.mem_of_getElem? (i := 1221) (by decide +kernel)⟩
theorem lw_p44 : lw_okq (⟨"PrinterHouse$Streams", "isMacroEnd", "(I)Z"⟩, 19) := ⟨⟨by decide +kernel, by decide +kernel⟩, List.mem_of_getElem? (i := 81) (by decide +kernel), List.mem_of_getElem? (i := 1224) (by decide +kernel), List.mem_of_getElem? (i := 1225) (by decide +kernel)⟩
theorem lw_p45 : lw_okq (⟨"PrinterHouse$Streams", "callMacro", "(I)V"⟩, 19) := ⟨⟨by decide +kernel, by decide +kernel⟩, List.mem_of_getElem? (i := 81) (by decide +kernel), List.mem_of_getElem? (i := 1233) (by decide +kernel), List.mem_of_getElem? (i := 1234) (by decide +kernel)⟩
theorem lw_p46 : lw_okq (⟨"PrinterHouse$Streams", "showData", "()V"⟩, 19) := ⟨⟨by decide +kernel, by decide +kernel⟩, List.mem_of_getElem? (i := 81) (by decide +kernel), List.mem_of_getElem? (i := 1242) (by decide +kernel), List.mem_of_getElem? (i := 1243) (by decide +kernel)⟩
theorem lw_p47 : lw_okq (⟨"PrinterHouse$Streams", "dotPlaceField", "()V"⟩, 19) := ⟨⟨by decide +kernel, by decide +kernel⟩, List.mem_of_getElem? (i := 81) (by decide +kernel), List.mem_of_getElem? (i := 1250) (by decide +kernel), List.mem_of_getElem? (i := 1251) (by decide +kernel)⟩
def lw_privs_3 : List (MethodName × Nat) := [(⟨"PrinterHouse$Reading", "isDigit", "(I)Z"⟩, 13), (⟨"PrinterHouse$Streams", "obey", "()V"⟩, 19), (⟨"PrinterHouse$Streams", "pageField", "(I)V"⟩, 19), (⟨"PrinterHouse$Streams", "spacing", "(II)I"⟩, 19), (⟨"PrinterHouse$Streams", "placeField", "(I)V"⟩, 19), (⟨"PrinterHouse$Streams", "moveAcross", "(J)V"⟩, 19), (⟨"PrinterHouse$Streams", "moveDown", "(JI)V"⟩, 19), (⟨"PrinterHouse$Streams", "spaceField", "(I)V"⟩, 19), (⟨"PrinterHouse$Streams", "wrapField", "(I)V"⟩, 19), (⟨"PrinterHouse$Streams", "macroField", "(I)V"⟩, 19), (⟨"PrinterHouse$Streams", "macroTask", "(I)V"⟩, 19), (⟨"PrinterHouse$Streams", "tellMacro", "(I)V"⟩, 19), (⟨"PrinterHouse$Streams", "isMacroEnd", "(I)Z"⟩, 19), (⟨"PrinterHouse$Streams", "callMacro", "(I)V"⟩, 19), (⟨"PrinterHouse$Streams", "showData", "()V"⟩, 19), (⟨"PrinterHouse$Streams", "dotPlaceField", "()V"⟩, 19)]
theorem lw_r3 : ∀ q ∈ lw_privs_3, lw_okq q := List.forall_mem_cons.mpr ⟨lw_p32, List.forall_mem_cons.mpr ⟨lw_p33, List.forall_mem_cons.mpr ⟨lw_p34, List.forall_mem_cons.mpr ⟨lw_p35, List.forall_mem_cons.mpr ⟨lw_p36, List.forall_mem_cons.mpr ⟨lw_p37, List.forall_mem_cons.mpr ⟨lw_p38, List.forall_mem_cons.mpr ⟨lw_p39, List.forall_mem_cons.mpr ⟨lw_p40, List.forall_mem_cons.mpr ⟨lw_p41, List.forall_mem_cons.mpr ⟨lw_p42, List.forall_mem_cons.mpr ⟨lw_p43, List.forall_mem_cons.mpr ⟨lw_p44, List.forall_mem_cons.mpr ⟨lw_p45, List.forall_mem_cons.mpr ⟨lw_p46, List.forall_mem_cons.mpr ⟨lw_p47, fun _ h => absurd h List.not_mem_nil⟩⟩⟩⟩⟩⟩⟩⟩⟩⟩⟩⟩⟩⟩⟩⟩
theorem lw_p48 : lw_okq (⟨"PrinterHouse$Streams", "controlField", "(I)V"⟩, 19) := ⟨⟨by decide +kernel, by decide +kernel⟩, List.mem_of_getElem? (i := 81) (by decide +kernel), List.mem_of_getElem? (i := 1254) (by decide +kernel), List.mem_of_getElem? (i := 1255) (by decide +kernel)⟩
theorem lw_p49 : lw_okq (⟨"PrinterHouse$Streams", "fontTask", "(I)V"⟩, 19) := ⟨⟨by decide +kernel, by decide +kernel⟩, List.mem_of_getElem? (i := 81) (by decide +kernel), List.mem_of_getElem? (i := 1258) (by decide +kernel), List.mem_of_getElem? (i := 1259) (by decide +kernel)⟩
theorem lw_p50 : lw_okq (⟨"PrinterHouse$Streams", "tellTile", "(I)V"⟩, 19) := ⟨⟨by decide +kernel, by decide +kernel⟩, List.mem_of_getElem? (i := 81) (by decide +kernel), List.mem_of_getElem? (i := 1264) (by decide +kernel), List.mem_of_getElem? (i := 1265) (by decide +kernel)⟩
theorem lw_p51 : lw_okq (⟨"PrinterHouse$Streams", "tileTask", "(I)V"⟩, 19) := ⟨⟨by decide +kernel, by decide +kernel⟩, List.mem_of_getElem? (i := 81) (by decide +kernel), List.mem_of_getElem? (i := 1270) (by decide +kernel), List.mem_of_getElem? (i := 1271) (by decide +kernel)⟩
theorem lw_p52 : lw_okq (⟨"PrinterHouse$Streams", "boxSide", "(I)I"⟩, 19) := ⟨⟨by decide +kernel, by decide +kernel⟩, List.mem_of_getElem? (i := 81) (by decide +kernel), List.mem_of_getElem? (i := 1274) (by decide +kernel), List.mem_of_getElem? (i := 1275) (by decide +kernel)⟩
theorem lw_p53 : lw_okq (⟨"PrinterHouse$Streams", "box", "(I)V"⟩, 19) := ⟨⟨by decide +kernel, by decide +kernel⟩, List.mem_of_getElem? (i := 81) (by decide +kernel), List.mem_of_getElem? (i := 1279) (by decide +kernel), List.mem_of_getElem? (i := 1280) (by decide +kernel)⟩
theorem lw_p54 : lw_okq (⟨"PrinterHouse$Streams", "setTile", "(LPrinterHouse$Tile;I)Z"⟩, 19) := ⟨⟨by decide +kernel, by decide +kernel⟩, List.mem_of_getElem? (i := 81) (by decide +kernel), List.mem_of_getElem? (i := 1283) (by decide +kernel), List.mem_of_getElem? (i := 1284) (by decide +kernel)⟩
theorem lw_p55 : lw_okq (⟨"PrinterHouse$Streams", "markBox", "(IIIILPrinterHouse$Tile;)V"⟩, 19) := ⟨⟨by decide +kernel, by decide +kernel⟩, List.mem_of_getElem? (i := 81) (by decide +kernel), List.mem_of_getElem? (i := 1310) (by decide +kernel), List.mem_of_getElem? (i := 1311) (by decide +kernel)⟩
theorem lw_p56 : lw_okq (⟨"PrinterHouse$Streams", "inkField", "(I)V"⟩, 19) := ⟨⟨by decide +kernel, by decide +kernel⟩, List.mem_of_getElem? (i := 81) (by decide +kernel), List.mem_of_getElem? (i := 1314) (by decide +kernel), List.mem_of_getElem? (i := 1315) (by decide +kernel)⟩
theorem lw_p57 : lw_okq (⟨"PrinterHouse$Streams", "scaleField", "(I)V"⟩, 19) := ⟨⟨by decide +kernel, by decide +kernel⟩, List.mem_of_getElem? (i := 81) (by decide +kernel), List.mem_of_getElem? (i := 1318) (by decide +kernel), List.mem_of_getElem? (i := 1319) (by decide +kernel)⟩
theorem lw_p58 : lw_okq (⟨"PrinterHouse$Streams", "rasterField", "(I)V"⟩, 19) := ⟨⟨by decide +kernel, by decide +kernel⟩, List.mem_of_getElem? (i := 81) (by decide +kernel), List.mem_of_getElem? (i := 1322) (by decide +kernel), List.mem_of_getElem? (i := 1323) (by decide +kernel)⟩
theorem lw_p59 : lw_okq (⟨"PrinterHouse$Streams", "beginRaster", "(I)V"⟩, 19) := ⟨⟨by decide +kernel, by decide +kernel⟩, List.mem_of_getElem? (i := 81) (by decide +kernel), List.mem_of_getElem? (i := 1326) (by decide +kernel), List.mem_of_getElem? (i := 1327) (by decide +kernel)⟩
theorem lw_p60 : lw_okq (⟨"PrinterHouse$Streams", "rowField", "(I)V"⟩, 19) := ⟨⟨by decide +kernel, by decide +kernel⟩, List.mem_of_getElem? (i := 81) (by decide +kernel), List.mem_of_getElem? (i := 1335) (by decide +kernel), List.mem_of_getElem? (i := 1336) (by decide +kernel)⟩
theorem lw_p61 : lw_okq (⟨"PrinterHouse$Streams", "growRows", "(I)V"⟩, 19) := ⟨⟨by decide +kernel, by decide +kernel⟩, List.mem_of_getElem? (i := 81) (by decide +kernel), List.mem_of_getElem? (i := 1340) (by decide +kernel), List.mem_of_getElem? (i := 1341) (by decide +kernel)⟩
theorem lw_p62 : lw_okq (⟨"PrinterHouse$Streams", "rasterRow", "()V"⟩, 19) := ⟨⟨by decide +kernel, by decide +kernel⟩, List.mem_of_getElem? (i := 81) (by decide +kernel), List.mem_of_getElem? (i := 1344) (by decide +kernel), List.mem_of_getElem? (i := 1345) (by decide +kernel)⟩
theorem lw_p63 : lw_okq (⟨"PrinterHouse$Raster", "unpackPairs", "(LPrinterHouse$Reading;)V"⟩, 8) := ⟨⟨by decide +kernel, by decide +kernel⟩, List.mem_of_getElem? (i := 298) (by decide +kernel), List.mem_of_getElem? (i := 1356) (by decide +kernel), List.mem_of_getElem? (i := 1357) (by decide +kernel)⟩
def lw_privs_4 : List (MethodName × Nat) := [(⟨"PrinterHouse$Streams", "controlField", "(I)V"⟩, 19), (⟨"PrinterHouse$Streams", "fontTask", "(I)V"⟩, 19), (⟨"PrinterHouse$Streams", "tellTile", "(I)V"⟩, 19), (⟨"PrinterHouse$Streams", "tileTask", "(I)V"⟩, 19), (⟨"PrinterHouse$Streams", "boxSide", "(I)I"⟩, 19), (⟨"PrinterHouse$Streams", "box", "(I)V"⟩, 19), (⟨"PrinterHouse$Streams", "setTile", "(LPrinterHouse$Tile;I)Z"⟩, 19), (⟨"PrinterHouse$Streams", "markBox", "(IIIILPrinterHouse$Tile;)V"⟩, 19), (⟨"PrinterHouse$Streams", "inkField", "(I)V"⟩, 19), (⟨"PrinterHouse$Streams", "scaleField", "(I)V"⟩, 19), (⟨"PrinterHouse$Streams", "rasterField", "(I)V"⟩, 19), (⟨"PrinterHouse$Streams", "beginRaster", "(I)V"⟩, 19), (⟨"PrinterHouse$Streams", "rowField", "(I)V"⟩, 19), (⟨"PrinterHouse$Streams", "growRows", "(I)V"⟩, 19), (⟨"PrinterHouse$Streams", "rasterRow", "()V"⟩, 19), (⟨"PrinterHouse$Raster", "unpackPairs", "(LPrinterHouse$Reading;)V"⟩, 8)]
theorem lw_r4 : ∀ q ∈ lw_privs_4, lw_okq q := List.forall_mem_cons.mpr ⟨lw_p48, List.forall_mem_cons.mpr ⟨lw_p49, List.forall_mem_cons.mpr ⟨lw_p50, List.forall_mem_cons.mpr ⟨lw_p51, List.forall_mem_cons.mpr ⟨lw_p52, List.forall_mem_cons.mpr ⟨lw_p53, List.forall_mem_cons.mpr ⟨lw_p54, List.forall_mem_cons.mpr ⟨lw_p55, List.forall_mem_cons.mpr ⟨lw_p56, List.forall_mem_cons.mpr ⟨lw_p57, List.forall_mem_cons.mpr ⟨lw_p58, List.forall_mem_cons.mpr ⟨lw_p59, List.forall_mem_cons.mpr ⟨lw_p60, List.forall_mem_cons.mpr ⟨lw_p61, List.forall_mem_cons.mpr ⟨lw_p62, List.forall_mem_cons.mpr ⟨lw_p63, fun _ h => absurd h List.not_mem_nil⟩⟩⟩⟩⟩⟩⟩⟩⟩⟩⟩⟩⟩⟩⟩⟩
theorem lw_p64 : lw_okq (⟨"PrinterHouse$Raster", "put", "(III)V"⟩, 8) := ⟨⟨by decide +kernel, by decide +kernel⟩, List.mem_of_getElem? (i := 298) (by decide +kernel), List.mem_of_getElem? (i := 1361) (by decide +kernel), List.mem_of_getElem? (i := 1362) (by decide +kernel)⟩
theorem lw_p65 : lw_okq (⟨"PrinterHouse$Raster", "unpackMixed", "(LPrinterHouse$Reading;)V"⟩, 8) := ⟨⟨by decide +kernel, by decide +kernel⟩, List.mem_of_getElem? (i := 298) (by decide +kernel), List.mem_of_getElem? (i := 1365) (by decide +kernel), List.mem_of_getElem? (i := 1366) (by decide +kernel)⟩
theorem lw_p66 : lw_okq (⟨"PrinterHouse$Raster", "unpackChanges", "(LPrinterHouse$Reading;)V"⟩, 8) := ⟨⟨by decide +kernel, by decide +kernel⟩, List.mem_of_getElem? (i := 298) (by decide +kernel), List.mem_of_getElem? (i := 1369) (by decide +kernel), List.mem_of_getElem? (i := 1370) (by decide +kernel)⟩
theorem lw_p67 : lw_okq (⟨"PrinterHouse$Streams", "obeyFont", "()V"⟩, 19) := ⟨⟨by decide +kernel, by decide +kernel⟩, List.mem_of_getElem? (i := 81) (by decide +kernel), List.mem_of_getElem? (i := 1388) (by decide +kernel), List.mem_of_getElem? (i := 1389) (by decide +kernel)⟩
theorem lw_p68 : lw_okq (⟨"PrinterHouse$Streams", "fontField", "([II)Z"⟩, 19) := ⟨⟨by decide +kernel, by decide +kernel⟩, List.mem_of_getElem? (i := 81) (by decide +kernel), List.mem_of_getElem? (i := 1392) (by decide +kernel), List.mem_of_getElem? (i := 1393) (by decide +kernel)⟩
theorem lw_p69 : lw_okq (⟨"PrinterHouse$Streams", "styleField", "([II)Z"⟩, 19) := ⟨⟨by decide +kernel, by decide +kernel⟩, List.mem_of_getElem? (i := 81) (by decide +kernel), List.mem_of_getElem? (i := 1403) (by decide +kernel), List.mem_of_getElem? (i := 1404) (by decide +kernel)⟩
theorem lw_p70 : lw_okq (⟨"PrinterHouse$Streams", "wishPitch", "([I)Z"⟩, 19) := ⟨⟨by decide +kernel, by decide +kernel⟩, List.mem_of_getElem? (i := 81) (by decide +kernel), List.mem_of_getElem? (i := 1407) (by decide +kernel), List.mem_of_getElem? (i := 1408) (by decide +kernel)⟩
theorem lw_p71 : lw_okq (⟨"PrinterHouse$Fonts", "slotFor", "(II)I"⟩, 10) := ⟨⟨by decide +kernel, by decide +kernel⟩, List.mem_of_getElem? (i := 165) (by decide +kernel), List.mem_of_getElem? (i := 1424) (by decide +kernel), List.mem_of_getElem? (i := 1425) (by decide +kernel)⟩
theorem lw_p72 : lw_okq (⟨"PrinterHouse$Fonts", "setNumber", "(III)V"⟩, 10) := ⟨⟨by decide +kernel, by decide +kernel⟩, List.mem_of_getElem? (i := 165) (by decide +kernel), List.mem_of_getElem? (i := 1433) (by decide +kernel), List.mem_of_getElem? (i := 1434) (by decide +kernel)⟩
theorem lw_p73 : lw_okq (⟨"PrinterHouse$Streams", "keepStates", "()V"⟩, 19) := ⟨⟨by decide +kernel, by decide +kernel⟩, List.mem_of_getElem? (i := 81) (by decide +kernel), List.mem_of_getElem? (i := 1437) (by decide +kernel), List.mem_of_getElem? (i := 1438) (by decide +kernel)⟩
theorem lw_p74 : lw_okq (⟨"PrinterHouse$Pictures", "readHeader", "()V"⟩, 21) := ⟨⟨by decide +kernel, by decide +kernel⟩, List.mem_of_getElem? (i := 545) (by decide +kernel), List.mem_of_getElem? (i := 1446) (by decide +kernel), List.mem_of_getElem? (i := 1447) (by decide +kernel)⟩
theorem lw_p75 : lw_okq (⟨"PrinterHouse$Pictures", "byteAt", "(J)I"⟩, 21) := ⟨⟨by decide +kernel, by decide +kernel⟩, List.mem_of_getElem? (i := 545) (by decide +kernel), List.mem_of_getElem? (i := 1450) (by decide +kernel), List.mem_of_getElem? (i := 1451) (by decide +kernel)⟩
theorem lw_p76 : lw_okq (⟨"PrinterHouse$Pictures", "fail", "(IJ)V"⟩, 21) := ⟨⟨by decide +kernel, by decide +kernel⟩, List.mem_of_getElem? (i := 545) (by decide +kernel), List.mem_of_getElem? (i := 1454) (by decide +kernel), List.mem_of_getElem? (i := 1455) (by decide +kernel)⟩
theorem lw_p77 : lw_okq (⟨"PrinterHouse$Pictures", "number", "(JI)J"⟩, 21) := ⟨⟨by decide +kernel, by decide +kernel⟩, List.mem_of_getElem? (i := 545) (by decide +kernel), List.mem_of_getElem? (i := 1460) (by decide +kernel), List.mem_of_getElem? (i := 1461) (by decide +kernel)⟩
theorem lw_p78 : lw_okq (⟨"PrinterHouse$Pictures", "readDirectory", "(J)J"⟩, 21) := ⟨⟨by decide +kernel, by decide +kernel⟩, List.mem_of_getElem? (i := 545) (by decide +kernel), List.mem_of_getElem? (i := 1464) (by decide +kernel), List.mem_of_getElem? (i := 1465) (by decide +kernel)⟩
theorem lw_p79 : lw_okq (⟨"PrinterHouse$Pictures", "isDirectory", "(JI)Z"⟩, 21) := ⟨⟨by decide +kernel, by decide +kernel⟩, List.mem_of_getElem? (i := 545) (by decide +kernel), List.mem_of_getElem? (i := 1470) (by decide +kernel), List.mem_of_getElem? (i := 1471) (by decide +kernel)⟩
def lw_privs_5 : List (MethodName × Nat) := [(⟨"PrinterHouse$Raster", "put", "(III)V"⟩, 8), (⟨"PrinterHouse$Raster", "unpackMixed", "(LPrinterHouse$Reading;)V"⟩, 8), (⟨"PrinterHouse$Raster", "unpackChanges", "(LPrinterHouse$Reading;)V"⟩, 8), (⟨"PrinterHouse$Streams", "obeyFont", "()V"⟩, 19), (⟨"PrinterHouse$Streams", "fontField", "([II)Z"⟩, 19), (⟨"PrinterHouse$Streams", "styleField", "([II)Z"⟩, 19), (⟨"PrinterHouse$Streams", "wishPitch", "([I)Z"⟩, 19), (⟨"PrinterHouse$Fonts", "slotFor", "(II)I"⟩, 10), (⟨"PrinterHouse$Fonts", "setNumber", "(III)V"⟩, 10), (⟨"PrinterHouse$Streams", "keepStates", "()V"⟩, 19), (⟨"PrinterHouse$Pictures", "readHeader", "()V"⟩, 21), (⟨"PrinterHouse$Pictures", "byteAt", "(J)I"⟩, 21), (⟨"PrinterHouse$Pictures", "fail", "(IJ)V"⟩, 21), (⟨"PrinterHouse$Pictures", "number", "(JI)J"⟩, 21), (⟨"PrinterHouse$Pictures", "readDirectory", "(J)J"⟩, 21), (⟨"PrinterHouse$Pictures", "isDirectory", "(JI)Z"⟩, 21)]
theorem lw_r5 : ∀ q ∈ lw_privs_5, lw_okq q := List.forall_mem_cons.mpr ⟨lw_p64, List.forall_mem_cons.mpr ⟨lw_p65, List.forall_mem_cons.mpr ⟨lw_p66, List.forall_mem_cons.mpr ⟨lw_p67, List.forall_mem_cons.mpr ⟨lw_p68, List.forall_mem_cons.mpr ⟨lw_p69, List.forall_mem_cons.mpr ⟨lw_p70, List.forall_mem_cons.mpr ⟨lw_p71, List.forall_mem_cons.mpr ⟨lw_p72, List.forall_mem_cons.mpr ⟨lw_p73, List.forall_mem_cons.mpr ⟨lw_p74, List.forall_mem_cons.mpr ⟨lw_p75, List.forall_mem_cons.mpr ⟨lw_p76, List.forall_mem_cons.mpr ⟨lw_p77, List.forall_mem_cons.mpr ⟨lw_p78, List.forall_mem_cons.mpr ⟨lw_p79, fun _ h => absurd h List.not_mem_nil⟩⟩⟩⟩⟩⟩⟩⟩⟩⟩⟩⟩⟩⟩⟩⟩
theorem lw_p80 : lw_okq (⟨"PrinterHouse$Pictures", "startEntries", "()V"⟩, 21) := ⟨⟨by decide +kernel, by decide +kernel⟩, List.mem_of_getElem? (i := 545) (by decide +kernel), List.mem_of_getElem? (i := 1474) (by decide +kernel), List.mem_of_getElem? (i := 1475) (by decide +kernel)⟩
theorem lw_p81 : lw_okq (⟨"PrinterHouse$Pictures", "readEntry", "(J)V"⟩, 21) := ⟨⟨by decide +kernel, by decide +kernel⟩, List.mem_of_getElem? (i := 545) (by decide +kernel), List.mem_of_getElem? (i := 1479) (by decide +kernel), List.mem_of_getElem? (i := 1480) (by decide +kernel)⟩
theorem lw_p82 : lw_okq (⟨"PrinterHouse$Pictures", "tell", "(IJ)Z"⟩, 21) := ⟨⟨by decide +kernel, by decide +kernel⟩, List.mem_of_getElem? (i := 545) (by decide +kernel), List.mem_of_getElem? (i := 1487) (by decide +kernel), List.mem_of_getElem? (i := 1488) (by decide +kernel)⟩
theorem lw_p83 : lw_okq (⟨"PrinterHouse$Pictures", "checkEntries", "(J)V"⟩, 21) := ⟨⟨by decide +kernel, by decide +kernel⟩, List.mem_of_getElem? (i := 545) (by decide +kernel), List.mem_of_getElem? (i := 1493) (by decide +kernel), List.mem_of_getElem? (i := 1494) (by decide +kernel)⟩
theorem lw_p84 : lw_okq (⟨"PrinterHouse$Pictures", "isList", "(J)Z"⟩, 21) := ⟨⟨by decide +kernel, by decide +kernel⟩, List.mem_of_getElem? (i := 545) (by decide +kernel), List.mem_of_getElem? (i := 1497) (by decide +kernel), List.mem_of_getElem? (i := 1498) (by decide +kernel)⟩
theorem lw_p85 : lw_okq (⟨"PrinterHouse$Pictures", "strips", "()J"⟩, 21) := ⟨⟨by decide +kernel, by decide +kernel⟩, List.mem_of_getElem? (i := 545) (by decide +kernel), List.mem_of_getElem? (i := 1502) (by decide +kernel), List.mem_of_getElem? (i := 1503) (by decide +kernel)⟩
theorem lw_p86 : lw_okq (⟨"PrinterHouse$Pictures", "readStrips", "()V"⟩, 21) := ⟨⟨by decide +kernel, by decide +kernel⟩, List.mem_of_getElem? (i := 545) (by decide +kernel), List.mem_of_getElem? (i := 1508) (by decide +kernel), List.mem_of_getElem? (i := 1509) (by decide +kernel)⟩
theorem lw_p87 : lw_okq (⟨"PrinterHouse$Pictures", "listed", "(JI)J"⟩, 21) := ⟨⟨by decide +kernel, by decide +kernel⟩, List.mem_of_getElem? (i := 545) (by decide +kernel), List.mem_of_getElem? (i := 1514) (by decide +kernel), List.mem_of_getElem? (i := 1515) (by decide +kernel)⟩
theorem lw_p88 : lw_okq (⟨"PrinterHouse$Pictures", "openStrip", "(II)V"⟩, 21) := ⟨⟨by decide +kernel, by decide +kernel⟩, List.mem_of_getElem? (i := 545) (by decide +kernel), List.mem_of_getElem? (i := 1518) (by decide +kernel), List.mem_of_getElem? (i := 1519) (by decide +kernel)⟩
theorem lw_p89 : lw_okq (⟨"PrinterHouse$Pictures", "readRow", "([III)Z"⟩, 21) := ⟨⟨by decide +kernel, by decide +kernel⟩, List.mem_of_getElem? (i := 545) (by decide +kernel), List.mem_of_getElem? (i := 1523) (by decide +kernel), List.mem_of_getElem? (i := 1524) (by decide +kernel)⟩
theorem lw_p90 : lw_okq (⟨"PrinterHouse$Pictures", "readMode", "()I"⟩, 21) := ⟨⟨by decide +kernel, by decide +kernel⟩, List.mem_of_getElem? (i := 545) (by decide +kernel), List.mem_of_getElem? (i := 1530) (by decide +kernel), List.mem_of_getElem? (i := 1531) (by decide +kernel)⟩
theorem lw_p91 : lw_okq (⟨"PrinterHouse$Pictures", "peek", "(I)I"⟩, 21) := ⟨⟨by decide +kernel, by decide +kernel⟩, List.mem_of_getElem? (i := 545) (by decide +kernel), List.mem_of_getElem? (i := 1534) (by decide +kernel), List.mem_of_getElem? (i := 1535) (by decide +kernel)⟩
theorem lw_p92 : lw_okq (⟨"PrinterHouse$Pictures", "skipBits", "(I)Z"⟩, 21) := ⟨⟨by decide +kernel, by decide +kernel⟩, List.mem_of_getElem? (i := 545) (by decide +kernel), List.mem_of_getElem? (i := 1538) (by decide +kernel), List.mem_of_getElem? (i := 1539) (by decide +kernel)⟩
theorem lw_p93 : lw_okq (⟨"PrinterHouse$Pictures", "readRun", "(I)I"⟩, 21) := ⟨⟨by decide +kernel, by decide +kernel⟩, List.mem_of_getElem? (i := 545) (by decide +kernel), List.mem_of_getElem? (i := 1545) (by decide +kernel), List.mem_of_getElem? (i := 1546) (by decide +kernel)⟩
theorem lw_p94 : lw_okq (⟨"PrinterHouse$Pictures", "invert", "([I)V"⟩, 21) := ⟨⟨by decide +kernel, by decide +kernel⟩, List.mem_of_getElem? (i := 545) (by decide +kernel), List.mem_of_getElem? (i := 1550) (by decide +kernel), List.mem_of_getElem? (i := 1551) (by decide +kernel)⟩
theorem lw_p95 : lw_okq (⟨"PrinterHouse$Streams", "bytesOfMacros", "()I"⟩, 19) := ⟨⟨by decide +kernel, by decide +kernel⟩, List.mem_of_getElem? (i := 81) (by decide +kernel), List.mem_of_getElem? (i := 1639) (by decide +kernel), List.mem_of_getElem? (i := 1640) (by decide +kernel)⟩
def lw_privs_6 : List (MethodName × Nat) := [(⟨"PrinterHouse$Pictures", "startEntries", "()V"⟩, 21), (⟨"PrinterHouse$Pictures", "readEntry", "(J)V"⟩, 21), (⟨"PrinterHouse$Pictures", "tell", "(IJ)Z"⟩, 21), (⟨"PrinterHouse$Pictures", "checkEntries", "(J)V"⟩, 21), (⟨"PrinterHouse$Pictures", "isList", "(J)Z"⟩, 21), (⟨"PrinterHouse$Pictures", "strips", "()J"⟩, 21), (⟨"PrinterHouse$Pictures", "readStrips", "()V"⟩, 21), (⟨"PrinterHouse$Pictures", "listed", "(JI)J"⟩, 21), (⟨"PrinterHouse$Pictures", "openStrip", "(II)V"⟩, 21), (⟨"PrinterHouse$Pictures", "readRow", "([III)Z"⟩, 21), (⟨"PrinterHouse$Pictures", "readMode", "()I"⟩, 21), (⟨"PrinterHouse$Pictures", "peek", "(I)I"⟩, 21), (⟨"PrinterHouse$Pictures", "skipBits", "(I)Z"⟩, 21), (⟨"PrinterHouse$Pictures", "readRun", "(I)I"⟩, 21), (⟨"PrinterHouse$Pictures", "invert", "([I)V"⟩, 21), (⟨"PrinterHouse$Streams", "bytesOfMacros", "()I"⟩, 19)]
theorem lw_r6 : ∀ q ∈ lw_privs_6, lw_okq q := List.forall_mem_cons.mpr ⟨lw_p80, List.forall_mem_cons.mpr ⟨lw_p81, List.forall_mem_cons.mpr ⟨lw_p82, List.forall_mem_cons.mpr ⟨lw_p83, List.forall_mem_cons.mpr ⟨lw_p84, List.forall_mem_cons.mpr ⟨lw_p85, List.forall_mem_cons.mpr ⟨lw_p86, List.forall_mem_cons.mpr ⟨lw_p87, List.forall_mem_cons.mpr ⟨lw_p88, List.forall_mem_cons.mpr ⟨lw_p89, List.forall_mem_cons.mpr ⟨lw_p90, List.forall_mem_cons.mpr ⟨lw_p91, List.forall_mem_cons.mpr ⟨lw_p92, List.forall_mem_cons.mpr ⟨lw_p93, List.forall_mem_cons.mpr ⟨lw_p94, List.forall_mem_cons.mpr ⟨lw_p95, fun _ h => absurd h List.not_mem_nil⟩⟩⟩⟩⟩⟩⟩⟩⟩⟩⟩⟩⟩⟩⟩⟩
theorem lw_p96 : lw_okq (⟨"PrinterHouseModel", "readCodes", "()V"⟩, 80) := ⟨⟨by decide +kernel, by decide +kernel⟩, List.mem_of_getElem? (i := 1651) (by decide +kernel), List.mem_of_getElem? (i := 1660) (by decide +kernel), List.mem_of_getElem? (i := 1661) (by decide +kernel)⟩
theorem lw_p97 : lw_okq (⟨"PrinterHouseModel", "readRow", "(Ljava/lang/String;I)V"⟩, 80) := ⟨⟨by decide +kernel, by decide +kernel⟩, List.mem_of_getElem? (i := 1651) (by decide +kernel), List.mem_of_getElem? (i := 1665) (by decide +kernel), List.mem_of_getElem? (i := 1666) (by decide +kernel)⟩
theorem lw_p98 : lw_okq (⟨"PrinterHouseModel", "lay", "(I)V"⟩, 80) := ⟨⟨by decide +kernel, by decide +kernel⟩, List.mem_of_getElem? (i := 1651) (by decide +kernel), List.mem_of_getElem? (i := 1963) (by decide +kernel), List.mem_of_getElem? (i := 1964) (by decide +kernel)⟩
theorem lw_p99 : lw_okq (⟨"PrinterHouseModel", "white", "()V"⟩, 80) := ⟨⟨by decide +kernel, by decide +kernel⟩, List.mem_of_getElem? (i := 1651) (by decide +kernel), List.mem_of_getElem? (i := 1983) (by decide +kernel), List.mem_of_getElem? (i := 1984) (by decide +kernel)⟩
theorem lw_p100 : lw_okq (⟨"PrinterHouseModel", "stream", "(I)V"⟩, 80) := ⟨⟨by decide +kernel, by decide +kernel⟩, List.mem_of_getElem? (i := 1651) (by decide +kernel), List.mem_of_getElem? (i := 1987) (by decide +kernel), List.mem_of_getElem? (i := 1988) (by decide +kernel)⟩
theorem lw_p101 : lw_okq (⟨"PrinterHouseModel", "reset", "(II)V"⟩, 80) := ⟨⟨by decide +kernel, by decide +kernel⟩, List.mem_of_getElem? (i := 1651) (by decide +kernel), List.mem_of_getElem? (i := 1991) (by decide +kernel), List.mem_of_getElem? (i := 1992) (by decide +kernel)⟩
theorem lw_p102 : lw_okq (⟨"PrinterHouseModel", "pagesOwn", "()V"⟩, 80) := ⟨⟨by decide +kernel, by decide +kernel⟩, List.mem_of_getElem? (i := 1651) (by decide +kernel), List.mem_of_getElem? (i := 1995) (by decide +kernel), List.mem_of_getElem? (i := 1996) (by decide +kernel)⟩
theorem lw_p103 : lw_okq (⟨"PrinterHouseModel", "wide", "()I"⟩, 80) := ⟨⟨by decide +kernel, by decide +kernel⟩, List.mem_of_getElem? (i := 1651) (by decide +kernel), List.mem_of_getElem? (i := 1999) (by decide +kernel), List.mem_of_getElem? (i := 2000) (by decide +kernel)⟩
theorem lw_p104 : lw_okq (⟨"PrinterHouseModel", "high", "()I"⟩, 80) := ⟨⟨by decide +kernel, by decide +kernel⟩, List.mem_of_getElem? (i := 1651) (by decide +kernel), List.mem_of_getElem? (i := 2009) (by decide +kernel), List.mem_of_getElem? (i := 2010) (by decide +kernel)⟩
theorem lw_p105 : lw_okq (⟨"PrinterHouseModel", "setX", "(J)V"⟩, 80) := ⟨⟨by decide +kernel, by decide +kernel⟩, List.mem_of_getElem? (i := 1651) (by decide +kernel), List.mem_of_getElem? (i := 2013) (by decide +kernel), List.mem_of_getElem? (i := 2014) (by decide +kernel)⟩
theorem lw_p106 : lw_okq (⟨"PrinterHouseModel", "homeY", "()V"⟩, 80) := ⟨⟨by decide +kernel, by decide +kernel⟩, List.mem_of_getElem? (i := 1651) (by decide +kernel), List.mem_of_getElem? (i := 2018) (by decide +kernel), List.mem_of_getElem? (i := 2019) (by decide +kernel)⟩
theorem lw_p107 : lw_okq (⟨"PrinterHouseModel", "setY", "(J)V"⟩, 80) := ⟨⟨by decide +kernel, by decide +kernel⟩, List.mem_of_getElem? (i := 1651) (by decide +kernel), List.mem_of_getElem? (i := 2022) (by decide +kernel), List.mem_of_getElem? (i := 2023) (by decide +kernel)⟩
theorem lw_p108 : lw_okq (⟨"PrinterHouseModel", "run", "()V"⟩, 80) := ⟨⟨by decide +kernel, by decide +kernel⟩, List.mem_of_getElem? (i := 1651) (by decide +kernel), List.mem_of_getElem? (i := 2026) (by decide +kernel), List.mem_of_getElem? (i := 2027) (by decide +kernel)⟩
theorem lw_p109 : lw_okq (⟨"PrinterHouseModel", "hasMore", "()Z"⟩, 80) := ⟨⟨by decide +kernel, by decide +kernel⟩, List.mem_of_getElem? (i := 1651) (by decide +kernel), List.mem_of_getElem? (i := 2030) (by decide +kernel), List.mem_of_getElem? (i := 2031) (by decide +kernel)⟩
theorem lw_p110 : lw_okq (⟨"PrinterHouseModel", "next", "()I"⟩, 80) := ⟨⟨by decide +kernel, by decide +kernel⟩, List.mem_of_getElem? (i := 1651) (by decide +kernel), List.mem_of_getElem? (i := 2034) (by decide +kernel), List.mem_of_getElem? (i := 2035) (by decide +kernel)⟩
theorem lw_p111 : lw_okq (⟨"PrinterHouseModel", "count", "(I)V"⟩, 80) := ⟨⟨by decide +kernel, by decide +kernel⟩, List.mem_of_getElem? (i := 1651) (by decide +kernel), List.mem_of_getElem? (i := 2038) (by decide +kernel), List.mem_of_getElem? (i := 2039) (by decide +kernel)⟩
def lw_privs_7 : List (MethodName × Nat) := [(⟨"PrinterHouseModel", "readCodes", "()V"⟩, 80), (⟨"PrinterHouseModel", "readRow", "(Ljava/lang/String;I)V"⟩, 80), (⟨"PrinterHouseModel", "lay", "(I)V"⟩, 80), (⟨"PrinterHouseModel", "white", "()V"⟩, 80), (⟨"PrinterHouseModel", "stream", "(I)V"⟩, 80), (⟨"PrinterHouseModel", "reset", "(II)V"⟩, 80), (⟨"PrinterHouseModel", "pagesOwn", "()V"⟩, 80), (⟨"PrinterHouseModel", "wide", "()I"⟩, 80), (⟨"PrinterHouseModel", "high", "()I"⟩, 80), (⟨"PrinterHouseModel", "setX", "(J)V"⟩, 80), (⟨"PrinterHouseModel", "homeY", "()V"⟩, 80), (⟨"PrinterHouseModel", "setY", "(J)V"⟩, 80), (⟨"PrinterHouseModel", "run", "()V"⟩, 80), (⟨"PrinterHouseModel", "hasMore", "()Z"⟩, 80), (⟨"PrinterHouseModel", "next", "()I"⟩, 80), (⟨"PrinterHouseModel", "count", "(I)V"⟩, 80)]
theorem lw_r7 : ∀ q ∈ lw_privs_7, lw_okq q := List.forall_mem_cons.mpr ⟨lw_p96, List.forall_mem_cons.mpr ⟨lw_p97, List.forall_mem_cons.mpr ⟨lw_p98, List.forall_mem_cons.mpr ⟨lw_p99, List.forall_mem_cons.mpr ⟨lw_p100, List.forall_mem_cons.mpr ⟨lw_p101, List.forall_mem_cons.mpr ⟨lw_p102, List.forall_mem_cons.mpr ⟨lw_p103, List.forall_mem_cons.mpr ⟨lw_p104, List.forall_mem_cons.mpr ⟨lw_p105, List.forall_mem_cons.mpr ⟨lw_p106, List.forall_mem_cons.mpr ⟨lw_p107, List.forall_mem_cons.mpr ⟨lw_p108, List.forall_mem_cons.mpr ⟨lw_p109, List.forall_mem_cons.mpr ⟨lw_p110, List.forall_mem_cons.mpr ⟨lw_p111, fun _ h => absurd h List.not_mem_nil⟩⟩⟩⟩⟩⟩⟩⟩⟩⟩⟩⟩⟩⟩⟩⟩
theorem lw_p112 : lw_okq (⟨"PrinterHouseModel", "escape", "()V"⟩, 80) := ⟨⟨by decide +kernel, by decide +kernel⟩, List.mem_of_getElem? (i := 1651) (by decide +kernel), List.mem_of_getElem? (i := 2043) (by decide +kernel), List.mem_of_getElem? (i := 2044) (by decide +kernel)⟩
theorem lw_p113 : lw_okq (⟨"PrinterHouseModel", "peek", "()I"⟩, 80) := ⟨⟨by decide +kernel, by decide +kernel⟩, List.mem_of_getElem? (i := 1651) (by decide +kernel), List.mem_of_getElem? (i := 2047) (by decide +kernel), List.mem_of_getElem? (i := 2048) (by decide +kernel)⟩
theorem lw_p114 : lw_okq (⟨"PrinterHouseModel", "pair", "(I)V"⟩, 80) := ⟨⟨by decide +kernel, by decide +kernel⟩, List.mem_of_getElem? (i := 1651) (by decide +kernel), List.mem_of_getElem? (i := 2051) (by decide +kernel), List.mem_of_getElem? (i := 2052) (by decide +kernel)⟩
theorem lw_p115 : lw_okq (⟨"PrinterHouseModel", "eject", "()V"⟩, 80) := ⟨⟨by decide +kernel, by decide +kernel⟩, List.mem_of_getElem? (i := 1651) (by decide +kernel), List.mem_of_getElem? (i := 2055) (by decide +kernel), List.mem_of_getElem? (i := 2056) (by decide +kernel)⟩
theorem lw_p116 : lw_okq (⟨"PrinterHouseModel", "save", "(I)V"⟩, 80) := ⟨⟨by decide +kernel, by decide +kernel⟩, List.mem_of_getElem? (i := 1651) (by decide +kernel), List.mem_of_getElem? (i := 2059) (by decide +kernel), List.mem_of_getElem? (i := 2060) (by decide +kernel)⟩
theorem lw_p117 : lw_okq (⟨"PrinterHouseModel", "through", "(I)V"⟩, 80) := ⟨⟨by decide +kernel, by decide +kernel⟩, List.mem_of_getElem? (i := 1651) (by decide +kernel), List.mem_of_getElem? (i := 2063) (by decide +kernel), List.mem_of_getElem? (i := 2064) (by decide +kernel)⟩
theorem lw_p118 : lw_okq (⟨"PrinterHouseModel", "back", "(I)V"⟩, 80) := ⟨⟨by decide +kernel, by decide +kernel⟩, List.mem_of_getElem? (i := 1651) (by decide +kernel), List.mem_of_getElem? (i := 2067) (by decide +kernel), List.mem_of_getElem? (i := 2068) (by decide +kernel)⟩
theorem lw_p119 : lw_okq (⟨"PrinterHouseModel", "comes", "(II)V"⟩, 80) := ⟨⟨by decide +kernel, by decide +kernel⟩, List.mem_of_getElem? (i := 1651) (by decide +kernel), List.mem_of_getElem? (i := 2071) (by decide +kernel), List.mem_of_getElem? (i := 2072) (by decide +kernel)⟩
theorem lw_p120 : lw_okq (⟨"PrinterHouseModel", "written", "(I)V"⟩, 80) := ⟨⟨by decide +kernel, by decide +kernel⟩, List.mem_of_getElem? (i := 1651) (by decide +kernel), List.mem_of_getElem? (i := 2075) (by decide +kernel), List.mem_of_getElem? (i := 2076) (by decide +kernel)⟩
theorem lw_p121 : lw_okq (⟨"PrinterHouseModel", "outByte", "(I)V"⟩, 80) := ⟨⟨by decide +kernel, by decide +kernel⟩, List.mem_of_getElem? (i := 1651) (by decide +kernel), List.mem_of_getElem? (i := 2079) (by decide +kernel), List.mem_of_getElem? (i := 2080) (by decide +kernel)⟩
theorem lw_p122 : lw_okq (⟨"PrinterHouseModel", "outNumber", "(IJ)V"⟩, 80) := ⟨⟨by decide +kernel, by decide +kernel⟩, List.mem_of_getElem? (i := 1651) (by decide +kernel), List.mem_of_getElem? (i := 2084) (by decide +kernel), List.mem_of_getElem? (i := 2085) (by decide +kernel)⟩
theorem lw_p123 : lw_okq (⟨"PrinterHouseModel", "writeRow", "()V"⟩, 80) := ⟨⟨by decide +kernel, by decide +kernel⟩, List.mem_of_getElem? (i := 1651) (by decide +kernel), List.mem_of_getElem? (i := 2088) (by decide +kernel), List.mem_of_getElem? (i := 2089) (by decide +kernel)⟩
theorem lw_p124 : lw_okq (⟨"PrinterHouseModel", "change", "(II)I"⟩, 80) := ⟨⟨by decide +kernel, by decide +kernel⟩, List.mem_of_getElem? (i := 1651) (by decide +kernel), List.mem_of_getElem? (i := 2092) (by decide +kernel), List.mem_of_getElem? (i := 2093) (by decide +kernel)⟩
theorem lw_p125 : lw_okq (⟨"PrinterHouseModel", "b1", "()I"⟩, 80) := ⟨⟨by decide +kernel, by decide +kernel⟩, List.mem_of_getElem? (i := 1651) (by decide +kernel), List.mem_of_getElem? (i := 2096) (by decide +kernel), List.mem_of_getElem? (i := 2097) (by decide +kernel)⟩
theorem lw_p126 : lw_okq (⟨"PrinterHouseModel", "b2", "(I)I"⟩, 80) := ⟨⟨by decide +kernel, by decide +kernel⟩, List.mem_of_getElem? (i := 1651) (by decide +kernel), List.mem_of_getElem? (i := 2100) (by decide +kernel), List.mem_of_getElem? (i := 2101) (by decide +kernel)⟩
theorem lw_p127 : lw_okq (⟨"PrinterHouseModel", "bits", "(II)V"⟩, 80) := ⟨⟨by decide +kernel, by decide +kernel⟩, List.mem_of_getElem? (i := 1651) (by decide +kernel), List.mem_of_getElem? (i := 2104) (by decide +kernel), List.mem_of_getElem? (i := 2105) (by decide +kernel)⟩
def lw_privs_8 : List (MethodName × Nat) := [(⟨"PrinterHouseModel", "escape", "()V"⟩, 80), (⟨"PrinterHouseModel", "peek", "()I"⟩, 80), (⟨"PrinterHouseModel", "pair", "(I)V"⟩, 80), (⟨"PrinterHouseModel", "eject", "()V"⟩, 80), (⟨"PrinterHouseModel", "save", "(I)V"⟩, 80), (⟨"PrinterHouseModel", "through", "(I)V"⟩, 80), (⟨"PrinterHouseModel", "back", "(I)V"⟩, 80), (⟨"PrinterHouseModel", "comes", "(II)V"⟩, 80), (⟨"PrinterHouseModel", "written", "(I)V"⟩, 80), (⟨"PrinterHouseModel", "outByte", "(I)V"⟩, 80), (⟨"PrinterHouseModel", "outNumber", "(IJ)V"⟩, 80), (⟨"PrinterHouseModel", "writeRow", "()V"⟩, 80), (⟨"PrinterHouseModel", "change", "(II)I"⟩, 80), (⟨"PrinterHouseModel", "b1", "()I"⟩, 80), (⟨"PrinterHouseModel", "b2", "(I)I"⟩, 80), (⟨"PrinterHouseModel", "bits", "(II)V"⟩, 80)]
theorem lw_r8 : ∀ q ∈ lw_privs_8, lw_okq q := List.forall_mem_cons.mpr ⟨lw_p112, List.forall_mem_cons.mpr ⟨lw_p113, List.forall_mem_cons.mpr ⟨lw_p114, List.forall_mem_cons.mpr ⟨lw_p115, List.forall_mem_cons.mpr ⟨lw_p116, List.forall_mem_cons.mpr ⟨lw_p117, List.forall_mem_cons.mpr ⟨lw_p118, List.forall_mem_cons.mpr ⟨lw_p119, List.forall_mem_cons.mpr ⟨lw_p120, List.forall_mem_cons.mpr ⟨lw_p121, List.forall_mem_cons.mpr ⟨lw_p122, List.forall_mem_cons.mpr ⟨lw_p123, List.forall_mem_cons.mpr ⟨lw_p124, List.forall_mem_cons.mpr ⟨lw_p125, List.forall_mem_cons.mpr ⟨lw_p126, List.forall_mem_cons.mpr ⟨lw_p127, fun _ h => absurd h List.not_mem_nil⟩⟩⟩⟩⟩⟩⟩⟩⟩⟩⟩⟩⟩⟩⟩⟩
theorem lw_p128 : lw_okq (⟨"PrinterHouseModel", "writeRun", "(II)V"⟩, 80) := ⟨⟨by decide +kernel, by decide +kernel⟩, List.mem_of_getElem? (i := 1651) (by decide +kernel), List.mem_of_getElem? (i := 2108) (by decide +kernel), List.mem_of_getElem? (i := 2109) (by decide +kernel)⟩
theorem lw_p129 : lw_okq (⟨"PrinterHouseModel", "entry", "(III)V"⟩, 80) := ⟨⟨by decide +kernel, by decide +kernel⟩, List.mem_of_getElem? (i := 1651) (by decide +kernel), List.mem_of_getElem? (i := 2113) (by decide +kernel), List.mem_of_getElem? (i := 2114) (by decide +kernel)⟩
theorem lw_p130 : lw_okq (⟨"PrinterHouseModel", "temporaryGo", "()V"⟩, 80) := ⟨⟨by decide +kernel, by decide +kernel⟩, List.mem_of_getElem? (i := 1651) (by decide +kernel), List.mem_of_getElem? (i := 2118) (by decide +kernel), List.mem_of_getElem? (i := 2119) (by decide +kernel)⟩
theorem lw_p131 : lw_okq (⟨"PrinterHouseModel", "fontsGo", "(Z)V"⟩, 80) := ⟨⟨by decide +kernel, by decide +kernel⟩, List.mem_of_getElem? (i := 1651) (by decide +kernel), List.mem_of_getElem? (i := 2122) (by decide +kernel), List.mem_of_getElem? (i := 2123) (by decide +kernel)⟩
theorem lw_p132 : lw_okq (⟨"PrinterHouseModel", "fontGoes", "(I)V"⟩, 80) := ⟨⟨by decide +kernel, by decide +kernel⟩, List.mem_of_getElem? (i := 1651) (by decide +kernel), List.mem_of_getElem? (i := 2126) (by decide +kernel), List.mem_of_getElem? (i := 2127) (by decide +kernel)⟩
theorem lw_p133 : lw_okq (⟨"PrinterHouseModel", "glyphGoes", "(II)V"⟩, 80) := ⟨⟨by decide +kernel, by decide +kernel⟩, List.mem_of_getElem? (i := 1651) (by decide +kernel), List.mem_of_getElem? (i := 2130) (by decide +kernel), List.mem_of_getElem? (i := 2131) (by decide +kernel)⟩
theorem lw_p134 : lw_okq (⟨"PrinterHouseModel", "usersGo", "(Z)V"⟩, 80) := ⟨⟨by decide +kernel, by decide +kernel⟩, List.mem_of_getElem? (i := 1651) (by decide +kernel), List.mem_of_getElem? (i := 2134) (by decide +kernel), List.mem_of_getElem? (i := 2135) (by decide +kernel)⟩
theorem lw_p135 : lw_okq (⟨"PrinterHouseModel", "macrosGo", "(Z)V"⟩, 80) := ⟨⟨by decide +kernel, by decide +kernel⟩, List.mem_of_getElem? (i := 1651) (by decide +kernel), List.mem_of_getElem? (i := 2138) (by decide +kernel), List.mem_of_getElem? (i := 2139) (by decide +kernel)⟩
theorem lw_p136 : lw_okq (⟨"PrinterHouseModel", "line", "(I)V"⟩, 80) := ⟨⟨by decide +kernel, by decide +kernel⟩, List.mem_of_getElem? (i := 1651) (by decide +kernel), List.mem_of_getElem? (i := 2142) (by decide +kernel), List.mem_of_getElem? (i := 2143) (by decide +kernel)⟩
theorem lw_p137 : lw_okq (⟨"PrinterHouseModel", "transparent", "()V"⟩, 80) := ⟨⟨by decide +kernel, by decide +kernel⟩, List.mem_of_getElem? (i := 1651) (by decide +kernel), List.mem_of_getElem? (i := 2146) (by decide +kernel), List.mem_of_getElem? (i := 2147) (by decide +kernel)⟩
theorem lw_p138 : lw_okq (⟨"PrinterHouseModel", "shown", "(I)V"⟩, 80) := ⟨⟨by decide +kernel, by decide +kernel⟩, List.mem_of_getElem? (i := 1651) (by decide +kernel), List.mem_of_getElem? (i := 2150) (by decide +kernel), List.mem_of_getElem? (i := 2151) (by decide +kernel)⟩
theorem lw_p139 : lw_okq (⟨"PrinterHouseModel", "show", "(I)V"⟩, 80) := ⟨⟨by decide +kernel, by decide +kernel⟩, List.mem_of_getElem? (i := 1651) (by decide +kernel), List.mem_of_getElem? (i := 2154) (by decide +kernel), List.mem_of_getElem? (i := 2155) (by decide +kernel)⟩
theorem lw_p140 : lw_okq (⟨"PrinterHouseModel", "fontInUse", "()I"⟩, 80) := ⟨⟨by decide +kernel, by decide +kernel⟩, List.mem_of_getElem? (i := 1651) (by decide +kernel), List.mem_of_getElem? (i := 2158) (by decide +kernel), List.mem_of_getElem? (i := 2159) (by decide +kernel)⟩
theorem lw_p141 : lw_okq (⟨"PrinterHouseModel", "wish", "(I)I"⟩, 80) := ⟨⟨by decide +kernel, by decide +kernel⟩, List.mem_of_getElem? (i := 1651) (by decide +kernel), List.mem_of_getElem? (i := 2162) (by decide +kernel), List.mem_of_getElem? (i := 2163) (by decide +kernel)⟩
theorem lw_p142 : lw_okq (⟨"PrinterHouseModel", "keep", "(II)V"⟩, 80) := ⟨⟨by decide +kernel, by decide +kernel⟩, List.mem_of_getElem? (i := 1651) (by decide +kernel), List.mem_of_getElem? (i := 2166) (by decide +kernel), List.mem_of_getElem? (i := 2167) (by decide +kernel)⟩
theorem lw_p143 : lw_okq (⟨"PrinterHouseModel", "nearest", "(II)V"⟩, 80) := ⟨⟨by decide +kernel, by decide +kernel⟩, List.mem_of_getElem? (i := 1651) (by decide +kernel), List.mem_of_getElem? (i := 2170) (by decide +kernel), List.mem_of_getElem? (i := 2171) (by decide +kernel)⟩
def lw_privs_9 : List (MethodName × Nat) := [(⟨"PrinterHouseModel", "writeRun", "(II)V"⟩, 80), (⟨"PrinterHouseModel", "entry", "(III)V"⟩, 80), (⟨"PrinterHouseModel", "temporaryGo", "()V"⟩, 80), (⟨"PrinterHouseModel", "fontsGo", "(Z)V"⟩, 80), (⟨"PrinterHouseModel", "fontGoes", "(I)V"⟩, 80), (⟨"PrinterHouseModel", "glyphGoes", "(II)V"⟩, 80), (⟨"PrinterHouseModel", "usersGo", "(Z)V"⟩, 80), (⟨"PrinterHouseModel", "macrosGo", "(Z)V"⟩, 80), (⟨"PrinterHouseModel", "line", "(I)V"⟩, 80), (⟨"PrinterHouseModel", "transparent", "()V"⟩, 80), (⟨"PrinterHouseModel", "shown", "(I)V"⟩, 80), (⟨"PrinterHouseModel", "show", "(I)V"⟩, 80), (⟨"PrinterHouseModel", "fontInUse", "()I"⟩, 80), (⟨"PrinterHouseModel", "wish", "(I)I"⟩, 80), (⟨"PrinterHouseModel", "keep", "(II)V"⟩, 80), (⟨"PrinterHouseModel", "nearest", "(II)V"⟩, 80)]
theorem lw_r9 : ∀ q ∈ lw_privs_9, lw_okq q := List.forall_mem_cons.mpr ⟨lw_p128, List.forall_mem_cons.mpr ⟨lw_p129, List.forall_mem_cons.mpr ⟨lw_p130, List.forall_mem_cons.mpr ⟨lw_p131, List.forall_mem_cons.mpr ⟨lw_p132, List.forall_mem_cons.mpr ⟨lw_p133, List.forall_mem_cons.mpr ⟨lw_p134, List.forall_mem_cons.mpr ⟨lw_p135, List.forall_mem_cons.mpr ⟨lw_p136, List.forall_mem_cons.mpr ⟨lw_p137, List.forall_mem_cons.mpr ⟨lw_p138, List.forall_mem_cons.mpr ⟨lw_p139, List.forall_mem_cons.mpr ⟨lw_p140, List.forall_mem_cons.mpr ⟨lw_p141, List.forall_mem_cons.mpr ⟨lw_p142, List.forall_mem_cons.mpr ⟨lw_p143, fun _ h => absurd h List.not_mem_nil⟩⟩⟩⟩⟩⟩⟩⟩⟩⟩⟩⟩⟩⟩⟩⟩
theorem lw_p144 : lw_okq (⟨"PrinterHouseModel", "mark", "(JJJJ)Z"⟩, 80) := ⟨⟨by decide +kernel, by decide +kernel⟩, List.mem_of_getElem? (i := 1651) (by decide +kernel), List.mem_of_getElem? (i := 2185) (by decide +kernel), List.mem_of_getElem? (i := 2186) (by decide +kernel)⟩
theorem lw_p145 : lw_okq (⟨"PrinterHouseModel", "useAtHand", "()V"⟩, 80) := ⟨⟨by decide +kernel, by decide +kernel⟩, List.mem_of_getElem? (i := 1651) (by decide +kernel), List.mem_of_getElem? (i := 2190) (by decide +kernel), List.mem_of_getElem? (i := 2191) (by decide +kernel)⟩
theorem lw_p146 : lw_okq (⟨"PrinterHouseModel", "residentGlyph", "(III)V"⟩, 80) := ⟨⟨by decide +kernel, by decide +kernel⟩, List.mem_of_getElem? (i := 1651) (by decide +kernel), List.mem_of_getElem? (i := 2194) (by decide +kernel), List.mem_of_getElem? (i := 2195) (by decide +kernel)⟩
theorem lw_p147 : lw_okq (⟨"PrinterHouseModel", "lay", "(III)V"⟩, 80) := ⟨⟨by decide +kernel, by decide +kernel⟩, List.mem_of_getElem? (i := 1651) (by decide +kernel), List.mem_of_getElem? (i := 2198) (by decide +kernel), List.mem_of_getElem? (i := 2199) (by decide +kernel)⟩
theorem lw_p148 : lw_okq (⟨"PrinterHouseModel", "patternAt", "(II)I"⟩, 80) := ⟨⟨by decide +kernel, by decide +kernel⟩, List.mem_of_getElem? (i := 1651) (by decide +kernel), List.mem_of_getElem? (i := 2202) (by decide +kernel), List.mem_of_getElem? (i := 2203) (by decide +kernel)⟩
theorem lw_p149 : lw_okq (⟨"PrinterHouseModel", "glyph", "(III)V"⟩, 80) := ⟨⟨by decide +kernel, by decide +kernel⟩, List.mem_of_getElem? (i := 1651) (by decide +kernel), List.mem_of_getElem? (i := 2213) (by decide +kernel), List.mem_of_getElem? (i := 2214) (by decide +kernel)⟩
theorem lw_p150 : lw_okq (⟨"PrinterHouseModel", "readValue", "()V"⟩, 80) := ⟨⟨by decide +kernel, by decide +kernel⟩, List.mem_of_getElem? (i := 1651) (by decide +kernel), List.mem_of_getElem? (i := 2217) (by decide +kernel), List.mem_of_getElem? (i := 2218) (by decide +kernel)⟩
theorem lw_p151 : lw_okq (⟨"PrinterHouseModel", "withData", "(III)V"⟩, 80) := ⟨⟨by decide +kernel, by decide +kernel⟩, List.mem_of_getElem? (i := 1651) (by decide +kernel), List.mem_of_getElem? (i := 2222) (by decide +kernel), List.mem_of_getElem? (i := 2223) (by decide +kernel)⟩
theorem lw_p152 : lw_okq (⟨"PrinterHouseModel", "fontData", "(I)V"⟩, 80) := ⟨⟨by decide +kernel, by decide +kernel⟩, List.mem_of_getElem? (i := 1651) (by decide +kernel), List.mem_of_getElem? (i := 2226) (by decide +kernel), List.mem_of_getElem? (i := 2227) (by decide +kernel)⟩
theorem lw_p153 : lw_okq (⟨"PrinterHouseModel", "dataAt", "(I)I"⟩, 80) := ⟨⟨by decide +kernel, by decide +kernel⟩, List.mem_of_getElem? (i := 1651) (by decide +kernel), List.mem_of_getElem? (i := 2230) (by decide +kernel), List.mem_of_getElem? (i := 2231) (by decide +kernel)⟩
theorem lw_p154 : lw_okq (⟨"PrinterHouseModel", "signedAt", "(I)I"⟩, 80) := ⟨⟨by decide +kernel, by decide +kernel⟩, List.mem_of_getElem? (i := 1651) (by decide +kernel), List.mem_of_getElem? (i := 2234) (by decide +kernel), List.mem_of_getElem? (i := 2235) (by decide +kernel)⟩
theorem lw_p155 : lw_okq (⟨"PrinterHouseModel", "glyphData", "(I)V"⟩, 80) := ⟨⟨by decide +kernel, by decide +kernel⟩, List.mem_of_getElem? (i := 1651) (by decide +kernel), List.mem_of_getElem? (i := 2238) (by decide +kernel), List.mem_of_getElem? (i := 2239) (by decide +kernel)⟩
theorem lw_p156 : lw_okq (⟨"PrinterHouseModel", "userData", "(I)V"⟩, 80) := ⟨⟨by decide +kernel, by decide +kernel⟩, List.mem_of_getElem? (i := 1651) (by decide +kernel), List.mem_of_getElem? (i := 2242) (by decide +kernel), List.mem_of_getElem? (i := 2243) (by decide +kernel)⟩
theorem lw_p157 : lw_okq (⟨"PrinterHouseModel", "rowData", "(I)V"⟩, 80) := ⟨⟨by decide +kernel, by decide +kernel⟩, List.mem_of_getElem? (i := 1651) (by decide +kernel), List.mem_of_getElem? (i := 2246) (by decide +kernel), List.mem_of_getElem? (i := 2247) (by decide +kernel)⟩
theorem lw_p158 : lw_okq (⟨"PrinterHouseModel", "begin", "(Z)V"⟩, 80) := ⟨⟨by decide +kernel, by decide +kernel⟩, List.mem_of_getElem? (i := 1651) (by decide +kernel), List.mem_of_getElem? (i := 2250) (by decide +kernel), List.mem_of_getElem? (i := 2251) (by decide +kernel)⟩
theorem lw_p159 : lw_okq (⟨"PrinterHouseModel", "unpack", "(I)V"⟩, 80) := ⟨⟨by decide +kernel, by decide +kernel⟩, List.mem_of_getElem? (i := 1651) (by decide +kernel), List.mem_of_getElem? (i := 2254) (by decide +kernel), List.mem_of_getElem? (i := 2255) (by decide +kernel)⟩
def lw_privs_10 : List (MethodName × Nat) := [(⟨"PrinterHouseModel", "mark", "(JJJJ)Z"⟩, 80), (⟨"PrinterHouseModel", "useAtHand", "()V"⟩, 80), (⟨"PrinterHouseModel", "residentGlyph", "(III)V"⟩, 80), (⟨"PrinterHouseModel", "lay", "(III)V"⟩, 80), (⟨"PrinterHouseModel", "patternAt", "(II)I"⟩, 80), (⟨"PrinterHouseModel", "glyph", "(III)V"⟩, 80), (⟨"PrinterHouseModel", "readValue", "()V"⟩, 80), (⟨"PrinterHouseModel", "withData", "(III)V"⟩, 80), (⟨"PrinterHouseModel", "fontData", "(I)V"⟩, 80), (⟨"PrinterHouseModel", "dataAt", "(I)I"⟩, 80), (⟨"PrinterHouseModel", "signedAt", "(I)I"⟩, 80), (⟨"PrinterHouseModel", "glyphData", "(I)V"⟩, 80), (⟨"PrinterHouseModel", "userData", "(I)V"⟩, 80), (⟨"PrinterHouseModel", "rowData", "(I)V"⟩, 80), (⟨"PrinterHouseModel", "begin", "(Z)V"⟩, 80), (⟨"PrinterHouseModel", "unpack", "(I)V"⟩, 80)]
theorem lw_r10 : ∀ q ∈ lw_privs_10, lw_okq q := List.forall_mem_cons.mpr ⟨lw_p144, List.forall_mem_cons.mpr ⟨lw_p145, List.forall_mem_cons.mpr ⟨lw_p146, List.forall_mem_cons.mpr ⟨lw_p147, List.forall_mem_cons.mpr ⟨lw_p148, List.forall_mem_cons.mpr ⟨lw_p149, List.forall_mem_cons.mpr ⟨lw_p150, List.forall_mem_cons.mpr ⟨lw_p151, List.forall_mem_cons.mpr ⟨lw_p152, List.forall_mem_cons.mpr ⟨lw_p153, List.forall_mem_cons.mpr ⟨lw_p154, List.forall_mem_cons.mpr ⟨lw_p155, List.forall_mem_cons.mpr ⟨lw_p156, List.forall_mem_cons.mpr ⟨lw_p157, List.forall_mem_cons.mpr ⟨lw_p158, List.forall_mem_cons.mpr ⟨lw_p159, fun _ h => absurd h List.not_mem_nil⟩⟩⟩⟩⟩⟩⟩⟩⟩⟩⟩⟩⟩⟩⟩⟩
theorem lw_p160 : lw_okq (⟨"PrinterHouseModel", "changed", "(I)V"⟩, 80) := ⟨⟨by decide +kernel, by decide +kernel⟩, List.mem_of_getElem? (i := 1651) (by decide +kernel), List.mem_of_getElem? (i := 2258) (by decide +kernel), List.mem_of_getElem? (i := 2259) (by decide +kernel)⟩
theorem lw_p161 : lw_okq (⟨"PrinterHouseModel", "fill", "(I)V"⟩, 80) := ⟨⟨by decide +kernel, by decide +kernel⟩, List.mem_of_getElem? (i := 1651) (by decide +kernel), List.mem_of_getElem? (i := 2262) (by decide +kernel), List.mem_of_getElem? (i := 2263) (by decide +kernel)⟩
theorem lw_p162 : lw_okq (⟨"PrinterHouseModel", "field", "(III)V"⟩, 80) := ⟨⟨by decide +kernel, by decide +kernel⟩, List.mem_of_getElem? (i := 1651) (by decide +kernel), List.mem_of_getElem? (i := 2266) (by decide +kernel), List.mem_of_getElem? (i := 2267) (by decide +kernel)⟩
theorem lw_p163 : lw_okq (⟨"PrinterHouseModel", "pageField", "(I)V"⟩, 80) := ⟨⟨by decide +kernel, by decide +kernel⟩, List.mem_of_getElem? (i := 1651) (by decide +kernel), List.mem_of_getElem? (i := 2270) (by decide +kernel), List.mem_of_getElem? (i := 2271) (by decide +kernel)⟩
theorem lw_p164 : lw_okq (⟨"PrinterHouseModel", "units", "(J)J"⟩, 80) := ⟨⟨by decide +kernel, by decide +kernel⟩, List.mem_of_getElem? (i := 1651) (by decide +kernel), List.mem_of_getElem? (i := 2275) (by decide +kernel), List.mem_of_getElem? (i := 2276) (by decide +kernel)⟩
theorem lw_p165 : lw_okq (⟨"PrinterHouseModel", "placeField", "(I)V"⟩, 80) := ⟨⟨by decide +kernel, by decide +kernel⟩, List.mem_of_getElem? (i := 1651) (by decide +kernel), List.mem_of_getElem? (i := 2280) (by decide +kernel), List.mem_of_getElem? (i := 2281) (by decide +kernel)⟩
theorem lw_p166 : lw_okq (⟨"PrinterHouseModel", "macroField", "(I)V"⟩, 80) := ⟨⟨by decide +kernel, by decide +kernel⟩, List.mem_of_getElem? (i := 1651) (by decide +kernel), List.mem_of_getElem? (i := 2286) (by decide +kernel), List.mem_of_getElem? (i := 2287) (by decide +kernel)⟩
theorem lw_p167 : lw_okq (⟨"PrinterHouseModel", "macroAct", "()V"⟩, 80) := ⟨⟨by decide +kernel, by decide +kernel⟩, List.mem_of_getElem? (i := 1651) (by decide +kernel), List.mem_of_getElem? (i := 2290) (by decide +kernel), List.mem_of_getElem? (i := 2291) (by decide +kernel)⟩
theorem lw_p168 : lw_okq (⟨"PrinterHouseModel", "define", "(I)V"⟩, 80) := ⟨⟨by decide +kernel, by decide +kernel⟩, List.mem_of_getElem? (i := 1651) (by decide +kernel), List.mem_of_getElem? (i := 2294) (by decide +kernel), List.mem_of_getElem? (i := 2295) (by decide +kernel)⟩
theorem lw_p169 : lw_okq (⟨"PrinterHouseModel", "endsMacro", "(I)Z"⟩, 80) := ⟨⟨by decide +kernel, by decide +kernel⟩, List.mem_of_getElem? (i := 1651) (by decide +kernel), List.mem_of_getElem? (i := 2298) (by decide +kernel), List.mem_of_getElem? (i := 2299) (by decide +kernel)⟩
theorem lw_p170 : lw_okq (⟨"PrinterHouseModel", "dotField", "(I)V"⟩, 80) := ⟨⟨by decide +kernel, by decide +kernel⟩, List.mem_of_getElem? (i := 1651) (by decide +kernel), List.mem_of_getElem? (i := 2302) (by decide +kernel), List.mem_of_getElem? (i := 2303) (by decide +kernel)⟩
theorem lw_p171 : lw_okq (⟨"PrinterHouseModel", "modelField", "(I)V"⟩, 80) := ⟨⟨by decide +kernel, by decide +kernel⟩, List.mem_of_getElem? (i := 1651) (by decide +kernel), List.mem_of_getElem? (i := 2306) (by decide +kernel), List.mem_of_getElem? (i := 2307) (by decide +kernel)⟩
theorem lw_p172 : lw_okq (⟨"PrinterHouseModel", "hasPattern", "(II)Z"⟩, 80) := ⟨⟨by decide +kernel, by decide +kernel⟩, List.mem_of_getElem? (i := 1651) (by decide +kernel), List.mem_of_getElem? (i := 2310) (by decide +kernel), List.mem_of_getElem? (i := 2311) (by decide +kernel)⟩
theorem lw_p173 : lw_okq (⟨"PrinterHouseModel", "putPattern", "([IIII)V"⟩, 80) := ⟨⟨by decide +kernel, by decide +kernel⟩, List.mem_of_getElem? (i := 1651) (by decide +kernel), List.mem_of_getElem? (i := 2314) (by decide +kernel), List.mem_of_getElem? (i := 2315) (by decide +kernel)⟩
theorem lw_p174 : lw_okq (⟨"PrinterHouseModel", "thingField", "(I)V"⟩, 80) := ⟨⟨by decide +kernel, by decide +kernel⟩, List.mem_of_getElem? (i := 1651) (by decide +kernel), List.mem_of_getElem? (i := 2318) (by decide +kernel), List.mem_of_getElem? (i := 2319) (by decide +kernel)⟩
theorem lw_p175 : lw_okq (⟨"PrinterHouseModel", "rectangle", "()V"⟩, 80) := ⟨⟨by decide +kernel, by decide +kernel⟩, List.mem_of_getElem? (i := 1651) (by decide +kernel), List.mem_of_getElem? (i := 2326) (by decide +kernel), List.mem_of_getElem? (i := 2327) (by decide +kernel)⟩
def lw_privs_11 : List (MethodName × Nat) := [(⟨"PrinterHouseModel", "changed", "(I)V"⟩, 80), (⟨"PrinterHouseModel", "fill", "(I)V"⟩, 80), (⟨"PrinterHouseModel", "field", "(III)V"⟩, 80), (⟨"PrinterHouseModel", "pageField", "(I)V"⟩, 80), (⟨"PrinterHouseModel", "units", "(J)J"⟩, 80), (⟨"PrinterHouseModel", "placeField", "(I)V"⟩, 80), (⟨"PrinterHouseModel", "macroField", "(I)V"⟩, 80), (⟨"PrinterHouseModel", "macroAct", "()V"⟩, 80), (⟨"PrinterHouseModel", "define", "(I)V"⟩, 80), (⟨"PrinterHouseModel", "endsMacro", "(I)Z"⟩, 80), (⟨"PrinterHouseModel", "dotField", "(I)V"⟩, 80), (⟨"PrinterHouseModel", "modelField", "(I)V"⟩, 80), (⟨"PrinterHouseModel", "hasPattern", "(II)Z"⟩, 80), (⟨"PrinterHouseModel", "putPattern", "([IIII)V"⟩, 80), (⟨"PrinterHouseModel", "thingField", "(I)V"⟩, 80), (⟨"PrinterHouseModel", "rectangle", "()V"⟩, 80)]
theorem lw_r11 : ∀ q ∈ lw_privs_11, lw_okq q := List.forall_mem_cons.mpr ⟨lw_p160, List.forall_mem_cons.mpr ⟨lw_p161, List.forall_mem_cons.mpr ⟨lw_p162, List.forall_mem_cons.mpr ⟨lw_p163, List.forall_mem_cons.mpr ⟨lw_p164, List.forall_mem_cons.mpr ⟨lw_p165, List.forall_mem_cons.mpr ⟨lw_p166, List.forall_mem_cons.mpr ⟨lw_p167, List.forall_mem_cons.mpr ⟨lw_p168, List.forall_mem_cons.mpr ⟨lw_p169, List.forall_mem_cons.mpr ⟨lw_p170, List.forall_mem_cons.mpr ⟨lw_p171, List.forall_mem_cons.mpr ⟨lw_p172, List.forall_mem_cons.mpr ⟨lw_p173, List.forall_mem_cons.mpr ⟨lw_p174, List.forall_mem_cons.mpr ⟨lw_p175, fun _ h => absurd h List.not_mem_nil⟩⟩⟩⟩⟩⟩⟩⟩⟩⟩⟩⟩⟩⟩⟩⟩
theorem lw_p176 : lw_okq (⟨"PrinterHouseModel", "fontAct", "()V"⟩, 80) := ⟨⟨by decide +kernel, by decide +kernel⟩, List.mem_of_getElem? (i := 1651) (by decide +kernel), List.mem_of_getElem? (i := 2330) (by decide +kernel), List.mem_of_getElem? (i := 2331) (by decide +kernel)⟩
theorem lw_p177 : lw_okq (⟨"PrinterHouseModel", "userAct", "()V"⟩, 80) := ⟨⟨by decide +kernel, by decide +kernel⟩, List.mem_of_getElem? (i := 1651) (by decide +kernel), List.mem_of_getElem? (i := 2334) (by decide +kernel), List.mem_of_getElem? (i := 2335) (by decide +kernel)⟩
theorem lw_p178 : lw_okq (⟨"PrinterHouseModel", "rasterField", "(I)V"⟩, 80) := ⟨⟨by decide +kernel, by decide +kernel⟩, List.mem_of_getElem? (i := 1651) (by decide +kernel), List.mem_of_getElem? (i := 2338) (by decide +kernel), List.mem_of_getElem? (i := 2339) (by decide +kernel)⟩
theorem lw_p179 : lw_okq (⟨"PrinterHouseModel", "rowField", "(I)V"⟩, 80) := ⟨⟨by decide +kernel, by decide +kernel⟩, List.mem_of_getElem? (i := 1651) (by decide +kernel), List.mem_of_getElem? (i := 2342) (by decide +kernel), List.mem_of_getElem? (i := 2343) (by decide +kernel)⟩
theorem lw_p180 : lw_okq (⟨"PrinterHouseModel", "fontField", "(III)V"⟩, 80) := ⟨⟨by decide +kernel, by decide +kernel⟩, List.mem_of_getElem? (i := 1651) (by decide +kernel), List.mem_of_getElem? (i := 2346) (by decide +kernel), List.mem_of_getElem? (i := 2347) (by decide +kernel)⟩
theorem lw_p181 : lw_okq (⟨"PrinterHouseModel", "plain", "(I)V"⟩, 80) := ⟨⟨by decide +kernel, by decide +kernel⟩, List.mem_of_getElem? (i := 1651) (by decide +kernel), List.mem_of_getElem? (i := 2352) (by decide +kernel), List.mem_of_getElem? (i := 2353) (by decide +kernel)⟩
theorem lw_p182 : lw_okq (⟨"PrinterHouseModel", "tab", "()V"⟩, 80) := ⟨⟨by decide +kernel, by decide +kernel⟩, List.mem_of_getElem? (i := 1651) (by decide +kernel), List.mem_of_getElem? (i := 2356) (by decide +kernel), List.mem_of_getElem? (i := 2357) (by decide +kernel)⟩
theorem lw_p183 : lw_okq (⟨"PrinterHouseModel", "pictures", "(I)Z"⟩, 80) := ⟨⟨by decide +kernel, by decide +kernel⟩, List.mem_of_getElem? (i := 1651) (by decide +kernel), List.mem_of_getElem? (i := 2360) (by decide +kernel), List.mem_of_getElem? (i := 2361) (by decide +kernel)⟩
theorem lw_p184 : lw_okq (⟨"PrinterHouseModel", "wrong", "(II)Z"⟩, 80) := ⟨⟨by decide +kernel, by decide +kernel⟩, List.mem_of_getElem? (i := 1651) (by decide +kernel), List.mem_of_getElem? (i := 2364) (by decide +kernel), List.mem_of_getElem? (i := 2365) (by decide +kernel)⟩
theorem lw_p185 : lw_okq (⟨"PrinterHouseModel", "picture", "(II)J"⟩, 80) := ⟨⟨by decide +kernel, by decide +kernel⟩, List.mem_of_getElem? (i := 1651) (by decide +kernel), List.mem_of_getElem? (i := 2368) (by decide +kernel), List.mem_of_getElem? (i := 2369) (by decide +kernel)⟩
theorem lw_p186 : lw_okq (⟨"PrinterHouseModel", "directory", "(II)Z"⟩, 80) := ⟨⟨by decide +kernel, by decide +kernel⟩, List.mem_of_getElem? (i := 1651) (by decide +kernel), List.mem_of_getElem? (i := 2375) (by decide +kernel), List.mem_of_getElem? (i := 2376) (by decide +kernel)⟩
theorem lw_p187 : lw_okq (⟨"PrinterHouseModel", "valueOf", "(II)J"⟩, 80) := ⟨⟨by decide +kernel, by decide +kernel⟩, List.mem_of_getElem? (i := 1651) (by decide +kernel), List.mem_of_getElem? (i := 2383) (by decide +kernel), List.mem_of_getElem? (i := 2384) (by decide +kernel)⟩
theorem lw_p188 : lw_okq (⟨"PrinterHouseModel", "readRow", "()Z"⟩, 80) := ⟨⟨by decide +kernel, by decide +kernel⟩, List.mem_of_getElem? (i := 1651) (by decide +kernel), List.mem_of_getElem? (i := 2392) (by decide +kernel), List.mem_of_getElem? (i := 2393) (by decide +kernel)⟩
theorem lw_p189 : lw_okq (⟨"PrinterHouseModel", "mode", "()I"⟩, 80) := ⟨⟨by decide +kernel, by decide +kernel⟩, List.mem_of_getElem? (i := 1651) (by decide +kernel), List.mem_of_getElem? (i := 2396) (by decide +kernel), List.mem_of_getElem? (i := 2397) (by decide +kernel)⟩
theorem lw_p190 : lw_okq (⟨"PrinterHouseModel", "bit", "()I"⟩, 80) := ⟨⟨by decide +kernel, by decide +kernel⟩, List.mem_of_getElem? (i := 1651) (by decide +kernel), List.mem_of_getElem? (i := 2400) (by decide +kernel), List.mem_of_getElem? (i := 2401) (by decide +kernel)⟩
theorem lw_p191 : lw_okq (⟨"PrinterHouseModel", "readRun", "(I)I"⟩, 80) := ⟨⟨by decide +kernel, by decide +kernel⟩, List.mem_of_getElem? (i := 1651) (by decide +kernel), List.mem_of_getElem? (i := 2404) (by decide +kernel), List.mem_of_getElem? (i := 2405) (by decide +kernel)⟩
def lw_privs_12 : List (MethodName × Nat) := [(⟨"PrinterHouseModel", "fontAct", "()V"⟩, 80), (⟨"PrinterHouseModel", "userAct", "()V"⟩, 80), (⟨"PrinterHouseModel", "rasterField", "(I)V"⟩, 80), (⟨"PrinterHouseModel", "rowField", "(I)V"⟩, 80), (⟨"PrinterHouseModel", "fontField", "(III)V"⟩, 80), (⟨"PrinterHouseModel", "plain", "(I)V"⟩, 80), (⟨"PrinterHouseModel", "tab", "()V"⟩, 80), (⟨"PrinterHouseModel", "pictures", "(I)Z"⟩, 80), (⟨"PrinterHouseModel", "wrong", "(II)Z"⟩, 80), (⟨"PrinterHouseModel", "picture", "(II)J"⟩, 80), (⟨"PrinterHouseModel", "directory", "(II)Z"⟩, 80), (⟨"PrinterHouseModel", "valueOf", "(II)J"⟩, 80), (⟨"PrinterHouseModel", "readRow", "()Z"⟩, 80), (⟨"PrinterHouseModel", "mode", "()I"⟩, 80), (⟨"PrinterHouseModel", "bit", "()I"⟩, 80), (⟨"PrinterHouseModel", "readRun", "(I)I"⟩, 80)]
theorem lw_r12 : ∀ q ∈ lw_privs_12, lw_okq q := List.forall_mem_cons.mpr ⟨lw_p176, List.forall_mem_cons.mpr ⟨lw_p177, List.forall_mem_cons.mpr ⟨lw_p178, List.forall_mem_cons.mpr ⟨lw_p179, List.forall_mem_cons.mpr ⟨lw_p180, List.forall_mem_cons.mpr ⟨lw_p181, List.forall_mem_cons.mpr ⟨lw_p182, List.forall_mem_cons.mpr ⟨lw_p183, List.forall_mem_cons.mpr ⟨lw_p184, List.forall_mem_cons.mpr ⟨lw_p185, List.forall_mem_cons.mpr ⟨lw_p186, List.forall_mem_cons.mpr ⟨lw_p187, List.forall_mem_cons.mpr ⟨lw_p188, List.forall_mem_cons.mpr ⟨lw_p189, List.forall_mem_cons.mpr ⟨lw_p190, List.forall_mem_cons.mpr ⟨lw_p191, fun _ h => absurd h List.not_mem_nil⟩⟩⟩⟩⟩⟩⟩⟩⟩⟩⟩⟩⟩⟩⟩⟩
theorem lw_p192 : lw_okq (⟨"PrinterHouseModel", "oneRun", "(I)I"⟩, 80) := ⟨⟨by decide +kernel, by decide +kernel⟩, List.mem_of_getElem? (i := 1651) (by decide +kernel), List.mem_of_getElem? (i := 2408) (by decide +kernel), List.mem_of_getElem? (i := 2409) (by decide +kernel)⟩
theorem lw_p193 : lw_okq (⟨"PrinterHouseModel", "paint", "(II)V"⟩, 80) := ⟨⟨by decide +kernel, by decide +kernel⟩, List.mem_of_getElem? (i := 1651) (by decide +kernel), List.mem_of_getElem? (i := 2412) (by decide +kernel), List.mem_of_getElem? (i := 2413) (by decide +kernel)⟩
def lw_privs_13 : List (MethodName × Nat) := [(⟨"PrinterHouseModel", "oneRun", "(I)I"⟩, 80), (⟨"PrinterHouseModel", "paint", "(II)V"⟩, 80)]
theorem lw_r13 : ∀ q ∈ lw_privs_13, lw_okq q := List.forall_mem_cons.mpr ⟨lw_p192, List.forall_mem_cons.mpr ⟨lw_p193, fun _ h => absurd h List.not_mem_nil⟩⟩
def lw_privs : List (MethodName × Nat) := lw_privs_1 ++ (lw_privs_2 ++ (lw_privs_3 ++ (lw_privs_4 ++ (lw_privs_5 ++ (lw_privs_6 ++ (lw_privs_7 ++ (lw_privs_8 ++ (lw_privs_9 ++ (lw_privs_10 ++ (lw_privs_11 ++ (lw_privs_12 ++ (lw_privs_13))))))))))))
def lw_tbl : List Cond := k2_sels lw_privs ++ tables_1
theorem lw_privs_ok : ∀ q ∈ lw_privs, lw_okq q := by
  show ∀ q ∈ lw_privs_1 ++ (lw_privs_2 ++ (lw_privs_3 ++ (lw_privs_4 ++ (lw_privs_5 ++ (lw_privs_6 ++ (lw_privs_7 ++ (lw_privs_8 ++ (lw_privs_9 ++ (lw_privs_10 ++ (lw_privs_11 ++ (lw_privs_12 ++ (lw_privs_13)))))))))))), lw_okq q
  exact List.forall_mem_append.mpr ⟨lw_r1, List.forall_mem_append.mpr ⟨lw_r2, List.forall_mem_append.mpr ⟨lw_r3, List.forall_mem_append.mpr ⟨lw_r4, List.forall_mem_append.mpr ⟨lw_r5, List.forall_mem_append.mpr ⟨lw_r6, List.forall_mem_append.mpr ⟨lw_r7, List.forall_mem_append.mpr ⟨lw_r8, List.forall_mem_append.mpr ⟨lw_r9, List.forall_mem_append.mpr ⟨lw_r10, List.forall_mem_append.mpr ⟨lw_r11, List.forall_mem_append.mpr ⟨lw_r12, lw_r13⟩⟩⟩⟩⟩⟩⟩⟩⟩⟩⟩⟩
end
section
/-- the printed names use va_AOA and do not give it -/
def va_AOA (ty : FieldType) (U : State) : Prop := (Cond.arrayOver (.array ty)).before #[] U = true
theorem va_AOA.use {ty : FieldType} {A : Array Value} {U : State} (h : va_AOA ty U) : (Cond.arrayOver (.array ty)).before A U = true := h
/-! ===== BEGIN words of one list among another's, by their places ===== -/
theorem goodIn_r {big : List Cond} (ws : List Cond) (ps : List Nat) (hp : ws = ps.filterMap (fun i => big[i]?)) (h : ws.all goodWord = true) : GoodIn big ws := by
  intro w hw
  have h1 := List.all_eq_true.mp h w hw
  rw [hp] at hw
  obtain ⟨i, -, hi⟩ := List.mem_filterMap.mp hw
  have hm : w ∈ big := by first | exact List.mem_of_getElem? hi | exact List.getElem?_mem hi
  exact ⟨hm, good_of_word h1⟩
theorem goodIn_app {big a b : List Cond} (ha : GoodIn big a) (hb : GoodIn big b) : GoodIn big (a ++ b) := fun w h => (List.mem_append.mp h).elim (ha w) (hb w)
theorem goodIn_ca {big a b : List Cond} {c : Cond} (ha : GoodIn big (c :: a)) (hb : GoodIn big b) : GoodIn big (c :: (a ++ b)) := fun w h => (List.mem_cons.mp h).elim (fun e => ha w (List.mem_cons.mpr (Or.inl e))) (fun h => (List.mem_append.mp h).elim (fun h => ha w (List.mem_cons.mpr (Or.inr h))) (hb w))
theorem goodIn_sub {big ws : List Cond} (hm : ∀ w ∈ ws, w ∈ big) (h : ws.all goodWord = true) : GoodIn big ws := fun w hw => ⟨hm w hw, good_of_word (List.all_eq_true.mp h w hw)⟩
/-! ===== BEGIN new T[n][m]: the outer array a place, the inner ones among the pooled ===== -/
/-- f, but v at every address of l -/
def vr_up {α : Type} (f : Nat → α) (l : List Nat) (v : α) : Nat → α := fun a => if a ∈ l then v else f a
theorem vr_up_in {α : Type} {f : Nat → α} {l : List Nat} {v : α} {a : Nat} (h : a ∈ l) : vr_up f l v a = v := if_pos h
theorem vr_up_ne {α : Type} {f : Nat → α} {l : List Nat} {v : α} {a : Nat} (h : a ∉ l) : vr_up f l v a = f a := if_neg h
theorem vr_rows {L l : List Nat} {f : Nat → va_E} {e : va_E} (h : ∀ a, a ∈ l → a ∉ L) : va_pl L f ++ l.map (fun a => (a, e)) = va_pl (L ++ l) (vr_up f l e) := by
  unfold va_pl
  rw [List.map_append]
  congr 1
  · apply List.map_congr_left
    intro a ha
    rw [vr_up_ne (fun q => h a q ha)]
  · apply List.map_congr_left
    intro a ha
    rw [vr_up_in ha]
theorem vr_lay {X rows : va_W} {x : Nat × va_E} {pl : va_W} {D : va_G} {cl : List vw_C} {H : Heap} (hP : va_P D cl (((X ++ pl) ++ [x]) ++ rows) H) : va_P D cl ((X ++ [x]) ++ (pl ++ rows)) H := by
  rw [List.append_assoc (X ++ pl)] at hP
  have h := va_P.swap hP
  rw [← List.append_assoc X] at h
  have h2 := va_P.swap h
  rw [List.append_assoc (X ++ [x])] at h2
  exact h2
theorem vr_layD {X rows : va_W} {x : Nat × va_E} {pl : va_W} {A : Nat → Prop} (hD : va_D A (((X ++ pl) ++ [x]) ++ rows)) : va_D A ((X ++ [x]) ++ (pl ++ rows)) := by
  rw [List.append_assoc (X ++ pl)] at hD
  have h := va_D.swap hD
  rw [← List.append_assoc X] at h
  have h2 := va_D.swap h
  rw [List.append_assoc (X ++ [x])] at h2
  exact h2
theorem vr_outer (c : ClassId) (N h0 : Nat) : ∀ i : Nat, Jvm.Free.Multi.outerC c N h0 i = arrV c N (fun j => va_rf (if j < i then some (h0 + 1 + j) else none))
  | 0 => by
    show ({ cls := c, slots := Array.replicate N .null, vm := .none } : Cell) = _
    rw [arrV_new]
    refine congrArg (arrV c N) (funext fun j => ?_)
    simp [va_rf]
  | i + 1 => by
    show (Jvm.Free.Multi.outerC c N h0 i).setSlot i (.ref (h0 + 1 + i)) = _
    rw [vr_outer c N h0 i, arrV_store]
    refine congrArg (arrV c N) (funext fun j => ?_)
    by_cases e : j = i
    · subst e
      simp [updV, va_rf]
    · by_cases h : j < i
      · simp [updV, e, h, Nat.lt_succ_of_lt h]
      · simp [updV, e, h, show ¬ j < i + 1 by omega]
section VGM
variable {p : Program} {l : Launch} {e : Env} {R : Room} {s : State} {m : MethodId} {args : Array Value} {below : List Frame} {meth : Method} {c : Code} {H : Heap} {locs : List Loc} {cells slots : Nat} {Q : State → Prop}
variable {cc : ByteArray} {pc : Nat} {ls : Array Slot} {rest : List Value} {D : va_G} {cl : List vw_C} {A : Nat → Prop} {a : Nat} {tys : List (ClassId × FieldType)} {ws : va_W} {H0 : Heap}
theorem va_mna {X : va_W} {L : List Nat} {f : Nat → va_E} {cc : ByteArray} (hexec : p.tables.exec = Jvm.exec) (hb : c.code = cc) {own : String} {index : Nat} {ty : FieldType} {cy : ClassId} (hown : s.vm.findClass own = some m.cls) (hclink : (Cond.classLink own index ("[" ++ (FieldType.array ty).toString)).before args s = true) (hover : va_AOA ty s) (harr : (Cond.arrayClass ty).before args s = true) (hcy : s.vm.findClass (FieldType.array ty).toString = some cy)
    (hK : va_K D cl tys s) (hP : va_P D cl (X ++ va_pl L f) H) (hD : va_D A (X ++ va_pl L f)) (hS : va_S A H0 H locs) (hA : ∀ q, H0.size ≤ q → A q) {n k : Int32} {N' K' : Nat} {z : vp_A} (hn : ¬ n < 0) (hk : ¬ k < 0) (hN : n.toNatClampNeg = N') (hM : k.toNatClampNeg = K')
    (hb1 : N' * 4 ≤ 536870912) (hb2 : K' * componentBytes ty ≤ 536870912) (hb3 : K' ≤ 536870912) (hdf : fits ty (defaultValue ty) = true) (hdd : (defaultValue ty).isDefault = true) (hcells : cells + (1 + N') ≤ R.cells) (hslots : slots + (N' + N' * K') ≤ R.slots) (hz : ∀ c : ClassId, Jvm.Free.Multi.innerC c K' (defaultValue ty) = vp_cell c z) (hdg : decode cc pc = .ok (.multianewarray index 2, 4))
    (kk : ∀ (q : Nat) (r : Nat → Nat) (cA : ClassId) (H1 : Heap), (∀ i j : Nat, i < N' → j < N' → r i = r j → i = j) → (∀ i : Nat, i < N' → r i ∉ L) → va_K D cl (tys ++ [(cA, .array ty)]) s →
      va_P D cl ((X ++ [(q, .inl (cA, N', .inr (.inr (.inr (.inr (fun i => if i < N' then some (r i) else none))))))]) ++ va_pl (L ++ (List.range N').map r) (vr_up f ((List.range N').map r) (.inl (cy, z)))) H1 → va_D A ((X ++ [(q, .inl (cA, N', .inr (.inr (.inr (.inr (fun i => if i < N' then some (r i) else none))))))]) ++ va_pl (L ++ (List.range N').map r) (vr_up f ((List.range N').map r) (.inl (cy, z)))) → va_S A H0 H1 locs →
      W p l e R s m args below meth c H1 locs (cells + 1 + N') (slots + N' + N' * K') Q (F0 m (pc + 4) ls (.ref q :: rest))) : W p l e R s m args below meth c H locs cells slots Q (F0 m pc ls (.int k :: .int n :: rest)) := by
  subst hN
  subst hM
  intro T hT Xs
  obtain ⟨vm₁, cA, comp, -, fA, fC, hO, -, X', step⟩ := Xs.multianewarray2F hexec hown hclink (va_AOA.use hover) harr (g := F0 m pc ls (.int k :: .int n :: rest)) rfl (by rw [hb]; exact hdg) rfl hn hk hb1 hb2 hb3 hdf hdd hcells hslots
  have ec : some cy = some comp := hcy.symm.trans fC
  cases ec
  generalize hF : Jvm.Free.Multi.fill (T.setVm vm₁) cA cy n.toNatClampNeg k.toNatClampNeg (defaultValue ty) n.toNatClampNeg = F at X' step
  have hTh : (T.setVm vm₁).heap = H := hT
  obtain ⟨f1, f2, -, -⟩ := Jvm.Free.Multi.fill_facts (T.setVm vm₁) cA cy n.toNatClampNeg k.toNatClampNeg (defaultValue ty) n.toNatClampNeg
  rw [hF, hTh] at f1 f2
  have hold : ∀ x : Nat, x < H.size → F.heap[x]? = H[x]? := fun x hx => by
    have := Jvm.Free.Multi.fill_old (T.setVm vm₁) cA cy n.toNatClampNeg k.toNatClampNeg (defaultValue ty) (a := x) (by rw [hTh]; exact hx) n.toNatClampNeg
    rw [hF, hTh] at this
    exact this
  have hrow : ∀ j : Nat, j < n.toNatClampNeg → F.heap[H.size + 1 + j]? = some (vp_cell cy z) := fun j hj => by
    have := Jvm.Free.Multi.fill_inner (T.setVm vm₁) cA cy n.toNatClampNeg k.toNatClampNeg (defaultValue ty) n.toNatClampNeg j hj
    rw [hF, hTh, hz] at this
    exact this
  have hout : Jvm.Free.Multi.outerC cA n.toNatClampNeg H.size n.toNatClampNeg = vp_cell cA (n.toNatClampNeg, .inr (.inr (.inr (.inr (fun i => if i < n.toNatClampNeg then some (H.size + 1 + i) else none))))) := by
    rw [vp_cell_q]
    exact vr_outer cA n.toNatClampNeg H.size n.toNatClampNeg
  rw [hout] at f2
  have hlt : ∀ a, a ∈ L → a < H.size := fun a ha => by
    obtain ⟨k9, hk9⟩ := va_pl_get (X := X) (f := f) ha
    exact (hP k9 _ hk9).lt
  have hnl : ∀ i : Nat, i < n.toNatClampNeg → H.size + 1 + i ∉ L := fun i _ h => by
    have := hlt _ h
    omega
  have hnm : ∀ a, a ∈ (List.range n.toNatClampNeg).map (fun i => H.size + 1 + i) → a ∉ L := fun a ha h => by
    obtain ⟨i, -, rfl⟩ := List.mem_map.mp ha
    have := hlt _ h
    omega
  have hP0 : va_P D cl (X ++ va_pl L f) F.heap := hP.kept (fun k9 x hx => hold x.1 ((hP k9 x hx).lt))
  have hP1 : va_P D cl ((X ++ va_pl L f) ++ [(H.size, .inl (cA, n.toNatClampNeg, .inr (.inr (.inr (.inr (fun i => if i < n.toNatClampNeg then some (H.size + 1 + i) else none))))))]) F.heap := hP0.app (fun k9 x hx => by
    have h0 : k9 < 1 := (List.getElem?_eq_some_iff.mp hx).1
    rw [show k9 = 0 by omega] at hx
    cases hx
    exact f2)
  have hP2 : va_P D cl (((X ++ va_pl L f) ++ [(H.size, .inl (cA, n.toNatClampNeg, .inr (.inr (.inr (.inr (fun i => if i < n.toNatClampNeg then some (H.size + 1 + i) else none))))))]) ++ ((List.range n.toNatClampNeg).map (fun i => H.size + 1 + i)).map (fun a => (a, .inl (cy, z)))) F.heap := hP1.app (fun k9 x hx => by
    obtain ⟨a, ha, rfl⟩ := List.mem_map.mp (List.mem_of_getElem? hx)
    obtain ⟨i, hi, rfl⟩ := List.mem_map.mp ha
    exact hrow i (List.mem_range.mp hi))
  have hD2 : va_D A (((X ++ va_pl L f) ++ [(H.size, .inl (cA, n.toNatClampNeg, .inr (.inr (.inr (.inr (fun i => if i < n.toNatClampNeg then some (H.size + 1 + i) else none))))))]) ++ ((List.range n.toNatClampNeg).map (fun i => H.size + 1 + i)).map (fun a => (a, .inl (cy, z)))) := by
    have hD1 := hD.push (e := .inl (cA, n.toNatClampNeg, .inr (.inr (.inr (.inr (fun i => if i < n.toNatClampNeg then some (H.size + 1 + i) else none)))))) hP rfl (hA _ hS.1)
    generalize hW1 : (X ++ va_pl L f) ++ [(H.size, .inl (cA, n.toNatClampNeg, .inr (.inr (.inr (.inr (fun i => if i < n.toNatClampNeg then some (H.size + 1 + i) else none))))))] = W1 at hD1 hP1 ⊢
    have hle : ∀ (k9 : Nat) (x : Nat × va_E), W1[k9]? = some x → x.1 ≤ H.size := fun k9 x hx => by
      rw [← hW1] at hx
      by_cases hl : k9 < (X ++ va_pl L f).length
      · rw [List.getElem?_append_left hl] at hx
        exact Nat.le_of_lt ((hP k9 x hx).lt)
      · rw [List.getElem?_append_right (by omega)] at hx
        have h0 : k9 - (X ++ va_pl L f).length < 1 := (List.getElem?_eq_some_iff.mp hx).1
        rw [show k9 - (X ++ va_pl L f).length = 0 by omega] at hx
        cases hx
        exact Nat.le_refl _
    have hr : ∀ (k9 : Nat) (x : Nat × va_E), (((List.range n.toNatClampNeg).map (fun i => H.size + 1 + i)).map (fun a => ((a, .inl (cy, z)) : Nat × va_E)))[k9]? = some x → x.1 = H.size + 1 + k9 := fun k9 x hx => by
      rw [List.getElem?_map, List.getElem?_map] at hx
      by_cases h9 : k9 < n.toNatClampNeg
      · rw [List.getElem?_range h9] at hx
        cases hx
        rfl
      · have hn0 : (List.range n.toNatClampNeg)[k9]? = none := List.getElem?_eq_none (by rw [List.length_range]; omega)
        rw [hn0] at hx
        cases hx
    refine ⟨fun i j x y hi hj hxy => ?_, fun k9 x hx => ?_⟩
    · by_cases h1 : i < W1.length <;> by_cases h2 : j < W1.length
      · rw [List.getElem?_append_left h1] at hi
        rw [List.getElem?_append_left h2] at hj
        exact hD1.1 i j x y hi hj hxy
      · rw [List.getElem?_append_left h1] at hi
        rw [List.getElem?_append_right (by omega)] at hj
        have := hle _ _ hi
        have := hr _ _ hj
        omega
      · rw [List.getElem?_append_right (by omega)] at hi
        rw [List.getElem?_append_left h2] at hj
        have := hle _ _ hj
        have := hr _ _ hi
        omega
      · rw [List.getElem?_append_right (by omega)] at hi hj
        have := hr _ _ hi
        have := hr _ _ hj
        omega
    · by_cases h1 : k9 < W1.length
      · rw [List.getElem?_append_left h1] at hx
        exact hD1.2 k9 x hx
      · rw [List.getElem?_append_right (by omega)] at hx
        have := hr _ _ hx
        exact hA _ (by have := hS.1; omega)
  have hAr : ArrOfT s cA (.array ty) := fun N9 z9 => by
    obtain ⟨-, k9, hk9, cm9, hkk9⟩ := (hO 0 0 0).1
    exact ⟨(fun q hq => by cases hq), k9, hk9, cm9, hkk9⟩
  have hK2 : va_K D cl (tys ++ [(cA, .array ty)]) s := ⟨hK.1, fun k9 x hx => by
    by_cases hl : k9 < tys.length
    · rw [List.getElem?_append_left hl] at hx
      exact hK.2 k9 x hx
    · rw [List.getElem?_append_right (by omega)] at hx
      have h0 : k9 - tys.length < 1 := (List.getElem?_eq_some_iff.mp hx).1
      rw [show k9 - tys.length = 0 by omega] at hx
      cases hx
      exact ⟨hAr, fA⟩⟩
  obtain ⟨t, a1, b1⟩ := kk H.size (fun i => H.size + 1 + i) cA F.heap (fun i j _ _ h => by have h9 : H.size + 1 + i = H.size + 1 + j := h; omega) hnl hK2 (by rw [← vr_rows hnm]; exact vr_lay hP2) (by rw [← vr_rows hnm]; exact vr_layD hD2) ⟨by rw [f1]; have := hS.1; omega, fun x h1 h2 => (hold x (Nat.lt_of_lt_of_le h1 hS.1)).trans (hS.2.1 x h1 h2), hS.2.2⟩ F rfl X'
  refine ⟨t, step t ?_, b1⟩
  have e : T.heap.size = H.size := by rw [hT]
  rw [e]
  exact a1
end VGM
/-! ===== BEGIN printed: names, fields, word lists, decode rows ===== -/
def RX0 : String := "PrinterHouse$Canvas"
def TX0 : u_T := fun k => match k with
  | 0 => ("PrinterHouse$Canvas", "dots", "[I", true)
  | 1 => ("PrinterHouse$Canvas", "line", "[I", true)
  | 2 => ("PrinterHouse$Canvas", "marks", "I", false)
  | 3 => ("PrinterHouse$Canvas", "made", "I", false)
  | 4 => ("PrinterHouse$Canvas", "covered", "I", false)
  | 5 => ("PrinterHouse$Canvas", "isMuch", "Z", false)
  | 6 => ("PrinterHouse$Canvas", "fromX", "I", false)
  | 7 => ("PrinterHouse$Canvas", "toX", "I", false)
  | 8 => ("PrinterHouse$Canvas", "fromY", "I", false)
  | 9 => ("PrinterHouse$Canvas", "toY", "I", false)
  | 10 => ("PrinterHouse$Canvas", "tile", "LPrinterHouse$Tile;", false)
  | 11 => ("PrinterHouse$Canvas", "originX", "I", false)
  | 12 => ("PrinterHouse$Canvas", "originY", "I", false)
  | 13 => ("PrinterHouse$Canvas", "sourceWhitens", "I", false)
  | _ => ("PrinterHouse$Canvas", "patternWhitens", "I", false)
def tyX0 : Nat → FieldType := fun k => match k with
  | 0 => .array .int
  | 1 => .array .int
  | 2 => .int
  | 3 => .int
  | 4 => .int
  | 5 => .boolean
  | 6 => .int
  | 7 => .int
  | 8 => .int
  | 9 => .int
  | 10 => .object "PrinterHouse$Tile"
  | 11 => .int
  | 12 => .int
  | 13 => .int
  | _ => .int
abbrev wsX00 : List Cond := u_ws RX0 TX0 15
theorem nmX0 : ∀ a, a < 15 → ∀ b, b < 15 → a ≠ b → (TX0 a).2.1 ≠ (TX0 b).2.1 := by decide +kernel
theorem tyX0_ok : ∀ k, k < 15 → parseFieldDescriptor (TX0 k).2.2.1 = some (tyX0 k) := by decide +kernel
abbrev cX0_init : ByteArray := prog_2_method_1_code
def yX0_init : MethodName := ⟨RX0, "<init>", "()V"⟩
abbrev cX0_startJob : ByteArray := prog_2_method_2_code
def yX0_startJob : MethodName := ⟨RX0, "startJob", "()V"⟩
abbrev cX0_clear : ByteArray := prog_2_method_3_code
def yX0_clear : MethodName := ⟨RX0, "clear", "()V"⟩
abbrev cX0_ink : ByteArray := prog_2_method_4_code
def yX0_ink : MethodName := ⟨RX0, "ink", "(LPrinterHouse$Tile;LPrinterHouse$Environment;)V"⟩
abbrev cX0_mark : ByteArray := prog_2_method_5_code
def yX0_mark : MethodName := ⟨RX0, "mark", "(LPrinterHouse$Sheet;IIII)Z"⟩
abbrev cX0_layBlack : ByteArray := prog_2_method_6_code
def yX0_layBlack : MethodName := ⟨RX0, "layBlack", "()V"⟩
abbrev cX0_layWord : ByteArray := prog_2_method_7_code
def yX0_layWord : MethodName := ⟨RX0, "layWord", "(II)V"⟩
abbrev cX0_layRow : ByteArray := prog_2_method_8_code
def yX0_layRow : MethodName := ⟨RX0, "layRow", "(LPrinterHouse$Raster;)V"⟩
abbrev cX0_paintRow : ByteArray := prog_2_method_9_code
def yX0_paintRow : MethodName := ⟨RX0, "paintRow", "(I)V"⟩
abbrev cX0_copyTo : ByteArray := prog_2_method_10_code
def yX0_copyTo : MethodName := ⟨RX0, "copyTo", "([ILPrinterHouse$Sheet;)V"⟩
abbrev cX0_turnWord : ByteArray := prog_2_method_11_code
def yX0_turnWord : MethodName := ⟨RX0, "turnWord", "([IIII)V"⟩
def RX1 : String := "PrinterHouse$Environment"
def TX1 : u_T := fun k => match k with
  | 0 => ("PrinterHouse$Environment", "sheet", "LPrinterHouse$Sheet;", true)
  | 1 => ("PrinterHouse$Environment", "raster", "LPrinterHouse$Raster;", true)
  | 2 => ("PrinterHouse$Environment", "pattern", "LPrinterHouse$Tile;", true)
  | 3 => ("PrinterHouse$Environment", "primary", "[I", true)
  | 4 => ("PrinterHouse$Environment", "secondary", "[I", true)
  | 5 => ("PrinterHouse$Environment", "isSecondary", "Z", false)
  | 6 => ("PrinterHouse$Environment", "copies", "I", false)
  | 7 => ("PrinterHouse$Environment", "isSkipping", "Z", false)
  | 8 => ("PrinterHouse$Environment", "ends", "I", false)
  | 9 => ("PrinterHouse$Environment", "isWrapping", "Z", false)
  | 10 => ("PrinterHouse$Environment", "sourceOpaque", "Z", false)
  | 11 => ("PrinterHouse$Environment", "patternOpaque", "Z", false)
  | 12 => ("PrinterHouse$Environment", "patternX", "I", false)
  | 13 => ("PrinterHouse$Environment", "patternY", "I", false)
  | 14 => ("PrinterHouse$Environment", "boxWide", "I", false)
  | 15 => ("PrinterHouse$Environment", "boxHigh", "I", false)
  | 16 => ("PrinterHouse$Environment", "fontId", "I", false)
  | 17 => ("PrinterHouse$Environment", "code", "I", false)
  | 18 => ("PrinterHouse$Environment", "patternNumber", "I", false)
  | 19 => ("PrinterHouse$Environment", "macroId", "I", false)
  | _ => ("PrinterHouse$Environment", "overlay", "I", false)
def tyX1 : Nat → FieldType := fun k => match k with
  | 0 => .object "PrinterHouse$Sheet"
  | 1 => .object "PrinterHouse$Raster"
  | 2 => .object "PrinterHouse$Tile"
  | 3 => .array .int
  | 4 => .array .int
  | 5 => .boolean
  | 6 => .int
  | 7 => .boolean
  | 8 => .int
  | 9 => .boolean
  | 10 => .boolean
  | 11 => .boolean
  | 12 => .int
  | 13 => .int
  | 14 => .int
  | 15 => .int
  | 16 => .int
  | 17 => .int
  | 18 => .int
  | 19 => .int
  | _ => .int
abbrev wsX10 : List Cond := u_ws RX1 TX1 21
theorem nmX1 : ∀ a, a < 21 → ∀ b, b < 21 → a ≠ b → (TX1 a).2.1 ≠ (TX1 b).2.1 := by decide +kernel
theorem tyX1_ok : ∀ k, k < 21 → parseFieldDescriptor (TX1 k).2.2.1 = some (tyX1 k) := by decide +kernel
abbrev cX1_init : ByteArray := prog_3_method_1_code
def yX1_init : MethodName := ⟨RX1, "<init>", "()V"⟩
abbrev cX1_copy : ByteArray := prog_3_method_2_code
def yX1_copy : MethodName := ⟨RX1, "copy", "(LPrinterHouse$Environment;)V"⟩
abbrev cX1_reset : ByteArray := prog_3_method_3_code
def yX1_reset : MethodName := ⟨RX1, "reset", "(II)V"⟩
abbrev cX1_wishes : ByteArray := prog_3_method_4_code
def yX1_wishes : MethodName := ⟨RX1, "wishes", "()[I"⟩
def RX2 : String := "PrinterHouse$Fonts"
def TX2 : u_T := fun k => match k with
  | 0 => ("PrinterHouse$Fonts", "shelf", "LPrinterHouse$Shelf;", true)
  | 1 => ("PrinterHouse$Fonts", "numbers", "[I", true)
  | 2 => ("PrinterHouse$Fonts", "slots", "[I", true)
  | 3 => ("PrinterHouse$Fonts", "taken", "[Z", true)
  | 4 => ("PrinterHouse$Fonts", "heads", "[I", true)
  | 5 => ("PrinterHouse$Fonts", "rows", "[I", true)
  | 6 => ("PrinterHouse$Fonts", "glyphs", "I", false)
  | 7 => ("PrinterHouse$Fonts", "asked", "[I", true)
  | 8 => ("PrinterHouse$Fonts", "answer", "I", false)
  | _ => ("PrinterHouse$Fonts", "isAnswered", "Z", false)
def tyX2 : Nat → FieldType := fun k => match k with
  | 0 => .object "PrinterHouse$Shelf"
  | 1 => .array .int
  | 2 => .array .int
  | 3 => .array .boolean
  | 4 => .array .int
  | 5 => .array .int
  | 6 => .int
  | 7 => .array .int
  | 8 => .int
  | _ => .boolean
abbrev wsX20 : List Cond := u_ws RX2 TX2 10
theorem nmX2 : ∀ a, a < 10 → ∀ b, b < 10 → a ≠ b → (TX2 a).2.1 ≠ (TX2 b).2.1 := by decide +kernel
theorem tyX2_ok : ∀ k, k < 10 → parseFieldDescriptor (TX2 k).2.2.1 = some (tyX2 k) := by decide +kernel
abbrev cX2_init : ByteArray := prog_4_method_1_code
def yX2_init : MethodName := ⟨RX2, "<init>", "()V"⟩
abbrev cX2_firstWishes : ByteArray := prog_4_method_2_code
def yX2_firstWishes : MethodName := ⟨RX2, "firstWishes", "([I)V"⟩
abbrev cX2_setHead : ByteArray := prog_4_method_3_code
def yX2_setHead : MethodName := ⟨RX2, "setHead", "(IIIIII)V"⟩
abbrev cX2_has : ByteArray := prog_4_method_4_code
def yX2_has : MethodName := ⟨RX2, "has", "(I)Z"⟩
abbrev cX2_number : ByteArray := prog_4_method_5_code
def yX2_number : MethodName := ⟨RX2, "number", "(II)I"⟩
abbrev cX2_setNumber : ByteArray := prog_4_method_6_code
def yX2_setNumber : MethodName := ⟨RX2, "setNumber", "(III)V"⟩
abbrev cX2_wishFor : ByteArray := prog_4_method_7_code
def yX2_wishFor : MethodName := ⟨RX2, "wishFor", "(I[I)Z"⟩
abbrev cX2_glyphOf : ByteArray := prog_4_method_8_code
def yX2_glyphOf : MethodName := ⟨RX2, "glyphOf", "(II)I"⟩
abbrev cX2_head : ByteArray := prog_4_method_9_code
def yX2_head : MethodName := ⟨RX2, "head", "(II)I"⟩
abbrev cX2_rowOf : ByteArray := prog_4_method_10_code
def yX2_rowOf : MethodName := ⟨RX2, "rowOf", "(II)I"⟩
abbrev cX2_send : ByteArray := prog_4_method_11_code
def yX2_send : MethodName := ⟨RX2, "send", "(ILPrinterHouse$Reading;)V"⟩
abbrev cX2_sendGlyph : ByteArray := prog_4_method_12_code
def yX2_sendGlyph : MethodName := ⟨RX2, "sendGlyph", "(IILPrinterHouse$Reading;)V"⟩
abbrev cX2_slotFor : ByteArray := prog_4_method_13_code
def yX2_slotFor : MethodName := ⟨RX2, "slotFor", "(II)I"⟩
abbrev cX2_removeGlyph : ByteArray := prog_4_method_14_code
def yX2_removeGlyph : MethodName := ⟨RX2, "removeGlyph", "(II)V"⟩
abbrev cX2_remove : ByteArray := prog_4_method_15_code
def yX2_remove : MethodName := ⟨RX2, "remove", "(I)V"⟩
abbrev cX2_removeMany : ByteArray := prog_4_method_16_code
def yX2_removeMany : MethodName := ⟨RX2, "removeMany", "(Z)V"⟩
abbrev cX2_inUse : ByteArray := prog_4_method_17_code
def yX2_inUse : MethodName := ⟨RX2, "inUse", "([I)I"⟩
abbrev cX2_choose : ByteArray := prog_4_method_18_code
def yX2_choose : MethodName := ⟨RX2, "choose", "()I"⟩
abbrev cX2_alike : ByteArray := prog_4_method_19_code
def yX2_alike : MethodName := ⟨RX2, "alike", "(III)I"⟩
abbrev cX2_nearest : ByteArray := prog_4_method_20_code
def yX2_nearest : MethodName := ⟨RX2, "nearest", "(II)I"⟩
def RX3 : String := "PrinterHouse$Pictures"
def TX3 : u_T := fun k => match k with
  | 0 => ("PrinterHouse$Pictures", "sheaf", "LPrinterHouse$Sheaf;", true)
  | 1 => ("PrinterHouse$Pictures", "bytes", "[B", false)
  | 2 => ("PrinterHouse$Pictures", "start", "I", false)
  | 3 => ("PrinterHouse$Pictures", "size", "I", false)
  | 4 => ("PrinterHouse$Pictures", "fault", "I", false)
  | 5 => ("PrinterHouse$Pictures", "faultPlace", "I", false)
  | 6 => ("PrinterHouse$Pictures", "lowestFirst", "Z", false)
  | 7 => ("PrinterHouse$Pictures", "seen", "[J", true)
  | 8 => ("PrinterHouse$Pictures", "directories", "I", false)
  | 9 => ("PrinterHouse$Pictures", "wide", "J", false)
  | 10 => ("PrinterHouse$Pictures", "high", "J", false)
  | 11 => ("PrinterHouse$Pictures", "code", "J", false)
  | 12 => ("PrinterHouse$Pictures", "colours", "J", false)
  | 13 => ("PrinterHouse$Pictures", "bitOrder", "J", false)
  | 14 => ("PrinterHouse$Pictures", "stripRows", "J", false)
  | 15 => ("PrinterHouse$Pictures", "placesEntry", "J", false)
  | 16 => ("PrinterHouse$Pictures", "lengthsEntry", "J", false)
  | 17 => ("PrinterHouse$Pictures", "strip", "[B", true)
  | 18 => ("PrinterHouse$Pictures", "bit", "I", false)
  | 19 => ("PrinterHouse$Pictures", "bitEnd", "I", false)
  | _ => ("PrinterHouse$Pictures", "runs", "[S", true)
def tyX3 : Nat → FieldType := fun k => match k with
  | 0 => .object "PrinterHouse$Sheaf"
  | 1 => .array .byte
  | 2 => .int
  | 3 => .int
  | 4 => .int
  | 5 => .int
  | 6 => .boolean
  | 7 => .array .long
  | 8 => .int
  | 9 => .long
  | 10 => .long
  | 11 => .long
  | 12 => .long
  | 13 => .long
  | 14 => .long
  | 15 => .long
  | 16 => .long
  | 17 => .array .byte
  | 18 => .int
  | 19 => .int
  | _ => .array .short
abbrev wsX30 : List Cond := u_ws RX3 TX3 21
theorem nmX3 : ∀ a, a < 21 → ∀ b, b < 21 → a ≠ b → (TX3 a).2.1 ≠ (TX3 b).2.1 := by decide +kernel
theorem tyX3_ok : ∀ k, k < 21 → parseFieldDescriptor (TX3 k).2.2.1 = some (tyX3 k) := by decide +kernel
abbrev cX3_init : ByteArray := prog_5_method_1_code
def yX3_init : MethodName := ⟨RX3, "<init>", "(LPrinterHouse$Sheaf;)V"⟩
abbrev cX3_read : ByteArray := prog_5_method_2_code
def yX3_read : MethodName := ⟨RX3, "read", "([BII)V"⟩
abbrev cX3_fail : ByteArray := prog_5_method_3_code
def yX3_fail : MethodName := ⟨RX3, "fail", "(IJ)V"⟩
abbrev cX3_byteAt : ByteArray := prog_5_method_4_code
def yX3_byteAt : MethodName := ⟨RX3, "byteAt", "(J)I"⟩
abbrev cX3_number : ByteArray := prog_5_method_5_code
def yX3_number : MethodName := ⟨RX3, "number", "(JI)J"⟩
abbrev cX3_readHeader : ByteArray := prog_5_method_6_code
def yX3_readHeader : MethodName := ⟨RX3, "readHeader", "()V"⟩
abbrev cX3_readDirectory : ByteArray := prog_5_method_7_code
def yX3_readDirectory : MethodName := ⟨RX3, "readDirectory", "(J)J"⟩
abbrev cX3_isDirectory : ByteArray := prog_5_method_8_code
def yX3_isDirectory : MethodName := ⟨RX3, "isDirectory", "(JI)Z"⟩
abbrev cX3_startEntries : ByteArray := prog_5_method_9_code
def yX3_startEntries : MethodName := ⟨RX3, "startEntries", "()V"⟩
abbrev cX3_readEntry : ByteArray := prog_5_method_10_code
def yX3_readEntry : MethodName := ⟨RX3, "readEntry", "(J)V"⟩
abbrev cX3_isOfOne : ByteArray := prog_5_method_11_code
def yX3_isOfOne : MethodName := ⟨RX3, "isOfOne", "(I)Z"⟩
abbrev cX3_tell : ByteArray := prog_5_method_12_code
def yX3_tell : MethodName := ⟨RX3, "tell", "(IJ)Z"⟩
abbrev cX3_checkEntries : ByteArray := prog_5_method_13_code
def yX3_checkEntries : MethodName := ⟨RX3, "checkEntries", "(J)V"⟩
abbrev cX3_strips : ByteArray := prog_5_method_14_code
def yX3_strips : MethodName := ⟨RX3, "strips", "()J"⟩
abbrev cX3_isList : ByteArray := prog_5_method_15_code
def yX3_isList : MethodName := ⟨RX3, "isList", "(J)Z"⟩
abbrev cX3_listed : ByteArray := prog_5_method_16_code
def yX3_listed : MethodName := ⟨RX3, "listed", "(JI)J"⟩
abbrev cX3_readStrips : ByteArray := prog_5_method_17_code
def yX3_readStrips : MethodName := ⟨RX3, "readStrips", "()V"⟩
abbrev cX3_invert : ByteArray := prog_5_method_18_code
def yX3_invert : MethodName := ⟨RX3, "invert", "([I)V"⟩
abbrev cX3_openStrip : ByteArray := prog_5_method_19_code
def yX3_openStrip : MethodName := ⟨RX3, "openStrip", "(II)V"⟩
abbrev cX3_peek : ByteArray := prog_5_method_20_code
def yX3_peek : MethodName := ⟨RX3, "peek", "(I)I"⟩
abbrev cX3_skipBits : ByteArray := prog_5_method_21_code
def yX3_skipBits : MethodName := ⟨RX3, "skipBits", "(I)Z"⟩
abbrev cX3_readMode : ByteArray := prog_5_method_22_code
def yX3_readMode : MethodName := ⟨RX3, "readMode", "()I"⟩
abbrev cX3_readRun : ByteArray := prog_5_method_23_code
def yX3_readRun : MethodName := ⟨RX3, "readRun", "(I)I"⟩
abbrev cX3_readRow : ByteArray := prog_5_method_24_code
def yX3_readRow : MethodName := ⟨RX3, "readRow", "([III)Z"⟩
def RX4 : String := "PrinterHouse$Raster"
def TX4 : u_T := fun k => match k with
  | 0 => ("PrinterHouse$Raster", "scale", "I", false)
  | 1 => ("PrinterHouse$Raster", "packing", "I", false)
  | 2 => ("PrinterHouse$Raster", "wide", "I", false)
  | 3 => ("PrinterHouse$Raster", "high", "I", false)
  | 4 => ("PrinterHouse$Raster", "isOn", "Z", false)
  | 5 => ("PrinterHouse$Raster", "start", "I", false)
  | 6 => ("PrinterHouse$Raster", "rows", "I", false)
  | _ => ("PrinterHouse$Raster", "row", "[I", true)
def tyX4 : Nat → FieldType := fun k => match k with
  | 0 => .int
  | 1 => .int
  | 2 => .int
  | 3 => .int
  | 4 => .boolean
  | 5 => .int
  | 6 => .int
  | _ => .array .int
abbrev wsX40 : List Cond := u_ws RX4 TX4 8
theorem nmX4 : ∀ a, a < 8 → ∀ b, b < 8 → a ≠ b → (TX4 a).2.1 ≠ (TX4 b).2.1 := by decide +kernel
theorem tyX4_ok : ∀ k, k < 8 → parseFieldDescriptor (TX4 k).2.2.1 = some (tyX4 k) := by decide +kernel
abbrev cX4_init : ByteArray := prog_6_method_1_code
def yX4_init : MethodName := ⟨RX4, "<init>", "()V"⟩
abbrev cX4_copy : ByteArray := prog_6_method_2_code
def yX4_copy : MethodName := ⟨RX4, "copy", "(LPrinterHouse$Raster;)V"⟩
abbrev cX4_reset : ByteArray := prog_6_method_3_code
def yX4_reset : MethodName := ⟨RX4, "reset", "()V"⟩
abbrev cX4_begin : ByteArray := prog_6_method_4_code
def yX4_begin : MethodName := ⟨RX4, "begin", "(I)V"⟩
abbrev cX4_end : ByteArray := prog_6_method_5_code
def yX4_end : MethodName := ⟨RX4, "end", "(Z)V"⟩
abbrev cX4_clearRow : ByteArray := prog_6_method_6_code
def yX4_clearRow : MethodName := ⟨RX4, "clearRow", "()V"⟩
abbrev cX4_isFull : ByteArray := prog_6_method_7_code
def yX4_isFull : MethodName := ⟨RX4, "isFull", "()Z"⟩
abbrev cX4_dotsInRow : ByteArray := prog_6_method_8_code
def yX4_dotsInRow : MethodName := ⟨RX4, "dotsInRow", "()I"⟩
abbrev cX4_put : ByteArray := prog_6_method_9_code
def yX4_put : MethodName := ⟨RX4, "put", "(III)V"⟩
abbrev cX4_unpack : ByteArray := prog_6_method_10_code
def yX4_unpack : MethodName := ⟨RX4, "unpack", "(LPrinterHouse$Reading;)V"⟩
abbrev cX4_unpackPairs : ByteArray := prog_6_method_11_code
def yX4_unpackPairs : MethodName := ⟨RX4, "unpackPairs", "(LPrinterHouse$Reading;)V"⟩
abbrev cX4_unpackMixed : ByteArray := prog_6_method_12_code
def yX4_unpackMixed : MethodName := ⟨RX4, "unpackMixed", "(LPrinterHouse$Reading;)V"⟩
abbrev cX4_unpackChanges : ByteArray := prog_6_method_13_code
def yX4_unpackChanges : MethodName := ⟨RX4, "unpackChanges", "(LPrinterHouse$Reading;)V"⟩
def RX5 : String := "PrinterHouse$Reading"
def TX5 : u_T := fun k => match k with
  | 0 => ("PrinterHouse$Reading", "bytes", "[B", false)
  | 1 => ("PrinterHouse$Reading", "at", "I", false)
  | 2 => ("PrinterHouse$Reading", "end", "I", false)
  | 3 => ("PrinterHouse$Reading", "kind", "I", false)
  | 4 => ("PrinterHouse$Reading", "group", "I", false)
  | 5 => ("PrinterHouse$Reading", "letter", "I", false)
  | 6 => ("PrinterHouse$Reading", "closing", "Z", false)
  | 7 => ("PrinterHouse$Reading", "signed", "Z", false)
  | 8 => ("PrinterHouse$Reading", "negative", "Z", false)
  | 9 => ("PrinterHouse$Reading", "whole", "I", false)
  | 10 => ("PrinterHouse$Reading", "behindPoint", "I", false)
  | 11 => ("PrinterHouse$Reading", "dataFrom", "I", false)
  | _ => ("PrinterHouse$Reading", "dataSize", "I", false)
def tyX5 : Nat → FieldType := fun k => match k with
  | 0 => .array .byte
  | 1 => .int
  | 2 => .int
  | 3 => .int
  | 4 => .int
  | 5 => .int
  | 6 => .boolean
  | 7 => .boolean
  | 8 => .boolean
  | 9 => .int
  | 10 => .int
  | 11 => .int
  | _ => .int
abbrev wsX50 : List Cond := u_ws RX5 TX5 13
theorem nmX5 : ∀ a, a < 13 → ∀ b, b < 13 → a ≠ b → (TX5 a).2.1 ≠ (TX5 b).2.1 := by decide +kernel
theorem tyX5_ok : ∀ k, k < 13 → parseFieldDescriptor (TX5 k).2.2.1 = some (tyX5 k) := by decide +kernel
abbrev cX5_init : ByteArray := prog_7_method_1_code
def yX5_init : MethodName := ⟨RX5, "<init>", "()V"⟩
abbrev cX5_open : ByteArray := prog_7_method_2_code
def yX5_open : MethodName := ⟨RX5, "open", "([BII)V"⟩
abbrev cX5_hasMore : ByteArray := prog_7_method_3_code
def yX5_hasMore : MethodName := ⟨RX5, "hasMore", "()Z"⟩
abbrev cX5_byteAt : ByteArray := prog_7_method_4_code
def yX5_byteAt : MethodName := ⟨RX5, "byteAt", "(I)I"⟩
abbrev cX5_next : ByteArray := prog_7_method_5_code
def yX5_next : MethodName := ⟨RX5, "next", "()I"⟩
abbrev cX5_isDigit : ByteArray := prog_7_method_6_code
def yX5_isDigit : MethodName := ⟨RX5, "isDigit", "(I)Z"⟩
abbrev cX5_readValue : ByteArray := prog_7_method_7_code
def yX5_readValue : MethodName := ⟨RX5, "readValue", "()I"⟩
abbrev cX5_n : ByteArray := prog_7_method_8_code
def yX5_n : MethodName := ⟨RX5, "n", "()I"⟩
abbrev cX5_exact : ByteArray := prog_7_method_9_code
def yX5_exact : MethodName := ⟨RX5, "exact", "()J"⟩
abbrev cX5_units : ByteArray := prog_7_method_10_code
def yX5_units : MethodName := ⟨RX5, "units", "(I)J"⟩
abbrev cX5_dataByte : ByteArray := prog_7_method_11_code
def yX5_dataByte : MethodName := ⟨RX5, "dataByte", "(I)I"⟩
abbrev cX5_dataTwo : ByteArray := prog_7_method_12_code
def yX5_dataTwo : MethodName := ⟨RX5, "dataTwo", "(I)I"⟩
def RX6 : String := "PrinterHouse$Sheaf"
def TX6 : u_T := fun k => match k with
  | 0 => ("PrinterHouse$Sheaf", "bytes", "[B", true)
  | 1 => ("PrinterHouse$Sheaf", "size", "I", false)
  | 2 => ("PrinterHouse$Sheaf", "pages", "I", false)
  | 3 => ("PrinterHouse$Sheaf", "isMuch", "Z", false)
  | 4 => ("PrinterHouse$Sheaf", "wides", "[I", true)
  | 5 => ("PrinterHouse$Sheaf", "highs", "[I", true)
  | 6 => ("PrinterHouse$Sheaf", "dots", "[[I", true)
  | 7 => ("PrinterHouse$Sheaf", "link", "I", false)
  | 8 => ("PrinterHouse$Sheaf", "waiting", "I", false)
  | _ => ("PrinterHouse$Sheaf", "waitingBits", "I", false)
def tyX6 : Nat → FieldType := fun k => match k with
  | 0 => .array .byte
  | 1 => .int
  | 2 => .int
  | 3 => .boolean
  | 4 => .array .int
  | 5 => .array .int
  | 6 => .array (.array .int)
  | 7 => .int
  | 8 => .int
  | _ => .int
abbrev wsX60 : List Cond := u_ws RX6 TX6 10
theorem nmX6 : ∀ a, a < 10 → ∀ b, b < 10 → a ≠ b → (TX6 a).2.1 ≠ (TX6 b).2.1 := by decide +kernel
theorem tyX6_ok : ∀ k, k < 10 → parseFieldDescriptor (TX6 k).2.2.1 = some (tyX6 k) := by decide +kernel
abbrev cX6_init : ByteArray := prog_8_method_1_code
def yX6_init : MethodName := ⟨RX6, "<init>", "()V"⟩
abbrev cX6_clear : ByteArray := prog_8_method_2_code
def yX6_clear : MethodName := ⟨RX6, "clear", "()V"⟩
abbrev cX6_hasPage : ByteArray := prog_8_method_3_code
def yX6_hasPage : MethodName := ⟨RX6, "hasPage", "(I)Z"⟩
abbrev cX6_hasRow : ByteArray := prog_8_method_4_code
def yX6_hasRow : MethodName := ⟨RX6, "hasRow", "(II)Z"⟩
abbrev cX6_byteAt : ByteArray := prog_8_method_5_code
def yX6_byteAt : MethodName := ⟨RX6, "byteAt", "(I)I"⟩
abbrev cX6_sumOfBytes : ByteArray := prog_8_method_6_code
def yX6_sumOfBytes : MethodName := ⟨RX6, "sumOfBytes", "()I"⟩
abbrev cX6_blackDots : ByteArray := prog_8_method_7_code
def yX6_blackDots : MethodName := ⟨RX6, "blackDots", "(II)I"⟩
abbrev cX6_nextPage : ByteArray := prog_8_method_8_code
def yX6_nextPage : MethodName := ⟨RX6, "nextPage", "()[I"⟩
abbrev cX6_come : ByteArray := prog_8_method_9_code
def yX6_come : MethodName := ⟨RX6, "come", "(II)V"⟩
abbrev cX6_writeDirectory : ByteArray := prog_8_method_10_code
def yX6_writeDirectory : MethodName := ⟨RX6, "writeDirectory", "(IIII)V"⟩
abbrev cX6_putEntry : ByteArray := prog_8_method_11_code
def yX6_putEntry : MethodName := ⟨RX6, "putEntry", "(III)V"⟩
abbrev cX6_putNumber : ByteArray := prog_8_method_12_code
def yX6_putNumber : MethodName := ⟨RX6, "putNumber", "(II)V"⟩
abbrev cX6_setNumber : ByteArray := prog_8_method_13_code
def yX6_setNumber : MethodName := ⟨RX6, "setNumber", "(II)V"⟩
abbrev cX6_putByte : ByteArray := prog_8_method_14_code
def yX6_putByte : MethodName := ⟨RX6, "putByte", "(I)V"⟩
abbrev cX6_putBits : ByteArray := prog_8_method_15_code
def yX6_putBits : MethodName := ⟨RX6, "putBits", "(II)V"⟩
abbrev cX6_putRun : ByteArray := prog_8_method_16_code
def yX6_putRun : MethodName := ⟨RX6, "putRun", "(II)V"⟩
abbrev cX6_writeRow : ByteArray := prog_8_method_17_code
def yX6_writeRow : MethodName := ⟨RX6, "writeRow", "([III)V"⟩
def RX7 : String := "PrinterHouse$Sheet"
def TX7 : u_T := fun k => match k with
  | 0 => ("PrinterHouse$Sheet", "format", "I", false)
  | 1 => ("PrinterHouse$Sheet", "orientation", "I", false)
  | 2 => ("PrinterHouse$Sheet", "left", "I", false)
  | 3 => ("PrinterHouse$Sheet", "right", "I", false)
  | 4 => ("PrinterHouse$Sheet", "top", "I", false)
  | 5 => ("PrinterHouse$Sheet", "bottom", "I", false)
  | 6 => ("PrinterHouse$Sheet", "x", "I", false)
  | 7 => ("PrinterHouse$Sheet", "y", "I", false)
  | 8 => ("PrinterHouse$Sheet", "vmi", "I", false)
  | 9 => ("PrinterHouse$Sheet", "hmi", "I", false)
  | 10 => ("PrinterHouse$Sheet", "back", "I", false)
  | 11 => ("PrinterHouse$Sheet", "kept", "I", false)
  | _ => ("PrinterHouse$Sheet", "places", "[I", true)
def tyX7 : Nat → FieldType := fun k => match k with
  | 0 => .int
  | 1 => .int
  | 2 => .int
  | 3 => .int
  | 4 => .int
  | 5 => .int
  | 6 => .int
  | 7 => .int
  | 8 => .int
  | 9 => .int
  | 10 => .int
  | 11 => .int
  | _ => .array .int
abbrev wsX70 : List Cond := u_ws RX7 TX7 13
theorem nmX7 : ∀ a, a < 13 → ∀ b, b < 13 → a ≠ b → (TX7 a).2.1 ≠ (TX7 b).2.1 := by decide +kernel
theorem tyX7_ok : ∀ k, k < 13 → parseFieldDescriptor (TX7 k).2.2.1 = some (tyX7 k) := by decide +kernel
abbrev cX7_init : ByteArray := prog_9_method_1_code
def yX7_init : MethodName := ⟨RX7, "<init>", "()V"⟩
abbrev cX7_copy : ByteArray := prog_9_method_2_code
def yX7_copy : MethodName := ⟨RX7, "copy", "(LPrinterHouse$Sheet;)V"⟩
abbrev cX7_reset : ByteArray := prog_9_method_3_code
def yX7_reset : MethodName := ⟨RX7, "reset", "()V"⟩
abbrev cX7_turn : ByteArray := prog_9_method_4_code
def yX7_turn : MethodName := ⟨RX7, "turn", "(II)V"⟩
abbrev cX7_clearMargins : ByteArray := prog_9_method_5_code
def yX7_clearMargins : MethodName := ⟨RX7, "clearMargins", "()V"⟩
abbrev cX7_pageWide : ByteArray := prog_9_method_6_code
def yX7_pageWide : MethodName := ⟨RX7, "pageWide", "()I"⟩
abbrev cX7_pageHigh : ByteArray := prog_9_method_7_code
def yX7_pageHigh : MethodName := ⟨RX7, "pageHigh", "()I"⟩
abbrev cX7_dotsAcross : ByteArray := prog_9_method_8_code
def yX7_dotsAcross : MethodName := ⟨RX7, "dotsAcross", "()I"⟩
abbrev cX7_dotsDown : ByteArray := prog_9_method_9_code
def yX7_dotsDown : MethodName := ⟨RX7, "dotsDown", "()I"⟩
abbrev cX7_across : ByteArray := prog_9_method_10_code
def yX7_across : MethodName := ⟨RX7, "across", "()I"⟩
abbrev cX7_down : ByteArray := prog_9_method_11_code
def yX7_down : MethodName := ⟨RX7, "down", "()I"⟩
abbrev cX7_homeY : ByteArray := prog_9_method_12_code
def yX7_homeY : MethodName := ⟨RX7, "homeY", "()V"⟩
abbrev cX7_moveX : ByteArray := prog_9_method_13_code
def yX7_moveX : MethodName := ⟨RX7, "moveX", "(J)V"⟩
abbrev cX7_moveY : ByteArray := prog_9_method_14_code
def yX7_moveY : MethodName := ⟨RX7, "moveY", "(J)V"⟩
abbrev cX7_keepPlace : ByteArray := prog_9_method_15_code
def yX7_keepPlace : MethodName := ⟨RX7, "keepPlace", "()V"⟩
abbrev cX7_recallPlace : ByteArray := prog_9_method_16_code
def yX7_recallPlace : MethodName := ⟨RX7, "recallPlace", "()V"⟩
abbrev cX7_tab : ByteArray := prog_9_method_17_code
def yX7_tab : MethodName := ⟨RX7, "tab", "()V"⟩
abbrev cX7_leftMargin : ByteArray := prog_9_method_18_code
def yX7_leftMargin : MethodName := ⟨RX7, "leftMargin", "(I)V"⟩
abbrev cX7_rightMargin : ByteArray := prog_9_method_19_code
def yX7_rightMargin : MethodName := ⟨RX7, "rightMargin", "(I)V"⟩
abbrev cX7_topMargin : ByteArray := prog_9_method_20_code
def yX7_topMargin : MethodName := ⟨RX7, "topMargin", "(I)V"⟩
abbrev cX7_bottomMargin : ByteArray := prog_9_method_21_code
def yX7_bottomMargin : MethodName := ⟨RX7, "bottomMargin", "(I)V"⟩
def RX8 : String := "PrinterHouse$Shelf"
def TX8 : u_T := fun k => match k with
  | _ => ("PrinterHouse$Shelf", "sorts", "[I", true)
def tyX8 : Nat → FieldType := fun k => match k with
  | _ => .array .int
abbrev wsX80 : List Cond := u_ws RX8 TX8 1
theorem nmX8 : ∀ a, a < 1 → ∀ b, b < 1 → a ≠ b → (TX8 a).2.1 ≠ (TX8 b).2.1 := by decide +kernel
theorem tyX8_ok : ∀ k, k < 1 → parseFieldDescriptor (TX8 k).2.2.1 = some (tyX8 k) := by decide +kernel
abbrev cX8_init : ByteArray := prog_10_method_1_code
def yX8_init : MethodName := ⟨RX8, "<init>", "()V"⟩
abbrev cX8_has : ByteArray := prog_10_method_2_code
def yX8_has : MethodName := ⟨RX8, "has", "(I)Z"⟩
abbrev cX8_isTemporary : ByteArray := prog_10_method_3_code
def yX8_isTemporary : MethodName := ⟨RX8, "isTemporary", "(I)Z"⟩
abbrev cX8_put : ByteArray := prog_10_method_4_code
def yX8_put : MethodName := ⟨RX8, "put", "(I)V"⟩
abbrev cX8_remove : ByteArray := prog_10_method_5_code
def yX8_remove : MethodName := ⟨RX8, "remove", "(I)V"⟩
abbrev cX8_removeMany : ByteArray := prog_10_method_6_code
def yX8_removeMany : MethodName := ⟨RX8, "removeMany", "(Z)V"⟩
abbrev cX8_mark : ByteArray := prog_10_method_7_code
def yX8_mark : MethodName := ⟨RX8, "mark", "(IZ)V"⟩
abbrev cX8_count : ByteArray := prog_10_method_8_code
def yX8_count : MethodName := ⟨RX8, "count", "()I"⟩
def RX9 : String := "PrinterHouse$Streams"
def TX9 : u_T := fun k => match k with
  | 0 => ("PrinterHouse$Streams", "sheaf", "LPrinterHouse$Sheaf;", true)
  | 1 => ("PrinterHouse$Streams", "canvas", "LPrinterHouse$Canvas;", true)
  | 2 => ("PrinterHouse$Streams", "fonts", "LPrinterHouse$Fonts;", true)
  | 3 => ("PrinterHouse$Streams", "tileShelf", "LPrinterHouse$Shelf;", true)
  | 4 => ("PrinterHouse$Streams", "tiles", "[LPrinterHouse$Tile;", true)
  | 5 => ("PrinterHouse$Streams", "boxTile", "LPrinterHouse$Tile;", true)
  | 6 => ("PrinterHouse$Streams", "macroShelf", "LPrinterHouse$Shelf;", true)
  | 7 => ("PrinterHouse$Streams", "macroBytes", "[B", true)
  | 8 => ("PrinterHouse$Streams", "macroSizes", "[I", true)
  | 9 => ("PrinterHouse$Streams", "env", "LPrinterHouse$Environment;", true)
  | 10 => ("PrinterHouse$Streams", "beforeOverlay", "LPrinterHouse$Environment;", true)
  | 11 => ("PrinterHouse$Streams", "beforeMacro", "[LPrinterHouse$Environment;", true)
  | 12 => ("PrinterHouse$Streams", "readings", "[LPrinterHouse$Reading;", true)
  | 13 => ("PrinterHouse$Streams", "reading", "LPrinterHouse$Reading;", false)
  | 14 => ("PrinterHouse$Streams", "depth", "I", false)
  | 15 => ("PrinterHouse$Streams", "isInOverlay", "Z", false)
  | 16 => ("PrinterHouse$Streams", "gone", "I", false)
  | 17 => ("PrinterHouse$Streams", "lastStates", "[I", true)
  | _ => ("PrinterHouse$Streams", "isLastKnown", "Z", false)
def tyX9 : Nat → FieldType := fun k => match k with
  | 0 => .object "PrinterHouse$Sheaf"
  | 1 => .object "PrinterHouse$Canvas"
  | 2 => .object "PrinterHouse$Fonts"
  | 3 => .object "PrinterHouse$Shelf"
  | 4 => .array (.object "PrinterHouse$Tile")
  | 5 => .object "PrinterHouse$Tile"
  | 6 => .object "PrinterHouse$Shelf"
  | 7 => .array .byte
  | 8 => .array .int
  | 9 => .object "PrinterHouse$Environment"
  | 10 => .object "PrinterHouse$Environment"
  | 11 => .array (.object "PrinterHouse$Environment")
  | 12 => .array (.object "PrinterHouse$Reading")
  | 13 => .object "PrinterHouse$Reading"
  | 14 => .int
  | 15 => .boolean
  | 16 => .int
  | 17 => .array .int
  | _ => .boolean
abbrev wsX90 : List Cond := u_ws RX9 TX9 19
theorem nmX9 : ∀ a, a < 19 → ∀ b, b < 19 → a ≠ b → (TX9 a).2.1 ≠ (TX9 b).2.1 := by decide +kernel
theorem tyX9_ok : ∀ k, k < 19 → parseFieldDescriptor (TX9 k).2.2.1 = some (tyX9 k) := by decide +kernel
abbrev cX9_init : ByteArray := prog_11_method_1_code
def yX9_init : MethodName := ⟨RX9, "<init>", "(LPrinterHouse$Sheaf;)V"⟩
abbrev cX9_isMuch : ByteArray := prog_11_method_2_code
def yX9_isMuch : MethodName := ⟨RX9, "isMuch", "()Z"⟩
abbrev cX9_startJob : ByteArray := prog_11_method_3_code
def yX9_startJob : MethodName := ⟨RX9, "startJob", "()V"⟩
abbrev cX9_run : ByteArray := prog_11_method_4_code
def yX9_run : MethodName := ⟨RX9, "run", "([BII)V"⟩
abbrev cX9_keepStates : ByteArray := prog_11_method_5_code
def yX9_keepStates : MethodName := ⟨RX9, "keepStates", "()V"⟩
abbrev cX9_lastState : ByteArray := prog_11_method_6_code
def yX9_lastState : MethodName := ⟨RX9, "lastState", "(I)I"⟩
abbrev cX9_number : ByteArray := prog_11_method_7_code
def yX9_number : MethodName := ⟨RX9, "number", "(I)I"⟩
abbrev cX9_bytesOfMacros : ByteArray := prog_11_method_8_code
def yX9_bytesOfMacros : MethodName := ⟨RX9, "bytesOfMacros", "()I"⟩
abbrev cX9_dropAll : ByteArray := prog_11_method_9_code
def yX9_dropAll : MethodName := ⟨RX9, "dropAll", "()I"⟩
abbrev cX9_dropTemporary : ByteArray := prog_11_method_10_code
def yX9_dropTemporary : MethodName := ⟨RX9, "dropTemporary", "()V"⟩
abbrev cX9_pass : ByteArray := prog_11_method_11_code
def yX9_pass : MethodName := ⟨RX9, "pass", "(I)Z"⟩
abbrev cX9_passEach : ByteArray := prog_11_method_12_code
def yX9_passEach : MethodName := ⟨RX9, "passEach", "(I)Z"⟩
abbrev cX9_goThrough : ByteArray := prog_11_method_13_code
def yX9_goThrough : MethodName := ⟨RX9, "goThrough", "([BII)V"⟩
abbrev cX9_goMacro : ByteArray := prog_11_method_14_code
def yX9_goMacro : MethodName := ⟨RX9, "goMacro", "(I)V"⟩
abbrev cX9_callMacro : ByteArray := prog_11_method_15_code
def yX9_callMacro : MethodName := ⟨RX9, "callMacro", "(I)V"⟩
abbrev cX9_other : ByteArray := prog_11_method_16_code
def yX9_other : MethodName := ⟨RX9, "other", "(I)V"⟩
abbrev cX9_endWithReturn : ByteArray := prog_11_method_17_code
def yX9_endWithReturn : MethodName := ⟨RX9, "endWithReturn", "()V"⟩
abbrev cX9_carriageReturn : ByteArray := prog_11_method_18_code
def yX9_carriageReturn : MethodName := ⟨RX9, "carriageReturn", "()V"⟩
abbrev cX9_line : ByteArray := prog_11_method_19_code
def yX9_line : MethodName := ⟨RX9, "line", "(I)V"⟩
abbrev cX9_form : ByteArray := prog_11_method_20_code
def yX9_form : MethodName := ⟨RX9, "form", "()V"⟩
abbrev cX9_followPitch : ByteArray := prog_11_method_21_code
def yX9_followPitch : MethodName := ⟨RX9, "followPitch", "()V"⟩
abbrev cX9_beginSequence : ByteArray := prog_11_method_22_code
def yX9_beginSequence : MethodName := ⟨RX9, "beginSequence", "()V"⟩
abbrev cX9_twoBytes : ByteArray := prog_11_method_23_code
def yX9_twoBytes : MethodName := ⟨RX9, "twoBytes", "(I)V"⟩
abbrev cX9_reset : ByteArray := prog_11_method_24_code
def yX9_reset : MethodName := ⟨RX9, "reset", "()V"⟩
abbrev cX9_showAll : ByteArray := prog_11_method_25_code
def yX9_showAll : MethodName := ⟨RX9, "showAll", "()V"⟩
abbrev cX9_showData : ByteArray := prog_11_method_26_code
def yX9_showData : MethodName := ⟨RX9, "showData", "()V"⟩
abbrev cX9_readField : ByteArray := prog_11_method_27_code
def yX9_readField : MethodName := ⟨RX9, "readField", "()Z"⟩
abbrev cX9_obey : ByteArray := prog_11_method_28_code
def yX9_obey : MethodName := ⟨RX9, "obey", "()V"⟩
abbrev cX9_obeyFont : ByteArray := prog_11_method_29_code
def yX9_obeyFont : MethodName := ⟨RX9, "obeyFont", "()V"⟩
abbrev cX9_pageField : ByteArray := prog_11_method_30_code
def yX9_pageField : MethodName := ⟨RX9, "pageField", "(I)V"⟩
abbrev cX9_spacing : ByteArray := prog_11_method_31_code
def yX9_spacing : MethodName := ⟨RX9, "spacing", "(II)I"⟩
abbrev cX9_placeField : ByteArray := prog_11_method_32_code
def yX9_placeField : MethodName := ⟨RX9, "placeField", "(I)V"⟩
abbrev cX9_moveAcross : ByteArray := prog_11_method_33_code
def yX9_moveAcross : MethodName := ⟨RX9, "moveAcross", "(J)V"⟩
abbrev cX9_moveDown : ByteArray := prog_11_method_34_code
def yX9_moveDown : MethodName := ⟨RX9, "moveDown", "(JI)V"⟩
abbrev cX9_dotPlaceField : ByteArray := prog_11_method_35_code
def yX9_dotPlaceField : MethodName := ⟨RX9, "dotPlaceField", "()V"⟩
abbrev cX9_spaceField : ByteArray := prog_11_method_36_code
def yX9_spaceField : MethodName := ⟨RX9, "spaceField", "(I)V"⟩
abbrev cX9_wrapField : ByteArray := prog_11_method_37_code
def yX9_wrapField : MethodName := ⟨RX9, "wrapField", "(I)V"⟩
abbrev cX9_macroField : ByteArray := prog_11_method_38_code
def yX9_macroField : MethodName := ⟨RX9, "macroField", "(I)V"⟩
abbrev cX9_macroTask : ByteArray := prog_11_method_39_code
def yX9_macroTask : MethodName := ⟨RX9, "macroTask", "(I)V"⟩
abbrev cX9_tellMacro : ByteArray := prog_11_method_40_code
def yX9_tellMacro : MethodName := ⟨RX9, "tellMacro", "(I)V"⟩
abbrev cX9_isMacroEnd : ByteArray := prog_11_method_41_code
def yX9_isMacroEnd : MethodName := ⟨RX9, "isMacroEnd", "(I)Z"⟩
abbrev cX9_eject : ByteArray := prog_11_method_42_code
def yX9_eject : MethodName := ⟨RX9, "eject", "()V"⟩
abbrev cX9_advance : ByteArray := prog_11_method_43_code
def yX9_advance : MethodName := ⟨RX9, "advance", "(II)I"⟩
abbrev cX9_show : ByteArray := prog_11_method_44_code
def yX9_show : MethodName := ⟨RX9, "show", "(I)V"⟩
abbrev cX9_markGlyph : ByteArray := prog_11_method_45_code
def yX9_markGlyph : MethodName := ⟨RX9, "markGlyph", "(I)V"⟩
abbrev cX9_markBox : ByteArray := prog_11_method_46_code
def yX9_markBox : MethodName := ⟨RX9, "markBox", "(IIIILPrinterHouse$Tile;)V"⟩
abbrev cX9_fontField : ByteArray := prog_11_method_47_code
def yX9_fontField : MethodName := ⟨RX9, "fontField", "([II)Z"⟩
abbrev cX9_styleField : ByteArray := prog_11_method_48_code
def yX9_styleField : MethodName := ⟨RX9, "styleField", "([II)Z"⟩
abbrev cX9_wishPitch : ByteArray := prog_11_method_49_code
def yX9_wishPitch : MethodName := ⟨RX9, "wishPitch", "([I)Z"⟩
abbrev cX9_wish : ByteArray := prog_11_method_50_code
def yX9_wish : MethodName := ⟨RX9, "wish", "([III)Z"⟩
abbrev cX9_controlField : ByteArray := prog_11_method_51_code
def yX9_controlField : MethodName := ⟨RX9, "controlField", "(I)V"⟩
abbrev cX9_boxSide : ByteArray := prog_11_method_52_code
def yX9_boxSide : MethodName := ⟨RX9, "boxSide", "(I)I"⟩
abbrev cX9_box : ByteArray := prog_11_method_53_code
def yX9_box : MethodName := ⟨RX9, "box", "(I)V"⟩
abbrev cX9_fontTask : ByteArray := prog_11_method_54_code
def yX9_fontTask : MethodName := ⟨RX9, "fontTask", "(I)V"⟩
abbrev cX9_tileTask : ByteArray := prog_11_method_55_code
def yX9_tileTask : MethodName := ⟨RX9, "tileTask", "(I)V"⟩
abbrev cX9_tellTile : ByteArray := prog_11_method_56_code
def yX9_tellTile : MethodName := ⟨RX9, "tellTile", "(I)V"⟩
abbrev cX9_setTile : ByteArray := prog_11_method_57_code
def yX9_setTile : MethodName := ⟨RX9, "setTile", "(LPrinterHouse$Tile;I)Z"⟩
abbrev cX9_inkField : ByteArray := prog_11_method_58_code
def yX9_inkField : MethodName := ⟨RX9, "inkField", "(I)V"⟩
abbrev cX9_scaleField : ByteArray := prog_11_method_59_code
def yX9_scaleField : MethodName := ⟨RX9, "scaleField", "(I)V"⟩
abbrev cX9_rasterField : ByteArray := prog_11_method_60_code
def yX9_rasterField : MethodName := ⟨RX9, "rasterField", "(I)V"⟩
abbrev cX9_beginRaster : ByteArray := prog_11_method_61_code
def yX9_beginRaster : MethodName := ⟨RX9, "beginRaster", "(I)V"⟩
abbrev cX9_rowField : ByteArray := prog_11_method_62_code
def yX9_rowField : MethodName := ⟨RX9, "rowField", "(I)V"⟩
abbrev cX9_growRows : ByteArray := prog_11_method_63_code
def yX9_growRows : MethodName := ⟨RX9, "growRows", "(I)V"⟩
abbrev cX9_rasterRow : ByteArray := prog_11_method_64_code
def yX9_rasterRow : MethodName := ⟨RX9, "rasterRow", "()V"⟩
def RX10 : String := "PrinterHouse$Tile"
def TX10 : u_T := fun k => match k with
  | 0 => ("PrinterHouse$Tile", "wide", "I", false)
  | 1 => ("PrinterHouse$Tile", "high", "I", false)
  | 2 => ("PrinterHouse$Tile", "isWhite", "Z", false)
  | _ => ("PrinterHouse$Tile", "rows", "[J", true)
def tyX10 : Nat → FieldType := fun k => match k with
  | 0 => .int
  | 1 => .int
  | 2 => .boolean
  | _ => .array .long
abbrev wsX100 : List Cond := u_ws RX10 TX10 4
theorem nmX10 : ∀ a, a < 4 → ∀ b, b < 4 → a ≠ b → (TX10 a).2.1 ≠ (TX10 b).2.1 := by decide +kernel
theorem tyX10_ok : ∀ k, k < 4 → parseFieldDescriptor (TX10 k).2.2.1 = some (tyX10 k) := by decide +kernel
abbrev cX10_init : ByteArray := prog_12_method_1_code
def yX10_init : MethodName := ⟨RX10, "<init>", "()V"⟩
abbrev cX10_copy : ByteArray := prog_12_method_2_code
def yX10_copy : MethodName := ⟨RX10, "copy", "(LPrinterHouse$Tile;)V"⟩
abbrev cX10_size : ByteArray := prog_12_method_3_code
def yX10_size : MethodName := ⟨RX10, "size", "(II)V"⟩
abbrev cX10_setRow : ByteArray := prog_12_method_4_code
def yX10_setRow : MethodName := ⟨RX10, "setRow", "(II)V"⟩
abbrev cX10_solid : ByteArray := prog_12_method_5_code
def yX10_solid : MethodName := ⟨RX10, "solid", "()V"⟩
abbrev cX10_white : ByteArray := prog_12_method_6_code
def yX10_white : MethodName := ⟨RX10, "white", "()V"⟩
abbrev cX10_shade : ByteArray := prog_12_method_7_code
def yX10_shade : MethodName := ⟨RX10, "shade", "(I)V"⟩
abbrev cX10_hatch : ByteArray := prog_12_method_8_code
def yX10_hatch : MethodName := ⟨RX10, "hatch", "(I)V"⟩
abbrev cX10_isHatched : ByteArray := prog_12_method_9_code
def yX10_isHatched : MethodName := ⟨RX10, "isHatched", "(III)Z"⟩
abbrev cX10_rowAt : ByteArray := prog_12_method_10_code
def yX10_rowAt : MethodName := ⟨RX10, "rowAt", "(I)J"⟩
abbrev cX10_dotsFrom : ByteArray := prog_12_method_11_code
def yX10_dotsFrom : MethodName := ⟨RX10, "dotsFrom", "(JI)I"⟩
def RX11 : String := "PrinterHouse"
def TX11 : u_T := fun k => match k with
  | 0 => ("PrinterHouse", "tape", "[B", true)
  | 1 => ("PrinterHouse", "taped", "I", false)
  | 2 => ("PrinterHouse", "job", "[B", true)
  | 3 => ("PrinterHouse", "sorts", "[I", true)
  | 4 => ("PrinterHouse", "starts", "[I", true)
  | 5 => ("PrinterHouse", "parts", "I", false)
  | 6 => ("PrinterHouse", "sheaf", "LPrinterHouse$Sheaf;", true)
  | 7 => ("PrinterHouse", "streams", "LPrinterHouse$Streams;", true)
  | 8 => ("PrinterHouse", "pictures", "LPrinterHouse$Pictures;", true)
  | 9 => ("PrinterHouse", "faultSort", "I", false)
  | 10 => ("PrinterHouse", "faultPart", "I", false)
  | _ => ("PrinterHouse", "faultPlace", "I", false)
def tyX11 : Nat → FieldType := fun k => match k with
  | 0 => .array .byte
  | 1 => .int
  | 2 => .array .byte
  | 3 => .array .int
  | 4 => .array .int
  | 5 => .int
  | 6 => .object "PrinterHouse$Sheaf"
  | 7 => .object "PrinterHouse$Streams"
  | 8 => .object "PrinterHouse$Pictures"
  | 9 => .int
  | 10 => .int
  | _ => .int
abbrev wsX110 : List Cond := u_ws RX11 TX11 12
theorem nmX11 : ∀ a, a < 12 → ∀ b, b < 12 → a ≠ b → (TX11 a).2.1 ≠ (TX11 b).2.1 := by decide +kernel
theorem tyX11_ok : ∀ k, k < 12 → parseFieldDescriptor (TX11 k).2.2.1 = some (tyX11 k) := by decide +kernel
abbrev cX11_init : ByteArray := prog_1_method_1_code
def yX11_init : MethodName := ⟨RX11, "<init>", "()V"⟩
abbrev cX11_feed : ByteArray := prog_1_method_2_code
def yX11_feed : MethodName := ⟨RX11, "feed", "(IIIII)I"⟩
abbrev cX11_feedNumber : ByteArray := prog_1_method_3_code
def yX11_feedNumber : MethodName := ⟨RX11, "feedNumber", "(I)V"⟩
abbrev cX11_cut : ByteArray := prog_1_method_4_code
def yX11_cut : MethodName := ⟨RX11, "cut", "(I)I"⟩
abbrev cX11_part : ByteArray := prog_1_method_5_code
def yX11_part : MethodName := ⟨RX11, "part", "(I)I"⟩
abbrev cX11_drop : ByteArray := prog_1_method_6_code
def yX11_drop : MethodName := ⟨RX11, "drop", "()I"⟩
abbrev cX11_print : ByteArray := prog_1_method_7_code
def yX11_print : MethodName := ⟨RX11, "print", "(I)I"⟩
abbrev cX11_fault : ByteArray := prog_1_method_8_code
def yX11_fault : MethodName := ⟨RX11, "fault", "(I)I"⟩
abbrev cX11_outs : ByteArray := prog_1_method_9_code
def yX11_outs : MethodName := ⟨RX11, "outs", "()I"⟩
abbrev cX11_out : ByteArray := prog_1_method_10_code
def yX11_out : MethodName := ⟨RX11, "out", "(I)I"⟩
abbrev cX11_sum : ByteArray := prog_1_method_11_code
def yX11_sum : MethodName := ⟨RX11, "sum", "()I"⟩
abbrev cX11_take : ByteArray := prog_1_method_12_code
def yX11_take : MethodName := ⟨RX11, "take", "()I"⟩
abbrev cX11_pages : ByteArray := prog_1_method_13_code
def yX11_pages : MethodName := ⟨RX11, "pages", "()I"⟩
abbrev cX11_width : ByteArray := prog_1_method_14_code
def yX11_width : MethodName := ⟨RX11, "width", "(I)I"⟩
abbrev cX11_height : ByteArray := prog_1_method_15_code
def yX11_height : MethodName := ⟨RX11, "height", "(I)I"⟩
abbrev cX11_dot : ByteArray := prog_1_method_16_code
def yX11_dot : MethodName := ⟨RX11, "dot", "(III)I"⟩
abbrev cX11_black : ByteArray := prog_1_method_17_code
def yX11_black : MethodName := ⟨RX11, "black", "(II)I"⟩
abbrev cX11_state : ByteArray := prog_1_method_18_code
def yX11_state : MethodName := ⟨RX11, "state", "(I)I"⟩
abbrev cX11_held : ByteArray := prog_1_method_19_code
def yX11_held : MethodName := ⟨RX11, "held", "(I)I"⟩
abbrev cX11_off : ByteArray := prog_1_method_20_code
def yX11_off : MethodName := ⟨RX11, "off", "()I"⟩
abbrev cX11_dotAt : ByteArray := prog_1_method_21_code
def yX11_dotAt : MethodName := ⟨RX11, "dotAt", "([III)I"⟩
abbrev cX11_zerosAhead : ByteArray := prog_1_method_22_code
def yX11_zerosAhead : MethodName := ⟨RX11, "zerosAhead", "(I)I"⟩
abbrev cX11_firstOther : ByteArray := prog_1_method_23_code
def yX11_firstOther : MethodName := ⟨RX11, "firstOther", "([IIIII)I"⟩
abbrev cX11_firstChange : ByteArray := prog_1_method_24_code
def yX11_firstChange : MethodName := ⟨RX11, "firstChange", "([IIIII)I"⟩
abbrev cX11_maskOf : ByteArray := prog_1_method_25_code
def yX11_maskOf : MethodName := ⟨RX11, "maskOf", "(III)I"⟩
abbrev cX11_blacken : ByteArray := prog_1_method_26_code
def yX11_blacken : MethodName := ⟨RX11, "blacken", "([IIII)V"⟩
def RX12 : String := "PrinterHouseModel"
def TX12 : u_T := fun k => match k with
  | 0 => ("PrinterHouseModel", "e", "[I", true)
  | 1 => ("PrinterHouseModel", "saved", "[I", true)
  | 2 => ("PrinterHouseModel", "fontThere", "[Z", true)
  | 3 => ("PrinterHouseModel", "fontTemporary", "[Z", true)
  | 4 => ("PrinterHouseModel", "fontNumbers", "[I", true)
  | 5 => ("PrinterHouseModel", "glyphOf", "[I", true)
  | 6 => ("PrinterHouseModel", "glyphUsed", "[Z", true)
  | 7 => ("PrinterHouseModel", "glyphNumbers", "[I", true)
  | 8 => ("PrinterHouseModel", "glyphRows", "[I", true)
  | 9 => ("PrinterHouseModel", "glyphCount", "I", false)
  | 10 => ("PrinterHouseModel", "userThere", "[Z", true)
  | 11 => ("PrinterHouseModel", "userTemporary", "[Z", true)
  | 12 => ("PrinterHouseModel", "userWide", "[I", true)
  | 13 => ("PrinterHouseModel", "userHigh", "[I", true)
  | 14 => ("PrinterHouseModel", "userRows", "[I", true)
  | 15 => ("PrinterHouseModel", "macroThere", "[Z", true)
  | 16 => ("PrinterHouseModel", "macroTemporary", "[Z", true)
  | 17 => ("PrinterHouseModel", "macroSize", "[I", true)
  | 18 => ("PrinterHouseModel", "macroBytes", "[B", true)
  | 19 => ("PrinterHouseModel", "job", "[B", true)
  | 20 => ("PrinterHouseModel", "partFrom", "[I", true)
  | 21 => ("PrinterHouseModel", "partSort", "[I", true)
  | 22 => ("PrinterHouseModel", "parts", "I", false)
  | 23 => ("PrinterHouseModel", "tape", "[B", true)
  | 24 => ("PrinterHouseModel", "tapeSize", "I", false)
  | 25 => ("PrinterHouseModel", "copies", "[B", true)
  | 26 => ("PrinterHouseModel", "source", "[B", false)
  | 27 => ("PrinterHouseModel", "pos", "I", false)
  | 28 => ("PrinterHouseModel", "end", "I", false)
  | 29 => ("PrinterHouseModel", "depth", "I", false)
  | 30 => ("PrinterHouseModel", "inMacro", "Z", false)
  | 31 => ("PrinterHouseModel", "inOverlay", "Z", false)
  | 32 => ("PrinterHouseModel", "gone", "I", false)
  | 33 => ("PrinterHouseModel", "much", "Z", false)
  | 34 => ("PrinterHouseModel", "page", "[B", true)
  | 35 => ("PrinterHouseModel", "pageMarks", "I", false)
  | 36 => ("PrinterHouseModel", "allMarks", "I", false)
  | 37 => ("PrinterHouseModel", "came", "[B", true)
  | 38 => ("PrinterHouseModel", "cameWide", "[I", true)
  | 39 => ("PrinterHouseModel", "cameHigh", "[I", true)
  | 40 => ("PrinterHouseModel", "cameCount", "I", false)
  | 41 => ("PrinterHouseModel", "out", "[B", true)
  | 42 => ("PrinterHouseModel", "outSize", "I", false)
  | 43 => ("PrinterHouseModel", "faultNumber", "I", false)
  | 44 => ("PrinterHouseModel", "faultPart", "I", false)
  | 45 => ("PrinterHouseModel", "faultPlace", "I", false)
  | 46 => ("PrinterHouseModel", "told", "[I", true)
  | 47 => ("PrinterHouseModel", "isTold", "Z", false)
  | 48 => ("PrinterHouseModel", "laid", "[I", true)
  | 49 => ("PrinterHouseModel", "covered", "J", false)
  | 50 => ("PrinterHouseModel", "candidate", "[Z", true)
  | 51 => ("PrinterHouseModel", "whole", "I", false)
  | 52 => ("PrinterHouseModel", "wasDefined", "Z", false)
  | 53 => ("PrinterHouseModel", "part10000", "J", false)
  | 54 => ("PrinterHouseModel", "isRelative", "Z", false)
  | 55 => ("PrinterHouseModel", "filled", "I", false)
  | 56 => ("PrinterHouseModel", "runBits", "[I", true)
  | 57 => ("PrinterHouseModel", "runCode", "[I", true)
  | 58 => ("PrinterHouseModel", "before", "[I", true)
  | 59 => ("PrinterHouseModel", "now", "[I", true)
  | 60 => ("PrinterHouseModel", "width", "I", false)
  | 61 => ("PrinterHouseModel", "a0", "I", false)
  | 62 => ("PrinterHouseModel", "isFirst", "Z", false)
  | 63 => ("PrinterHouseModel", "colour", "I", false)
  | 64 => ("PrinterHouseModel", "outBits", "I", false)
  | 65 => ("PrinterHouseModel", "outHeld", "I", false)
  | 66 => ("PrinterHouseModel", "lastLink", "I", false)
  | 67 => ("PrinterHouseModel", "picFrom", "I", false)
  | 68 => ("PrinterHouseModel", "picSize", "I", false)
  | 69 => ("PrinterHouseModel", "isMotorola", "Z", false)
  | 70 => ("PrinterHouseModel", "seen", "[I", true)
  | 71 => ("PrinterHouseModel", "seenCount", "I", false)
  | 72 => ("PrinterHouseModel", "entryAt", "[I", true)
  | 73 => ("PrinterHouseModel", "entryTells", "[J", true)
  | 74 => ("PrinterHouseModel", "stripAt", "[J", true)
  | 75 => ("PrinterHouseModel", "stripSize", "[J", true)
  | 76 => ("PrinterHouseModel", "codeFrom", "I", false)
  | 77 => ("PrinterHouseModel", "codeBits", "J", false)
  | 78 => ("PrinterHouseModel", "codePos", "J", false)
  | _ => ("PrinterHouseModel", "isTurned", "Z", false)
def tyX12 : Nat → FieldType := fun k => match k with
  | 0 => .array .int
  | 1 => .array .int
  | 2 => .array .boolean
  | 3 => .array .boolean
  | 4 => .array .int
  | 5 => .array .int
  | 6 => .array .boolean
  | 7 => .array .int
  | 8 => .array .int
  | 9 => .int
  | 10 => .array .boolean
  | 11 => .array .boolean
  | 12 => .array .int
  | 13 => .array .int
  | 14 => .array .int
  | 15 => .array .boolean
  | 16 => .array .boolean
  | 17 => .array .int
  | 18 => .array .byte
  | 19 => .array .byte
  | 20 => .array .int
  | 21 => .array .int
  | 22 => .int
  | 23 => .array .byte
  | 24 => .int
  | 25 => .array .byte
  | 26 => .array .byte
  | 27 => .int
  | 28 => .int
  | 29 => .int
  | 30 => .boolean
  | 31 => .boolean
  | 32 => .int
  | 33 => .boolean
  | 34 => .array .byte
  | 35 => .int
  | 36 => .int
  | 37 => .array .byte
  | 38 => .array .int
  | 39 => .array .int
  | 40 => .int
  | 41 => .array .byte
  | 42 => .int
  | 43 => .int
  | 44 => .int
  | 45 => .int
  | 46 => .array .int
  | 47 => .boolean
  | 48 => .array .int
  | 49 => .long
  | 50 => .array .boolean
  | 51 => .int
  | 52 => .boolean
  | 53 => .long
  | 54 => .boolean
  | 55 => .int
  | 56 => .array .int
  | 57 => .array .int
  | 58 => .array .int
  | 59 => .array .int
  | 60 => .int
  | 61 => .int
  | 62 => .boolean
  | 63 => .int
  | 64 => .int
  | 65 => .int
  | 66 => .int
  | 67 => .int
  | 68 => .int
  | 69 => .boolean
  | 70 => .array .int
  | 71 => .int
  | 72 => .array .int
  | 73 => .array .long
  | 74 => .array .long
  | 75 => .array .long
  | 76 => .int
  | 77 => .long
  | 78 => .long
  | _ => .boolean
abbrev wsX120 : List Cond := u_ws RX12 TX12 80
theorem nmX12 : ∀ a, a < 80 → ∀ b, b < 80 → a ≠ b → (TX12 a).2.1 ≠ (TX12 b).2.1 := by decide +kernel
theorem tyX12_ok : ∀ k, k < 80 → parseFieldDescriptor (TX12 k).2.2.1 = some (tyX12 k) := by decide +kernel
abbrev cX12_init : ByteArray := prog_14_method_1_code
def yX12_init : MethodName := ⟨RX12, "<init>", "()V"⟩
abbrev cX12_feed : ByteArray := prog_14_method_3_code
def yX12_feed : MethodName := ⟨RX12, "feed", "(IIIII)I"⟩
abbrev cX12_lay : ByteArray := prog_14_method_4_code
def yX12_lay : MethodName := ⟨RX12, "lay", "(I)V"⟩
abbrev cX12_cut : ByteArray := prog_14_method_5_code
def yX12_cut : MethodName := ⟨RX12, "cut", "(I)I"⟩
abbrev cX12_part : ByteArray := prog_14_method_6_code
def yX12_part : MethodName := ⟨RX12, "part", "(I)I"⟩
abbrev cX12_drop : ByteArray := prog_14_method_7_code
def yX12_drop : MethodName := ⟨RX12, "drop", "()I"⟩
abbrev cX12_pageWide : ByteArray := prog_14_method_8_code
def yX12_pageWide : MethodName := ⟨RX12, "pageWide", "(I)I"⟩
abbrev cX12_pageHigh : ByteArray := prog_14_method_9_code
def yX12_pageHigh : MethodName := ⟨RX12, "pageHigh", "(I)I"⟩
abbrev cX12_wide : ByteArray := prog_14_method_10_code
def yX12_wide : MethodName := ⟨RX12, "wide", "()I"⟩
abbrev cX12_high : ByteArray := prog_14_method_11_code
def yX12_high : MethodName := ⟨RX12, "high", "()I"⟩
abbrev cX12_modulo : ByteArray := prog_14_method_13_code
def yX12_modulo : MethodName := ⟨RX12, "modulo", "(II)I"⟩
abbrev cX12_shadeOf : ByteArray := prog_14_method_14_code
def yX12_shadeOf : MethodName := ⟨RX12, "shadeOf", "(II)I"⟩
abbrev cX12_patternAt : ByteArray := prog_14_method_15_code
def yX12_patternAt : MethodName := ⟨RX12, "patternAt", "(II)I"⟩
abbrev cX12_useAtHand : ByteArray := prog_14_method_16_code
def yX12_useAtHand : MethodName := ⟨RX12, "useAtHand", "()V"⟩
abbrev cX12_lay_ : ByteArray := prog_14_method_17_code
def yX12_lay_ : MethodName := ⟨RX12, "lay", "(III)V"⟩
abbrev cX12_mark : ByteArray := prog_14_method_18_code
def yX12_mark : MethodName := ⟨RX12, "mark", "(JJJJ)Z"⟩
abbrev cX12_comes : ByteArray := prog_14_method_19_code
def yX12_comes : MethodName := ⟨RX12, "comes", "(II)V"⟩
abbrev cX12_white : ByteArray := prog_14_method_20_code
def yX12_white : MethodName := ⟨RX12, "white", "()V"⟩
abbrev cX12_setX : ByteArray := prog_14_method_21_code
def yX12_setX : MethodName := ⟨RX12, "setX", "(J)V"⟩
abbrev cX12_setY : ByteArray := prog_14_method_22_code
def yX12_setY : MethodName := ⟨RX12, "setY", "(J)V"⟩
abbrev cX12_homeY : ByteArray := prog_14_method_23_code
def yX12_homeY : MethodName := ⟨RX12, "homeY", "()V"⟩
abbrev cX12_pagesOwn : ByteArray := prog_14_method_24_code
def yX12_pagesOwn : MethodName := ⟨RX12, "pagesOwn", "()V"⟩
abbrev cX12_reset : ByteArray := prog_14_method_25_code
def yX12_reset : MethodName := ⟨RX12, "reset", "(II)V"⟩
abbrev cX12_save : ByteArray := prog_14_method_26_code
def yX12_save : MethodName := ⟨RX12, "save", "(I)V"⟩
abbrev cX12_back : ByteArray := prog_14_method_27_code
def yX12_back : MethodName := ⟨RX12, "back", "(I)V"⟩
abbrev cX12_eject : ByteArray := prog_14_method_28_code
def yX12_eject : MethodName := ⟨RX12, "eject", "()V"⟩
abbrev cX12_temporaryGo : ByteArray := prog_14_method_29_code
def yX12_temporaryGo : MethodName := ⟨RX12, "temporaryGo", "()V"⟩
abbrev cX12_fontsGo : ByteArray := prog_14_method_30_code
def yX12_fontsGo : MethodName := ⟨RX12, "fontsGo", "(Z)V"⟩
abbrev cX12_fontGoes : ByteArray := prog_14_method_31_code
def yX12_fontGoes : MethodName := ⟨RX12, "fontGoes", "(I)V"⟩
abbrev cX12_glyphGoes : ByteArray := prog_14_method_32_code
def yX12_glyphGoes : MethodName := ⟨RX12, "glyphGoes", "(II)V"⟩
abbrev cX12_usersGo : ByteArray := prog_14_method_33_code
def yX12_usersGo : MethodName := ⟨RX12, "usersGo", "(Z)V"⟩
abbrev cX12_macrosGo : ByteArray := prog_14_method_34_code
def yX12_macrosGo : MethodName := ⟨RX12, "macrosGo", "(Z)V"⟩
abbrev cX12_hasMore : ByteArray := prog_14_method_35_code
def yX12_hasMore : MethodName := ⟨RX12, "hasMore", "()Z"⟩
abbrev cX12_next : ByteArray := prog_14_method_36_code
def yX12_next : MethodName := ⟨RX12, "next", "()I"⟩
abbrev cX12_count : ByteArray := prog_14_method_37_code
def yX12_count : MethodName := ⟨RX12, "count", "(I)V"⟩
abbrev cX12_peek : ByteArray := prog_14_method_38_code
def yX12_peek : MethodName := ⟨RX12, "peek", "()I"⟩
abbrev cX12_through : ByteArray := prog_14_method_39_code
def yX12_through : MethodName := ⟨RX12, "through", "(I)V"⟩
abbrev cX12_run : ByteArray := prog_14_method_40_code
def yX12_run : MethodName := ⟨RX12, "run", "()V"⟩
abbrev cX12_plain : ByteArray := prog_14_method_41_code
def yX12_plain : MethodName := ⟨RX12, "plain", "(I)V"⟩
abbrev cX12_tab : ByteArray := prog_14_method_42_code
def yX12_tab : MethodName := ⟨RX12, "tab", "()V"⟩
abbrev cX12_line : ByteArray := prog_14_method_43_code
def yX12_line : MethodName := ⟨RX12, "line", "(I)V"⟩
abbrev cX12_show : ByteArray := prog_14_method_44_code
def yX12_show : MethodName := ⟨RX12, "show", "(I)V"⟩
abbrev cX12_residentGlyph : ByteArray := prog_14_method_45_code
def yX12_residentGlyph : MethodName := ⟨RX12, "residentGlyph", "(III)V"⟩
abbrev cX12_glyph : ByteArray := prog_14_method_46_code
def yX12_glyph : MethodName := ⟨RX12, "glyph", "(III)V"⟩
abbrev cX12_wish : ByteArray := prog_14_method_47_code
def yX12_wish : MethodName := ⟨RX12, "wish", "(I)I"⟩
abbrev cX12_fontInUse : ByteArray := prog_14_method_48_code
def yX12_fontInUse : MethodName := ⟨RX12, "fontInUse", "()I"⟩
abbrev cX12_keep : ByteArray := prog_14_method_49_code
def yX12_keep : MethodName := ⟨RX12, "keep", "(II)V"⟩
abbrev cX12_nearest : ByteArray := prog_14_method_50_code
def yX12_nearest : MethodName := ⟨RX12, "nearest", "(II)V"⟩
abbrev cX12_smaller : ByteArray := prog_14_method_51_code
def yX12_smaller : MethodName := ⟨RX12, "smaller", "(JJ)J"⟩
abbrev cX12_far : ByteArray := prog_14_method_52_code
def yX12_far : MethodName := ⟨RX12, "far", "(II)J"⟩
abbrev cX12_escape : ByteArray := prog_14_method_53_code
def yX12_escape : MethodName := ⟨RX12, "escape", "()V"⟩
abbrev cX12_readValue : ByteArray := prog_14_method_54_code
def yX12_readValue : MethodName := ⟨RX12, "readValue", "()V"⟩
abbrev cX12_units : ByteArray := prog_14_method_55_code
def yX12_units : MethodName := ⟨RX12, "units", "(J)J"⟩
abbrev cX12_pair : ByteArray := prog_14_method_56_code
def yX12_pair : MethodName := ⟨RX12, "pair", "(I)V"⟩
abbrev cX12_transparent : ByteArray := prog_14_method_57_code
def yX12_transparent : MethodName := ⟨RX12, "transparent", "()V"⟩
abbrev cX12_shown : ByteArray := prog_14_method_58_code
def yX12_shown : MethodName := ⟨RX12, "shown", "(I)V"⟩
abbrev cX12_field : ByteArray := prog_14_method_59_code
def yX12_field : MethodName := ⟨RX12, "field", "(III)V"⟩
abbrev cX12_pageField : ByteArray := prog_14_method_60_code
def yX12_pageField : MethodName := ⟨RX12, "pageField", "(I)V"⟩
abbrev cX12_placeField : ByteArray := prog_14_method_61_code
def yX12_placeField : MethodName := ⟨RX12, "placeField", "(I)V"⟩
abbrev cX12_dotField : ByteArray := prog_14_method_62_code
def yX12_dotField : MethodName := ⟨RX12, "dotField", "(I)V"⟩
abbrev cX12_macroField : ByteArray := prog_14_method_63_code
def yX12_macroField : MethodName := ⟨RX12, "macroField", "(I)V"⟩
abbrev cX12_macroAct : ByteArray := prog_14_method_64_code
def yX12_macroAct : MethodName := ⟨RX12, "macroAct", "()V"⟩
abbrev cX12_endsMacro : ByteArray := prog_14_method_65_code
def yX12_endsMacro : MethodName := ⟨RX12, "endsMacro", "(I)Z"⟩
abbrev cX12_define : ByteArray := prog_14_method_66_code
def yX12_define : MethodName := ⟨RX12, "define", "(I)V"⟩
abbrev cX12_hasPattern : ByteArray := prog_14_method_67_code
def yX12_hasPattern : MethodName := ⟨RX12, "hasPattern", "(II)Z"⟩
abbrev cX12_putPattern : ByteArray := prog_14_method_68_code
def yX12_putPattern : MethodName := ⟨RX12, "putPattern", "([IIII)V"⟩
abbrev cX12_modelField : ByteArray := prog_14_method_69_code
def yX12_modelField : MethodName := ⟨RX12, "modelField", "(I)V"⟩
abbrev cX12_dotsUp : ByteArray := prog_14_method_70_code
def yX12_dotsUp : MethodName := ⟨RX12, "dotsUp", "(J)I"⟩
abbrev cX12_thingField : ByteArray := prog_14_method_71_code
def yX12_thingField : MethodName := ⟨RX12, "thingField", "(I)V"⟩
abbrev cX12_fontAct : ByteArray := prog_14_method_72_code
def yX12_fontAct : MethodName := ⟨RX12, "fontAct", "()V"⟩
abbrev cX12_userAct : ByteArray := prog_14_method_73_code
def yX12_userAct : MethodName := ⟨RX12, "userAct", "()V"⟩
abbrev cX12_rectangle : ByteArray := prog_14_method_74_code
def yX12_rectangle : MethodName := ⟨RX12, "rectangle", "()V"⟩
abbrev cX12_fontField : ByteArray := prog_14_method_75_code
def yX12_fontField : MethodName := ⟨RX12, "fontField", "(III)V"⟩
abbrev cX12_dataAt : ByteArray := prog_14_method_76_code
def yX12_dataAt : MethodName := ⟨RX12, "dataAt", "(I)I"⟩
abbrev cX12_signedAt : ByteArray := prog_14_method_77_code
def yX12_signedAt : MethodName := ⟨RX12, "signedAt", "(I)I"⟩
abbrev cX12_withData : ByteArray := prog_14_method_78_code
def yX12_withData : MethodName := ⟨RX12, "withData", "(III)V"⟩
abbrev cX12_fontData : ByteArray := prog_14_method_79_code
def yX12_fontData : MethodName := ⟨RX12, "fontData", "(I)V"⟩
abbrev cX12_glyphData : ByteArray := prog_14_method_80_code
def yX12_glyphData : MethodName := ⟨RX12, "glyphData", "(I)V"⟩
abbrev cX12_userData : ByteArray := prog_14_method_81_code
def yX12_userData : MethodName := ⟨RX12, "userData", "(I)V"⟩
abbrev cX12_begin : ByteArray := prog_14_method_82_code
def yX12_begin : MethodName := ⟨RX12, "begin", "(Z)V"⟩
abbrev cX12_rasterField : ByteArray := prog_14_method_83_code
def yX12_rasterField : MethodName := ⟨RX12, "rasterField", "(I)V"⟩
abbrev cX12_rowField : ByteArray := prog_14_method_84_code
def yX12_rowField : MethodName := ⟨RX12, "rowField", "(I)V"⟩
abbrev cX12_rowData : ByteArray := prog_14_method_85_code
def yX12_rowData : MethodName := ⟨RX12, "rowData", "(I)V"⟩
abbrev cX12_fill : ByteArray := prog_14_method_86_code
def yX12_fill : MethodName := ⟨RX12, "fill", "(I)V"⟩
abbrev cX12_unpack : ByteArray := prog_14_method_87_code
def yX12_unpack : MethodName := ⟨RX12, "unpack", "(I)V"⟩
abbrev cX12_changed : ByteArray := prog_14_method_88_code
def yX12_changed : MethodName := ⟨RX12, "changed", "(I)V"⟩
abbrev cX12_readCodes : ByteArray := prog_14_method_89_code
def yX12_readCodes : MethodName := ⟨RX12, "readCodes", "()V"⟩
abbrev cX12_readRow : ByteArray := prog_14_method_90_code
def yX12_readRow : MethodName := ⟨RX12, "readRow", "(Ljava/lang/String;I)V"⟩
abbrev cX12_b1 : ByteArray := prog_14_method_91_code
def yX12_b1 : MethodName := ⟨RX12, "b1", "()I"⟩
abbrev cX12_b2 : ByteArray := prog_14_method_92_code
def yX12_b2 : MethodName := ⟨RX12, "b2", "(I)I"⟩
abbrev cX12_bits : ByteArray := prog_14_method_93_code
def yX12_bits : MethodName := ⟨RX12, "bits", "(II)V"⟩
abbrev cX12_outByte : ByteArray := prog_14_method_94_code
def yX12_outByte : MethodName := ⟨RX12, "outByte", "(I)V"⟩
abbrev cX12_outNumber : ByteArray := prog_14_method_95_code
def yX12_outNumber : MethodName := ⟨RX12, "outNumber", "(IJ)V"⟩
abbrev cX12_writeRun : ByteArray := prog_14_method_96_code
def yX12_writeRun : MethodName := ⟨RX12, "writeRun", "(II)V"⟩
abbrev cX12_change : ByteArray := prog_14_method_97_code
def yX12_change : MethodName := ⟨RX12, "change", "(II)I"⟩
abbrev cX12_writeRow : ByteArray := prog_14_method_98_code
def yX12_writeRow : MethodName := ⟨RX12, "writeRow", "()V"⟩
abbrev cX12_written : ByteArray := prog_14_method_99_code
def yX12_written : MethodName := ⟨RX12, "written", "(I)V"⟩
abbrev cX12_entry : ByteArray := prog_14_method_100_code
def yX12_entry : MethodName := ⟨RX12, "entry", "(III)V"⟩
abbrev cX12_picture : ByteArray := prog_14_method_101_code
def yX12_picture : MethodName := ⟨RX12, "picture", "(II)J"⟩
abbrev cX12_wrong : ByteArray := prog_14_method_102_code
def yX12_wrong : MethodName := ⟨RX12, "wrong", "(II)Z"⟩
abbrev cX12_pictures : ByteArray := prog_14_method_103_code
def yX12_pictures : MethodName := ⟨RX12, "pictures", "(I)Z"⟩
abbrev cX12_valueOf : ByteArray := prog_14_method_104_code
def yX12_valueOf : MethodName := ⟨RX12, "valueOf", "(II)J"⟩
abbrev cX12_isLooked : ByteArray := prog_14_method_105_code
def yX12_isLooked : MethodName := ⟨RX12, "isLooked", "(I)Z"⟩
abbrev cX12_isMay : ByteArray := prog_14_method_106_code
def yX12_isMay : MethodName := ⟨RX12, "isMay", "(IJ)Z"⟩
abbrev cX12_directory : ByteArray := prog_14_method_107_code
def yX12_directory : MethodName := ⟨RX12, "directory", "(II)Z"⟩
abbrev cX12_bit : ByteArray := prog_14_method_108_code
def yX12_bit : MethodName := ⟨RX12, "bit", "()I"⟩
abbrev cX12_readRun : ByteArray := prog_14_method_109_code
def yX12_readRun : MethodName := ⟨RX12, "readRun", "(I)I"⟩
abbrev cX12_oneRun : ByteArray := prog_14_method_110_code
def yX12_oneRun : MethodName := ⟨RX12, "oneRun", "(I)I"⟩
abbrev cX12_mode : ByteArray := prog_14_method_111_code
def yX12_mode : MethodName := ⟨RX12, "mode", "()I"⟩
abbrev cX12_readRow_ : ByteArray := prog_14_method_112_code
def yX12_readRow_ : MethodName := ⟨RX12, "readRow", "()Z"⟩
abbrev cX12_paint : ByteArray := prog_14_method_113_code
def yX12_paint : MethodName := ⟨RX12, "paint", "(II)V"⟩
abbrev cX12_print : ByteArray := prog_14_method_114_code
def yX12_print : MethodName := ⟨RX12, "print", "(I)I"⟩
abbrev cX12_stream : ByteArray := prog_14_method_115_code
def yX12_stream : MethodName := ⟨RX12, "stream", "(I)V"⟩
abbrev cX12_fault : ByteArray := prog_14_method_116_code
def yX12_fault : MethodName := ⟨RX12, "fault", "(I)I"⟩
abbrev cX12_outs : ByteArray := prog_14_method_117_code
def yX12_outs : MethodName := ⟨RX12, "outs", "()I"⟩
abbrev cX12_out : ByteArray := prog_14_method_118_code
def yX12_out : MethodName := ⟨RX12, "out", "(I)I"⟩
abbrev cX12_sum : ByteArray := prog_14_method_119_code
def yX12_sum : MethodName := ⟨RX12, "sum", "()I"⟩
abbrev cX12_take : ByteArray := prog_14_method_120_code
def yX12_take : MethodName := ⟨RX12, "take", "()I"⟩
abbrev cX12_pages : ByteArray := prog_14_method_121_code
def yX12_pages : MethodName := ⟨RX12, "pages", "()I"⟩
abbrev cX12_width : ByteArray := prog_14_method_122_code
def yX12_width : MethodName := ⟨RX12, "width", "(I)I"⟩
abbrev cX12_height : ByteArray := prog_14_method_123_code
def yX12_height : MethodName := ⟨RX12, "height", "(I)I"⟩
abbrev cX12_dot : ByteArray := prog_14_method_124_code
def yX12_dot : MethodName := ⟨RX12, "dot", "(III)I"⟩
abbrev cX12_black : ByteArray := prog_14_method_125_code
def yX12_black : MethodName := ⟨RX12, "black", "(II)I"⟩
abbrev cX12_state : ByteArray := prog_14_method_126_code
def yX12_state : MethodName := ⟨RX12, "state", "(I)I"⟩
abbrev cX12_held : ByteArray := prog_14_method_127_code
def yX12_held : MethodName := ⟨RX12, "held", "(I)I"⟩
abbrev cX12_off : ByteArray := prog_14_method_128_code
def yX12_off : MethodName := ⟨RX12, "off", "()I"⟩
def RJx145de : String := "java/io/Serializable"
def TJx145de : u_T := fun k => match k with
  | _ => ("", "", "", false)
def tyJx145de : Nat → FieldType := fun k => match k with
  | _ => .int
abbrev wsJx145de0 : List Cond := u_ws RJx145de TJx145de 0
theorem nmJx145de : ∀ a, a < 0 → ∀ b, b < 0 → a ≠ b → (TJx145de a).2.1 ≠ (TJx145de b).2.1 := by decide +kernel
theorem tyJx145de_ok : ∀ k, k < 0 → parseFieldDescriptor (TJx145de k).2.2.1 = some (tyJx145de k) := by decide +kernel
def RJx9f9b0 : String := "java/lang/CharSequence"
def TJx9f9b0 : u_T := fun k => match k with
  | _ => ("", "", "", false)
def tyJx9f9b0 : Nat → FieldType := fun k => match k with
  | _ => .int
abbrev wsJx9f9b00 : List Cond := u_ws RJx9f9b0 TJx9f9b0 0
theorem nmJx9f9b0 : ∀ a, a < 0 → ∀ b, b < 0 → a ≠ b → (TJx9f9b0 a).2.1 ≠ (TJx9f9b0 b).2.1 := by decide +kernel
theorem tyJx9f9b0_ok : ∀ k, k < 0 → parseFieldDescriptor (TJx9f9b0 k).2.2.1 = some (tyJx9f9b0 k) := by decide +kernel
def RJxb160c : String := "java/lang/Comparable"
def TJxb160c : u_T := fun k => match k with
  | _ => ("", "", "", false)
def tyJxb160c : Nat → FieldType := fun k => match k with
  | _ => .int
abbrev wsJxb160c0 : List Cond := u_ws RJxb160c TJxb160c 0
theorem nmJxb160c : ∀ a, a < 0 → ∀ b, b < 0 → a ≠ b → (TJxb160c a).2.1 ≠ (TJxb160c b).2.1 := by decide +kernel
theorem tyJxb160c_ok : ∀ k, k < 0 → parseFieldDescriptor (TJxb160c k).2.2.1 = some (tyJxb160c k) := by decide +kernel
def RJ6 : String := "java/lang/Integer"
def TJ6 : u_T := fun k => match k with
  | _ => ("", "", "", false)
def tyJ6 : Nat → FieldType := fun k => match k with
  | _ => .int
abbrev wsJ60 : List Cond := u_ws RJ6 TJ6 0
theorem nmJ6 : ∀ a, a < 0 → ∀ b, b < 0 → a ≠ b → (TJ6 a).2.1 ≠ (TJ6 b).2.1 := by decide +kernel
theorem tyJ6_ok : ∀ k, k < 0 → parseFieldDescriptor (TJ6 k).2.2.1 = some (tyJ6 k) := by decide +kernel
abbrev cJ6_bitCount_0f7a4 : ByteArray := prog_15_method_49_code
def yJ6_bitCount_0f7a4 : MethodName := ⟨RJ6, "bitCount", "(I)I"⟩
def RJ9 : String := "java/lang/Math"
def TJ9 : u_T := fun k => match k with
  | _ => ("", "", "", false)
def tyJ9 : Nat → FieldType := fun k => match k with
  | _ => .int
abbrev wsJ90 : List Cond := u_ws RJ9 TJ9 0
theorem nmJ9 : ∀ a, a < 0 → ∀ b, b < 0 → a ≠ b → (TJ9 a).2.1 ≠ (TJ9 b).2.1 := by decide +kernel
theorem tyJ9_ok : ∀ k, k < 0 → parseFieldDescriptor (TJ9 k).2.2.1 = some (tyJ9 k) := by decide +kernel
abbrev cJ9_floorDiv_7cf53 : ByteArray := prog_16_method_47_code
def yJ9_floorDiv_7cf53 : MethodName := ⟨RJ9, "floorDiv", "(II)I"⟩
abbrev cJ9_floorMod_7cf53 : ByteArray := prog_16_method_50_code
def yJ9_floorMod_7cf53 : MethodName := ⟨RJ9, "floorMod", "(II)I"⟩
abbrev cJ9_abs_0f7a4 : ByteArray := prog_16_method_59_code
def yJ9_abs_0f7a4 : MethodName := ⟨RJ9, "abs", "(I)I"⟩
abbrev cJ9_max_7cf53 : ByteArray := prog_16_method_65_code
def yJ9_max_7cf53 : MethodName := ⟨RJ9, "max", "(II)I"⟩
abbrev cJ9_max_f86c9 : ByteArray := prog_16_method_66_code
def yJ9_max_f86c9 : MethodName := ⟨RJ9, "max", "(JJ)J"⟩
abbrev cJ9_min_7cf53 : ByteArray := prog_16_method_69_code
def yJ9_min_7cf53 : MethodName := ⟨RJ9, "min", "(II)I"⟩
abbrev cJ9_min_f86c9 : ByteArray := prog_16_method_70_code
def yJ9_min_f86c9 : MethodName := ⟨RJ9, "min", "(JJ)J"⟩
def RJ0 : String := "java/lang/String"
def TJ0 : u_T := fun k => match k with
  | _ => ("", "", "", false)
def tyJ0 : Nat → FieldType := fun k => match k with
  | _ => .int
abbrev wsJ00 : List Cond := u_ws RJ0 TJ0 0
theorem nmJ0 : ∀ a, a < 0 → ∀ b, b < 0 → a ≠ b → (TJ0 a).2.1 ≠ (TJ0 b).2.1 := by decide +kernel
theorem tyJ0_ok : ∀ k, k < 0 → parseFieldDescriptor (TJ0 k).2.2.1 = some (tyJ0 k) := by decide +kernel
abbrev cJ0_length_8abf5 : ByteArray := prog_17_method_54_code
def yJ0_length_8abf5 : MethodName := ⟨RJ0, "length", "()I"⟩
abbrev cJ0_charAt_5068e : ByteArray := prog_17_method_56_code
def yJ0_charAt_5068e : MethodName := ⟨RJ0, "charAt", "(I)C"⟩
abbrev cJ0_coder_7d493 : ByteArray := prog_17_method_152_code
def yJ0_coder_7d493 : MethodName := ⟨RJ0, "coder", "()B"⟩
abbrev cJ0_isLatin1_aae02 : ByteArray := prog_17_method_154_code
def yJ0_isLatin1_aae02 : MethodName := ⟨RJ0, "isLatin1", "()Z"⟩
abbrev cJ0_checkIndex_df160 : ByteArray := prog_17_method_155_code
def yJ0_checkIndex_df160 : MethodName := ⟨RJ0, "checkIndex", "(II)V"⟩
def RJ1 : String := "java/lang/StringLatin1"
def TJ1 : u_T := fun k => match k with
  | _ => ("", "", "", false)
def tyJ1 : Nat → FieldType := fun k => match k with
  | _ => .int
abbrev wsJ10 : List Cond := u_ws RJ1 TJ1 0
theorem nmJ1 : ∀ a, a < 0 → ∀ b, b < 0 → a ≠ b → (TJ1 a).2.1 ≠ (TJ1 b).2.1 := by decide +kernel
theorem tyJ1_ok : ∀ k, k < 0 → parseFieldDescriptor (TJ1 k).2.2.1 = some (tyJ1 k) := by decide +kernel
abbrev cJ1_charAt_3b067 : ByteArray := prog_18_method_2_code
def yJ1_charAt_3b067 : MethodName := ⟨RJ1, "charAt", "([BI)C"⟩
def RJ2 : String := "java/lang/StringUTF16"
def TJ2 : u_T := fun k => match k with
  | _ => ("", "", "", false)
def tyJ2 : Nat → FieldType := fun k => match k with
  | _ => .int
abbrev wsJ20 : List Cond := u_ws RJ2 TJ2 0
theorem nmJ2 : ∀ a, a < 0 → ∀ b, b < 0 → a ≠ b → (TJ2 a).2.1 ≠ (TJ2 b).2.1 := by decide +kernel
theorem tyJ2_ok : ∀ k, k < 0 → parseFieldDescriptor (TJ2 k).2.2.1 = some (tyJ2 k) := by decide +kernel
abbrev cJ2_getChar_3b067 : ByteArray := prog_19_method_5_code
def yJ2_getChar_3b067 : MethodName := ⟨RJ2, "getChar", "([BI)C"⟩
abbrev cJ2_length_9d52b : ByteArray := prog_19_method_6_code
def yJ2_length_9d52b : MethodName := ⟨RJ2, "length", "([B)I"⟩
abbrev cJ2_charAt_3b067 : ByteArray := prog_19_method_83_code
def yJ2_charAt_3b067 : MethodName := ⟨RJ2, "charAt", "([BI)C"⟩
abbrev cJ2_checkIndex_2214a : ByteArray := prog_19_method_91_code
def yJ2_checkIndex_2214a : MethodName := ⟨RJ2, "checkIndex", "(I[B)V"⟩
def RJ10 : String := "java/lang/System"
def TJ10 : u_T := fun k => match k with
  | _ => ("", "", "", false)
def tyJ10 : Nat → FieldType := fun k => match k with
  | _ => .int
abbrev wsJ100 : List Cond := u_ws RJ10 TJ10 0
theorem nmJ10 : ∀ a, a < 0 → ∀ b, b < 0 → a ≠ b → (TJ10 a).2.1 ≠ (TJ10 b).2.1 := by decide +kernel
theorem tyJ10_ok : ∀ k, k < 0 → parseFieldDescriptor (TJ10 k).2.2.1 = some (tyJ10 k) := by decide +kernel
def RJxfd54e : String := "java/lang/constant/Constable"
def TJxfd54e : u_T := fun k => match k with
  | _ => ("", "", "", false)
def tyJxfd54e : Nat → FieldType := fun k => match k with
  | _ => .int
abbrev wsJxfd54e0 : List Cond := u_ws RJxfd54e TJxfd54e 0
theorem nmJxfd54e : ∀ a, a < 0 → ∀ b, b < 0 → a ≠ b → (TJxfd54e a).2.1 ≠ (TJxfd54e b).2.1 := by decide +kernel
theorem tyJxfd54e_ok : ∀ k, k < 0 → parseFieldDescriptor (TJxfd54e k).2.2.1 = some (tyJxfd54e k) := by decide +kernel
def RJx3cf43 : String := "java/lang/constant/ConstantDesc"
def TJx3cf43 : u_T := fun k => match k with
  | _ => ("", "", "", false)
def tyJx3cf43 : Nat → FieldType := fun k => match k with
  | _ => .int
abbrev wsJx3cf430 : List Cond := u_ws RJx3cf43 TJx3cf43 0
theorem nmJx3cf43 : ∀ a, a < 0 → ∀ b, b < 0 → a ≠ b → (TJx3cf43 a).2.1 ≠ (TJx3cf43 b).2.1 := by decide +kernel
theorem tyJx3cf43_ok : ∀ k, k < 0 → parseFieldDescriptor (TJx3cf43 k).2.2.1 = some (tyJx3cf43 k) := by decide +kernel
def RJ7 : String := "java/util/Arrays"
def TJ7 : u_T := fun k => match k with
  | _ => ("", "", "", false)
def tyJ7 : Nat → FieldType := fun k => match k with
  | _ => .int
abbrev wsJ70 : List Cond := u_ws RJ7 TJ7 0
theorem nmJ7 : ∀ a, a < 0 → ∀ b, b < 0 → a ≠ b → (TJ7 a).2.1 ≠ (TJ7 b).2.1 := by decide +kernel
theorem tyJ7_ok : ∀ k, k < 0 → parseFieldDescriptor (TJ7 k).2.2.1 = some (tyJ7 k) := by decide +kernel
abbrev cJ7_fill_53178 : ByteArray := prog_21_method_103_code
def yJ7_fill_53178 : MethodName := ⟨RJ7, "fill", "([II)V"⟩
def RJ3 : String := "jdk/internal/util/Preconditions"
def TJ3 : u_T := fun k => match k with
  | _ => ("", "", "", false)
def tyJ3 : Nat → FieldType := fun k => match k with
  | _ => .int
abbrev wsJ30 : List Cond := u_ws RJ3 TJ3 0
theorem nmJ3 : ∀ a, a < 0 → ∀ b, b < 0 → a ≠ b → (TJ3 a).2.1 ≠ (TJ3 b).2.1 := by decide +kernel
theorem tyJ3_ok : ∀ k, k < 0 → parseFieldDescriptor (TJ3 k).2.2.1 = some (tyJ3 k) := by decide +kernel
abbrev cJ3_checkIndex_8e157 : ByteArray := prog_22_method_11_code
def yJ3_checkIndex_8e157 : MethodName := ⟨RJ3, "checkIndex", "(IILjava/util/function/BiFunction;)I"⟩
def RL : String := "PrinterHouseLaw"
abbrev cL_law : ByteArray := code
def yL_law : MethodName := ⟨RL, "law", "([I)Z"⟩
abbrev vwCl : List vw_C := [(RX0, TX0, 15), (RX1, TX1, 21), (RX2, TX2, 10), (RX3, TX3, 21), (RX4, TX4, 8), (RX5, TX5, 13), (RX6, TX6, 10), (RX7, TX7, 13), (RX8, TX8, 1), (RX9, TX9, 19), (RX10, TX10, 4), (RX11, TX11, 12), (RX12, TX12, 80)]
end
section
/-! The pool as one tuple: addresses, kinds, int / long / reference fields by field code (100 * class + slot) and address, lengths, rows of arrays. -/
abbrev Hp : Type := (List Nat) × (Nat → Nat) × (Nat → Nat → Int32) × (Nat → Nat → Int64) × (Nat → Nat → Option Nat) × (Nat → Nat) × (Nat → Nat → Int32) × (Nat → Nat → Int64) × (Nat → Nat → Option Nat)
def hL (S : Hp) : List Nat := S.1
def hK (S : Hp) : Nat → Nat := S.2.1
def hI (S : Hp) : Nat → Nat → Int32 := S.2.2.1
def hJ (S : Hp) : Nat → Nat → Int64 := S.2.2.2.1
def hR (S : Hp) : Nat → Nat → Option Nat := S.2.2.2.2.1
def hN (S : Hp) : Nat → Nat := S.2.2.2.2.2.1
def aI (S : Hp) : Nat → Nat → Int32 := S.2.2.2.2.2.2.1
def aJ (S : Hp) : Nat → Nat → Int64 := S.2.2.2.2.2.2.2.1
def aR (S : Hp) : Nat → Nat → Option Nat := S.2.2.2.2.2.2.2.2
def up2 {α : Type} (f : Nat → Nat → α) (g a : Nat) (v : α) : Nat → Nat → α := fun x b => if x = g ∧ b = a then v else f x b
theorem up2_self {α : Type} (f : Nat → Nat → α) (g a : Nat) (v : α) : up2 f g a v g a = v := if_pos ⟨rfl, rfl⟩
theorem up2_ne1 {α : Type} (f : Nat → Nat → α) {g x : Nat} (a b : Nat) (v : α) (h : x ≠ g) : up2 f g a v x b = f x b := if_neg fun q => h q.1
theorem up2_ne2 {α : Type} (f : Nat → Nat → α) {a b : Nat} (g x : Nat) (v : α) (h : b ≠ a) : up2 f g a v x b = f x b := if_neg fun q => h q.2
def sI (S : Hp) (g a : Nat) (v : Int32) : Hp := (hL S, hK S, up2 (hI S) g a v, hJ S, hR S, hN S, aI S, aJ S, aR S)
def sJ (S : Hp) (g a : Nat) (v : Int64) : Hp := (hL S, hK S, hI S, up2 (hJ S) g a v, hR S, hN S, aI S, aJ S, aR S)
def sR (S : Hp) (g a : Nat) (v : Option Nat) : Hp := (hL S, hK S, hI S, hJ S, up2 (hR S) g a v, hN S, aI S, aJ S, aR S)
def tI (S : Hp) (a j : Nat) (v : Int32) : Hp := (hL S, hK S, hI S, hJ S, hR S, hN S, up2 (aI S) a j v, aJ S, aR S)
def tJ (S : Hp) (a j : Nat) (v : Int64) : Hp := (hL S, hK S, hI S, hJ S, hR S, hN S, aI S, up2 (aJ S) a j v, aR S)
def tR (S : Hp) (a j : Nat) (v : Option Nat) : Hp := (hL S, hK S, hI S, hJ S, hR S, hN S, aI S, aJ S, up2 (aR S) a j v)
def rI (S : Hp) (a : Nat) (f : Nat → Int32) : Hp := (hL S, hK S, hI S, hJ S, hR S, hN S, va_up (aI S) a f, aJ S, aR S)
def up1 {α : Type} (f : Nat → Nat → α) (a : Nat) (v : α) : Nat → Nat → α := fun x b => if b = a then v else f x b
def nO (S : Hp) (a k : Nat) : Hp := (hL S ++ [a], va_up (hK S) a k, up1 (hI S) a 0, up1 (hJ S) a 0, up1 (hR S) a none, hN S, aI S, aJ S, aR S)
def nA (S : Hp) (a k n : Nat) : Hp := (hL S ++ [a], va_up (hK S) a k, hI S, hJ S, hR S, va_up (hN S) a n, va_up (aI S) a (fun _ => 0), va_up (aJ S) a (fun _ => 0), va_up (aR S) a (fun _ => none))
theorem hL_sI (S : Hp) (g a : Nat) (v : Int32) : hL (sI S g a v) = hL S := rfl
theorem hK_sI (S : Hp) (g a : Nat) (v : Int32) : hK (sI S g a v) = hK S := rfl
theorem hJ_sI (S : Hp) (g a : Nat) (v : Int32) : hJ (sI S g a v) = hJ S := rfl
theorem hR_sI (S : Hp) (g a : Nat) (v : Int32) : hR (sI S g a v) = hR S := rfl
theorem hN_sI (S : Hp) (g a : Nat) (v : Int32) : hN (sI S g a v) = hN S := rfl
theorem aI_sI (S : Hp) (g a : Nat) (v : Int32) : aI (sI S g a v) = aI S := rfl
theorem aJ_sI (S : Hp) (g a : Nat) (v : Int32) : aJ (sI S g a v) = aJ S := rfl
theorem aR_sI (S : Hp) (g a : Nat) (v : Int32) : aR (sI S g a v) = aR S := rfl
theorem hL_sJ (S : Hp) (g a : Nat) (v : Int64) : hL (sJ S g a v) = hL S := rfl
theorem hK_sJ (S : Hp) (g a : Nat) (v : Int64) : hK (sJ S g a v) = hK S := rfl
theorem hI_sJ (S : Hp) (g a : Nat) (v : Int64) : hI (sJ S g a v) = hI S := rfl
theorem hR_sJ (S : Hp) (g a : Nat) (v : Int64) : hR (sJ S g a v) = hR S := rfl
theorem hN_sJ (S : Hp) (g a : Nat) (v : Int64) : hN (sJ S g a v) = hN S := rfl
theorem aI_sJ (S : Hp) (g a : Nat) (v : Int64) : aI (sJ S g a v) = aI S := rfl
theorem aJ_sJ (S : Hp) (g a : Nat) (v : Int64) : aJ (sJ S g a v) = aJ S := rfl
theorem aR_sJ (S : Hp) (g a : Nat) (v : Int64) : aR (sJ S g a v) = aR S := rfl
theorem hL_sR (S : Hp) (g a : Nat) (v : Option Nat) : hL (sR S g a v) = hL S := rfl
theorem hK_sR (S : Hp) (g a : Nat) (v : Option Nat) : hK (sR S g a v) = hK S := rfl
theorem hI_sR (S : Hp) (g a : Nat) (v : Option Nat) : hI (sR S g a v) = hI S := rfl
theorem hJ_sR (S : Hp) (g a : Nat) (v : Option Nat) : hJ (sR S g a v) = hJ S := rfl
theorem hN_sR (S : Hp) (g a : Nat) (v : Option Nat) : hN (sR S g a v) = hN S := rfl
theorem aI_sR (S : Hp) (g a : Nat) (v : Option Nat) : aI (sR S g a v) = aI S := rfl
theorem aJ_sR (S : Hp) (g a : Nat) (v : Option Nat) : aJ (sR S g a v) = aJ S := rfl
theorem aR_sR (S : Hp) (g a : Nat) (v : Option Nat) : aR (sR S g a v) = aR S := rfl
theorem hL_tI (S : Hp) (a j : Nat) (v : Int32) : hL (tI S a j v) = hL S := rfl
theorem hK_tI (S : Hp) (a j : Nat) (v : Int32) : hK (tI S a j v) = hK S := rfl
theorem hI_tI (S : Hp) (a j : Nat) (v : Int32) : hI (tI S a j v) = hI S := rfl
theorem hJ_tI (S : Hp) (a j : Nat) (v : Int32) : hJ (tI S a j v) = hJ S := rfl
theorem hR_tI (S : Hp) (a j : Nat) (v : Int32) : hR (tI S a j v) = hR S := rfl
theorem hN_tI (S : Hp) (a j : Nat) (v : Int32) : hN (tI S a j v) = hN S := rfl
theorem aJ_tI (S : Hp) (a j : Nat) (v : Int32) : aJ (tI S a j v) = aJ S := rfl
theorem aR_tI (S : Hp) (a j : Nat) (v : Int32) : aR (tI S a j v) = aR S := rfl
theorem hL_tJ (S : Hp) (a j : Nat) (v : Int64) : hL (tJ S a j v) = hL S := rfl
theorem hK_tJ (S : Hp) (a j : Nat) (v : Int64) : hK (tJ S a j v) = hK S := rfl
theorem hI_tJ (S : Hp) (a j : Nat) (v : Int64) : hI (tJ S a j v) = hI S := rfl
theorem hJ_tJ (S : Hp) (a j : Nat) (v : Int64) : hJ (tJ S a j v) = hJ S := rfl
theorem hR_tJ (S : Hp) (a j : Nat) (v : Int64) : hR (tJ S a j v) = hR S := rfl
theorem hN_tJ (S : Hp) (a j : Nat) (v : Int64) : hN (tJ S a j v) = hN S := rfl
theorem aI_tJ (S : Hp) (a j : Nat) (v : Int64) : aI (tJ S a j v) = aI S := rfl
theorem aR_tJ (S : Hp) (a j : Nat) (v : Int64) : aR (tJ S a j v) = aR S := rfl
theorem hL_tR (S : Hp) (a j : Nat) (v : Option Nat) : hL (tR S a j v) = hL S := rfl
theorem hK_tR (S : Hp) (a j : Nat) (v : Option Nat) : hK (tR S a j v) = hK S := rfl
theorem hI_tR (S : Hp) (a j : Nat) (v : Option Nat) : hI (tR S a j v) = hI S := rfl
theorem hJ_tR (S : Hp) (a j : Nat) (v : Option Nat) : hJ (tR S a j v) = hJ S := rfl
theorem hR_tR (S : Hp) (a j : Nat) (v : Option Nat) : hR (tR S a j v) = hR S := rfl
theorem hN_tR (S : Hp) (a j : Nat) (v : Option Nat) : hN (tR S a j v) = hN S := rfl
theorem aI_tR (S : Hp) (a j : Nat) (v : Option Nat) : aI (tR S a j v) = aI S := rfl
theorem aJ_tR (S : Hp) (a j : Nat) (v : Option Nat) : aJ (tR S a j v) = aJ S := rfl
theorem hL_rI (S : Hp) (a : Nat) (f : Nat → Int32) : hL (rI S a f) = hL S := rfl
theorem hK_rI (S : Hp) (a : Nat) (f : Nat → Int32) : hK (rI S a f) = hK S := rfl
theorem hI_rI (S : Hp) (a : Nat) (f : Nat → Int32) : hI (rI S a f) = hI S := rfl
theorem hJ_rI (S : Hp) (a : Nat) (f : Nat → Int32) : hJ (rI S a f) = hJ S := rfl
theorem hR_rI (S : Hp) (a : Nat) (f : Nat → Int32) : hR (rI S a f) = hR S := rfl
theorem hN_rI (S : Hp) (a : Nat) (f : Nat → Int32) : hN (rI S a f) = hN S := rfl
theorem aJ_rI (S : Hp) (a : Nat) (f : Nat → Int32) : aJ (rI S a f) = aJ S := rfl
theorem aR_rI (S : Hp) (a : Nat) (f : Nat → Int32) : aR (rI S a f) = aR S := rfl
theorem hN_nO (S : Hp) (a k : Nat) : hN (nO S a k) = hN S := rfl
theorem aI_nO (S : Hp) (a k : Nat) : aI (nO S a k) = aI S := rfl
theorem aJ_nO (S : Hp) (a k : Nat) : aJ (nO S a k) = aJ S := rfl
theorem aR_nO (S : Hp) (a k : Nat) : aR (nO S a k) = aR S := rfl
theorem hI_nA (S : Hp) (a k n : Nat) : hI (nA S a k n) = hI S := rfl
theorem hJ_nA (S : Hp) (a k n : Nat) : hJ (nA S a k n) = hJ S := rfl
theorem hR_nA (S : Hp) (a k n : Nat) : hR (nA S a k n) = hR S := rfl
theorem hI_sI (S : Hp) (g a : Nat) (v : Int32) (x b : Nat) : hI (sI S g a v) x b = if x = g ∧ b = a then v else hI S x b := rfl
theorem hJ_sJ (S : Hp) (g a : Nat) (v : Int64) (x b : Nat) : hJ (sJ S g a v) x b = if x = g ∧ b = a then v else hJ S x b := rfl
theorem hR_sR (S : Hp) (g a : Nat) (v : Option Nat) (x b : Nat) : hR (sR S g a v) x b = if x = g ∧ b = a then v else hR S x b := rfl
theorem aI_tI (S : Hp) (a j : Nat) (v : Int32) (x b : Nat) : aI (tI S a j v) x b = if x = a ∧ b = j then v else aI S x b := rfl
theorem aJ_tJ (S : Hp) (a j : Nat) (v : Int64) (x b : Nat) : aJ (tJ S a j v) x b = if x = a ∧ b = j then v else aJ S x b := rfl
theorem aR_tR (S : Hp) (a j : Nat) (v : Option Nat) (x b : Nat) : aR (tR S a j v) x b = if x = a ∧ b = j then v else aR S x b := rfl
theorem aI_rI (S : Hp) (a : Nat) (f : Nat → Int32) (x b : Nat) : aI (rI S a f) x b = if x = a then f b else aI S x b := by show va_up (aI S) a f x b = _; unfold va_up; split <;> rfl
theorem hL_nO (S : Hp) (a k : Nat) : hL (nO S a k) = hL S ++ [a] := rfl
theorem hL_nA (S : Hp) (a k n : Nat) : hL (nA S a k n) = hL S ++ [a] := rfl
theorem hK_nO (S : Hp) (a k b : Nat) : hK (nO S a k) b = if b = a then k else hK S b := rfl
theorem hK_nA (S : Hp) (a k n b : Nat) : hK (nA S a k n) b = if b = a then k else hK S b := rfl
theorem hI_nO (S : Hp) (a k x b : Nat) : hI (nO S a k) x b = if b = a then 0 else hI S x b := rfl
theorem hJ_nO (S : Hp) (a k x b : Nat) : hJ (nO S a k) x b = if b = a then 0 else hJ S x b := rfl
theorem hR_nO (S : Hp) (a k x b : Nat) : hR (nO S a k) x b = if b = a then none else hR S x b := rfl
theorem hN_nA (S : Hp) (a k n b : Nat) : hN (nA S a k n) b = if b = a then n else hN S b := rfl
theorem aI_nA (S : Hp) (a k n x b : Nat) : aI (nA S a k n) x b = if x = a then 0 else aI S x b := by show va_up (aI S) a (fun _ => 0) x b = _; unfold va_up; split <;> rfl
theorem aJ_nA (S : Hp) (a k n x b : Nat) : aJ (nA S a k n) x b = if x = a then 0 else aJ S x b := by show va_up (aJ S) a (fun _ => 0) x b = _; unfold va_up; split <;> rfl
theorem aR_nA (S : Hp) (a k n x b : Nat) : aR (nA S a k n) x b = if x = a then none else aR S x b := by show va_up (aR S) a (fun _ => none) x b = _; unfold va_up; split <;> rfl
/-- the sorts of the fields, class by class: 0 whole numbers, 1 longs, 2 references, 3 booleans -/
def ftb : List (List Nat) := [[2, 2, 0, 0, 0, 3, 0, 0, 0, 0, 2, 0, 0, 0, 0], [2, 2, 2, 2, 2, 3, 0, 3, 0, 3, 3, 3, 0, 0, 0, 0, 0, 0, 0, 0, 0], [2, 2, 2, 2, 2, 2, 0, 2, 0, 3], [2, 2, 0, 0, 0, 0, 3, 2, 0, 1, 1, 1, 1, 1, 1, 1, 1, 2, 0, 0, 2], [0, 0, 0, 0, 3, 0, 0, 2], [2, 0, 0, 0, 0, 0, 3, 3, 3, 0, 0, 0, 0], [2, 0, 0, 3, 2, 2, 2, 0, 0, 0], [0, 0, 0, 0, 0, 0, 0, 0, 0, 0, 0, 0, 2], [2], [2, 2, 2, 2, 2, 2, 2, 2, 2, 2, 2, 2, 2, 2, 0, 3, 0, 2, 3], [0, 0, 3, 2], [2, 0, 2, 2, 2, 0, 2, 2, 2, 0, 0, 0], [2, 2, 2, 2, 2, 2, 2, 2, 2, 0, 2, 2, 2, 2, 2, 2, 2, 2, 2, 2, 2, 2, 0, 2, 0, 2, 2, 0, 0, 0, 3, 3, 0, 3, 2, 0, 0, 2, 2, 2, 0, 2, 0, 0, 0, 0, 2, 3, 2, 1, 2, 0, 3, 1, 3, 0, 2, 2, 2, 2, 0, 0, 3, 0, 0, 0, 0, 0, 0, 3, 2, 0, 2, 2, 2, 2, 0, 1, 1, 3]]
def fc (ci k : Nat) : Nat := ((ftb[ci]?).getD []).getD k 9
def fn (ci : Nat) : Nat := ((ftb[ci]?).getD []).length
def fv (S : Hp) (a ci k : Nat) : Value := if fc ci k = 1 then .long (hJ S (100 * ci + k) a) else if fc ci k = 2 then va_rf (hR S (100 * ci + k) a) else .int (hI S (100 * ci + k) a)
def fvl (S : Hp) (a ci : Nat) : List Value := (List.range (fn ci)).map (fv S a ci)
theorem fvl_len (S : Hp) (a ci : Nat) : (fvl S a ci).length = fn ci := by simp [fvl]
theorem fvl_get (S : Hp) (a ci : Nat) {k : Nat} (h : k < fn ci) : (fvl S a ci)[k]? = some (fv S a ci k) := by simp [fvl, h]
def pf (cy : Nat → ClassId) (S : Hp) : Nat → va_E := fun a => if hK S a < 13 then .inr (hK S a, fvl S a (hK S a)) else if hK S a = 15 then .inl (cy 15, hN S a, .inr (.inl (aJ S a))) else if hK S a < 18 then .inl (cy (hK S a), hN S a, .inl (aI S a)) else .inl (cy (hK S a), hN S a, .inr (.inr (.inr (.inr (aR S a)))))
theorem pf_obj {cy : Nat → ClassId} {S : Hp} {a ci : Nat} (h : hK S a = ci) (hc : ci < 13) : pf cy S a = .inr (ci, fvl S a ci) := by simp [pf, h, hc]
theorem pf_J {cy : Nat → ClassId} {S : Hp} {a : Nat} (h : hK S a = 15) : pf cy S a = .inl (cy 15, hN S a, .inr (.inl (aJ S a))) := by simp [pf, h]
theorem pf_I {cy : Nat → ClassId} {S : Hp} {a k : Nat} (h : hK S a = k) (h1 : ¬ k < 13) (h2 : ¬ k = 15) (h3 : k < 18) : pf cy S a = .inl (cy k, hN S a, .inl (aI S a)) := by simp [pf, h, h1, h2, h3]
theorem pf_R {cy : Nat → ClassId} {S : Hp} {a k : Nat} (h : hK S a = k) (h3 : ¬ k < 18) : pf cy S a = .inl (cy k, hN S a, .inr (.inr (.inr (.inr (aR S a))))) := by
  have h1 : ¬ k < 13 := by omega
  have h2 : ¬ k = 15 := by omega
  simp [pf, h, h1, h2, h3]
abbrev pl (cy : Nat → ClassId) (S : Hp) : va_W := va_pl (hL S) (pf cy S)
theorem pl_get {cy : Nat → ClassId} {S : Hp} {a : Nat} (h : a ∈ hL S) : ∃ k : Nat, (pl cy S)[k]? = some (a, pf cy S a) := va_pl_get (X := []) h
theorem list_upd {α : Type} (n k : Nat) (f g : Nat → α) (v : α) (hk : k < n) (h1 : g k = v) (h2 : ∀ j, j < n → j ≠ k → g j = f j) : ((List.range n).map f).set k v = (List.range n).map g := by
  refine List.ext_getElem? fun j => ?_
  rw [List.getElem?_set]
  by_cases e : k = j
  · subst e
    simp [hk, h1]
  · rw [if_neg e]
    by_cases hj : j < n
    · simp [hj, h2 j hj (fun q => e q.symm)]
    · simp [hj]
/-- what is told of an address is all that its row says -/
theorem pf_off {cy : Nat → ClassId} {S S' : Hp} {b : Nat} (h1 : hK S' b = hK S b) (h2 : hN S' b = hN S b) (h3 : ∀ f, hI S' f b = hI S f b) (h4 : ∀ f, hJ S' f b = hJ S f b) (h5 : ∀ f, hR S' f b = hR S f b) (h6 : aI S' b = aI S b) (h7 : aJ S' b = aJ S b) (h8 : aR S' b = aR S b) : pf cy S b = pf cy S' b := by
  have hf : ∀ ci k, fv S' b ci k = fv S b ci k := fun ci k => by simp only [fv, h3, h4, h5]
  have hl : ∀ ci, fvl S' b ci = fvl S b ci := fun ci => List.map_congr_left fun k _ => hf ci k
  simp only [pf, h1, h2, h6, h7, h8, hl]
theorem pf_setI {cy : Nat → ClassId} {S : Hp} {a ci k : Nat} (h : hK S a = ci) (hc : ci < 13) (hk : k < fn ci) (ht1 : fc ci k ≠ 1) (ht2 : fc ci k ≠ 2) (v : Int32) (b : Nat) : va_up (pf cy S) a (.inr (ci, (fvl S a ci).set k (.int v))) b = pf cy (sI S (100 * ci + k) a v) b := by
  by_cases e : b = a
  · subst e
    rw [va_up_self, pf_obj (by exact h) hc]
    refine congrArg (fun l => (Sum.inr (ci, l) : va_E)) (list_upd _ _ _ _ _ hk ?_ fun j _ hj => ?_)
    · simp [fv, ht1, ht2, hI_sI]
    · have : ¬ (100 * ci + j = 100 * ci + k) := by omega
      simp [fv, hI_sI, hJ_sI, hR_sI, this, hj]
  · rw [va_up_ne _ _ e]
    exact pf_off rfl rfl (fun f => by simp [hI_sI, e]) (fun f => rfl) (fun f => rfl) rfl rfl rfl
theorem pf_setJ {cy : Nat → ClassId} {S : Hp} {a ci k : Nat} (h : hK S a = ci) (hc : ci < 13) (hk : k < fn ci) (ht1 : fc ci k = 1) (v : Int64) (b : Nat) : va_up (pf cy S) a (.inr (ci, (fvl S a ci).set k (.long v))) b = pf cy (sJ S (100 * ci + k) a v) b := by
  by_cases e : b = a
  · subst e
    rw [va_up_self, pf_obj (by exact h) hc]
    refine congrArg (fun l => (Sum.inr (ci, l) : va_E)) (list_upd _ _ _ _ _ hk ?_ fun j _ hj => ?_)
    · simp [fv, ht1, hJ_sJ]
    · have : ¬ (100 * ci + j = 100 * ci + k) := by omega
      simp [fv, hI_sJ, hJ_sJ, hR_sJ, this, hj]
  · rw [va_up_ne _ _ e]
    exact pf_off rfl rfl (fun f => rfl) (fun f => by simp [hJ_sJ, e]) (fun f => rfl) rfl rfl rfl
theorem pf_setR {cy : Nat → ClassId} {S : Hp} {a ci k : Nat} (h : hK S a = ci) (hc : ci < 13) (hk : k < fn ci) (ht1 : fc ci k = 2) (v : Option Nat) (b : Nat) : va_up (pf cy S) a (.inr (ci, (fvl S a ci).set k (va_rf v))) b = pf cy (sR S (100 * ci + k) a v) b := by
  by_cases e : b = a
  · subst e
    rw [va_up_self, pf_obj (by exact h) hc]
    refine congrArg (fun l => (Sum.inr (ci, l) : va_E)) (list_upd _ _ _ _ _ hk ?_ fun j _ hj => ?_)
    · simp [fv, ht1, hR_sR]
    · have : ¬ (100 * ci + j = 100 * ci + k) := by omega
      simp [fv, hI_sR, hJ_sR, hR_sR, this, hj]
  · rw [va_up_ne _ _ e]
    exact pf_off rfl rfl (fun f => rfl) (fun f => rfl) (fun f => by simp [hR_sR, e]) rfl rfl rfl
theorem pf_tI {cy : Nat → ClassId} {S : Hp} {a k : Nat} (h : hK S a = k) (h1 : ¬ k < 13) (h2 : ¬ k = 15) (h3 : k < 18) (j : Nat) (v : Int32) (b : Nat) : va_up (pf cy S) a (.inl (cy k, hN S a, .inl (upd (aI S a) j v))) b = pf cy (tI S a j v) b := by
  by_cases e : b = a
  · subst e
    rw [va_up_self, pf_I (by exact h) h1 h2 h3]
    refine congrArg (fun f => (Sum.inl (cy k, hN S b, Sum.inl f) : va_E)) (funext fun i => ?_)
    simp [aI_tI, upd]
  · rw [va_up_ne _ _ e]
    have : aI (tI S a j v) b = aI S b := funext fun i => by simp [aI_tI, e]
    exact pf_off rfl rfl (fun _ => rfl) (fun _ => rfl) (fun _ => rfl) this rfl rfl
theorem pf_rI {cy : Nat → ClassId} {S : Hp} {a k : Nat} (h : hK S a = k) (h1 : ¬ k < 13) (h2 : ¬ k = 15) (h3 : k < 18) (f : Nat → Int32) (b : Nat) : va_up (pf cy S) a (.inl (cy k, hN S a, .inl f)) b = pf cy (rI S a f) b := by
  by_cases e : b = a
  · subst e
    rw [va_up_self, pf_I (by exact h) h1 h2 h3]
    refine congrArg (fun f => (Sum.inl (cy k, hN S b, Sum.inl f) : va_E)) (funext fun i => ?_)
    simp [aI_rI]
  · rw [va_up_ne _ _ e]
    have : aI (rI S a f) b = aI S b := funext fun i => by simp [aI_rI, e]
    exact pf_off rfl rfl (fun _ => rfl) (fun _ => rfl) (fun _ => rfl) this rfl rfl
theorem pf_tJ {cy : Nat → ClassId} {S : Hp} {a : Nat} (h : hK S a = 15) (j : Nat) (v : Int64) (b : Nat) : va_up (pf cy S) a (.inl (cy 15, hN S a, .inr (.inl (vp_updL (aJ S a) j v)))) b = pf cy (tJ S a j v) b := by
  by_cases e : b = a
  · subst e
    rw [va_up_self, pf_J (by exact h)]
    refine congrArg (fun f => (Sum.inl (cy 15, hN S b, Sum.inr (Sum.inl f)) : va_E)) (funext fun i => ?_)
    simp [aJ_tJ, vp_updL]
  · rw [va_up_ne _ _ e]
    have : aJ (tJ S a j v) b = aJ S b := funext fun i => by simp [aJ_tJ, e]
    exact pf_off rfl rfl (fun _ => rfl) (fun _ => rfl) (fun _ => rfl) rfl this rfl
theorem pf_tR {cy : Nat → ClassId} {S : Hp} {a k : Nat} (h : hK S a = k) (h3 : ¬ k < 18) (j : Nat) (v : Option Nat) (b : Nat) : va_up (pf cy S) a (.inl (cy k, hN S a, .inr (.inr (.inr (.inr (va_up (aR S a) j v)))))) b = pf cy (tR S a j v) b := by
  by_cases e : b = a
  · subst e
    rw [va_up_self, pf_R (by exact h) h3]
    refine congrArg (fun f => (Sum.inl (cy k, hN S b, Sum.inr (Sum.inr (Sum.inr (Sum.inr f)))) : va_E)) (funext fun i => ?_)
    simp [aR_tR, va_up]
  · rw [va_up_ne _ _ e]
    have : aR (tR S a j v) b = aR S b := funext fun i => by simp [aR_tR, e]
    exact pf_off rfl rfl (fun _ => rfl) (fun _ => rfl) (fun _ => rfl) rfl rfl this
def dv (ci : Nat) : List Value := (List.range (fn ci)).map fun k => if fc ci k = 1 then .long 0 else if fc ci k = 2 then .null else .int 0
theorem pf_nO {cy : Nat → ClassId} {S : Hp} {a ci : Nat} (hc : ci < 13) (b : Nat) : va_up (pf cy S) a (.inr (ci, dv ci)) b = pf cy (nO S a ci) b := by
  by_cases e : b = a
  · subst e
    rw [va_up_self, pf_obj (ci := ci) (by simp [hK_nO]) hc]
    refine congrArg (fun l => (Sum.inr (ci, l) : va_E)) (List.map_congr_left fun k _ => ?_)
    simp only [fv, hI_nO, hJ_nO, hR_nO, if_true]
    by_cases q1 : fc ci k = 1 <;> by_cases q2 : fc ci k = 2 <;> simp [q1, q2, va_rf]
  · rw [va_up_ne _ _ e]
    exact pf_off (by simp [hK_nO, e]) rfl (fun f => by simp [hI_nO, e]) (fun f => by simp [hJ_nO, e]) (fun f => by simp [hR_nO, e]) rfl rfl rfl
theorem pf_nA_off {cy : Nat → ClassId} {S : Hp} {a k n b : Nat} (e : b ≠ a) : pf cy S b = pf cy (nA S a k n) b := by
  have h1 : aI (nA S a k n) b = aI S b := funext fun i => by simp [aI_nA, e]
  have h2 : aJ (nA S a k n) b = aJ S b := funext fun i => by simp [aJ_nA, e]
  have h3 : aR (nA S a k n) b = aR S b := funext fun i => by simp [aR_nA, e]
  exact pf_off (by simp [hK_nA, e]) (by simp [hN_nA, e]) (fun _ => rfl) (fun _ => rfl) (fun _ => rfl) h1 h2 h3
theorem pf_nAI {cy : Nat → ClassId} {S : Hp} {a k n : Nat} (h1 : ¬ k < 13) (h2 : ¬ k = 15) (h3 : k < 18) (b : Nat) : va_up (pf cy S) a (.inl (cy k, n, .inl (fun _ => 0))) b = pf cy (nA S a k n) b := by
  by_cases e : b = a
  · subst e
    rw [va_up_self, pf_I (k := k) (by simp [hK_nA]) h1 h2 h3]
    have : aI (nA S b k n) b = fun _ => 0 := funext fun i => by simp [aI_nA]
    simp [hN_nA, this]
  · rw [va_up_ne _ _ e, pf_nA_off e]
theorem pf_nAJ {cy : Nat → ClassId} {S : Hp} {a n : Nat} (b : Nat) : va_up (pf cy S) a (.inl (cy 15, n, .inr (.inl (fun _ => 0)))) b = pf cy (nA S a 15 n) b := by
  by_cases e : b = a
  · subst e
    rw [va_up_self, pf_J (by simp [hK_nA])]
    have : aJ (nA S b 15 n) b = fun _ => 0 := funext fun i => by simp [aJ_nA]
    simp [hN_nA, this]
  · rw [va_up_ne _ _ e, pf_nA_off e]
theorem pf_nAR {cy : Nat → ClassId} {S : Hp} {a k n : Nat} (h3 : ¬ k < 18) (b : Nat) : va_up (pf cy S) a (.inl (cy k, n, .inr (.inr (.inr (.inr (fun _ => none)))))) b = pf cy (nA S a k n) b := by
  by_cases e : b = a
  · subst e
    rw [va_up_self, pf_R (k := k) (by simp [hK_nA]) h3]
    have : aR (nA S b k n) b = fun _ => none := funext fun i => by simp [aR_nA]
    simp [hN_nA, this]
  · rw [va_up_ne _ _ e, pf_nA_off e]
/-- a cell of the pool is written -/
theorem pl_set {cy : Nat → ClassId} {S S' : Hp} {A : Nat → Prop} {a k : Nat} {e : va_E} (hD : va_D A (pl cy S)) (h : a ∈ hL S) (hk : (pl cy S)[k]? = some (a, pf cy S a)) (hL : hL S' = hL S) (hf : ∀ b, va_up (pf cy S) a e b = pf cy S' b) : (pl cy S).set k (a, e) = pl cy S' := by
  have h1 := va_pl_set (X := []) (e := e) hD h hk
  simp only [List.nil_append] at h1
  rw [h1, pl, hL]
  exact va_pl_congr hf
/-- a cell comes to the pool -/
theorem pl_push {cy : Nat → ClassId} {S S' : Hp} {a : Nat} {e : va_E} (h : a ∉ hL S) (hL : hL S' = hL S ++ [a]) (hf : ∀ b, va_up (pf cy S) a e b = pf cy S' b) : pl cy S ++ [(a, e)] = pl cy S' := by
  rw [pl, va_pl_push h, pl, hL]
  exact va_pl_congr hf
end
