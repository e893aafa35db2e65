-- ===== PART A: goes FIRST, ahead of the names: the tables' words, and 'selects' of the private methods out of them =====
/-- a private method of a class that the tables say can be made, by its rows of tables_1 -/
def lw_okq (q : MethodName × Nat) : Prop := (q.1.cls ≠ "java/lang/invoke/MethodHandle" ∧ q.1.cls ≠ "java/lang/invoke/VarHandle") ∧ Cond.instantiable q.1.cls q.2 ∈ tables_1 ∧ Cond.privateMethod q.1 ∈ tables_1 ∧ Cond.instanceMethod q.1 ∈ tables_1
theorem lw_p0 : lw_okq (⟨"Hashladder", "isSoundAlone", "(LHashladder$Table;)Z"⟩, 6) := ⟨⟨by decide +kernel, by decide +kernel⟩, List.mem_of_getElem? (i := 27) (by decide +kernel), List.mem_of_getElem? (i := 161) (by decide +kernel), List.mem_of_getElem? (i := 162) (by decide +kernel)⟩
theorem lw_p1 : lw_okq (⟨"Hashladder", "walkThrough", "(LHashladder$Table;I)V"⟩, 6) := ⟨⟨by decide +kernel, by decide +kernel⟩, List.mem_of_getElem? (i := 27) (by decide +kernel), List.mem_of_getElem? (i := 165) (by decide +kernel), List.mem_of_getElem? (i := 166) (by decide +kernel)⟩
theorem lw_p2 : lw_okq (⟨"java/lang/Throwable", "fillInStackTrace", "(I)Ljava/lang/Throwable;"⟩, 6) := ⟨⟨by decide +kernel, by decide +kernel⟩, List.mem_of_getElem? (i := 324) (by decide +kernel), List.mem_of_getElem? (i := 322) (by decide +kernel), List.mem_of_getElem? (i := 323) (by decide +kernel)⟩
theorem lw_p3 : lw_okq (⟨"Hashladder", "mixTable", "(JI)J"⟩, 6) := ⟨⟨by decide +kernel, by decide +kernel⟩, List.mem_of_getElem? (i := 27) (by decide +kernel), List.mem_of_getElem? (i := 364) (by decide +kernel), List.mem_of_getElem? (i := 365) (by decide +kernel)⟩
theorem lw_p4 : lw_okq (⟨"Hashladder", "tableAt", "(I)LHashladder$Table;"⟩, 6) := ⟨⟨by decide +kernel, by decide +kernel⟩, List.mem_of_getElem? (i := 27) (by decide +kernel), List.mem_of_getElem? (i := 372) (by decide +kernel), List.mem_of_getElem? (i := 373) (by decide +kernel)⟩
theorem lw_p5 : lw_okq (⟨"Hashladder", "writePage", "(LHashladder$Table;)V"⟩, 6) := ⟨⟨by decide +kernel, by decide +kernel⟩, List.mem_of_getElem? (i := 27) (by decide +kernel), List.mem_of_getElem? (i := 392) (by decide +kernel), List.mem_of_getElem? (i := 393) (by decide +kernel)⟩
theorem lw_p6 : lw_okq (⟨"Hashladder", "sumByWalk", "(LHashladder$Table;I)I"⟩, 6) := ⟨⟨by decide +kernel, by decide +kernel⟩, List.mem_of_getElem? (i := 27) (by decide +kernel), List.mem_of_getElem? (i := 724) (by decide +kernel), List.mem_of_getElem? (i := 725) (by decide +kernel)⟩
theorem lw_p7 : lw_okq (⟨"Hashladder", "mixTwo", "(JII)J"⟩, 6) := ⟨⟨by decide +kernel, by decide +kernel⟩, List.mem_of_getElem? (i := 27) (by decide +kernel), List.mem_of_getElem? (i := 748) (by decide +kernel), List.mem_of_getElem? (i := 749) (by decide +kernel)⟩
theorem lw_p8 : lw_okq (⟨"HashladderModel", "empty", "(I)V"⟩, 7) := ⟨⟨by decide +kernel, by decide +kernel⟩, List.mem_of_getElem? (i := 1149) (by decide +kernel), List.mem_of_getElem? (i := 1157) (by decide +kernel), List.mem_of_getElem? (i := 1158) (by decide +kernel)⟩
theorem lw_p9 : lw_okq (⟨"HashladderModel", "fails", "(ZZ)Z"⟩, 7) := ⟨⟨by decide +kernel, by decide +kernel⟩, List.mem_of_getElem? (i := 1149) (by decide +kernel), List.mem_of_getElem? (i := 1199) (by decide +kernel), List.mem_of_getElem? (i := 1200) (by decide +kernel)⟩
theorem lw_p10 : lw_okq (⟨"HashladderModel", "fails", "(ZZZ)Z"⟩, 7) := ⟨⟨by decide +kernel, by decide +kernel⟩, List.mem_of_getElem? (i := 1149) (by decide +kernel), List.mem_of_getElem? (i := 1203) (by decide +kernel), List.mem_of_getElem? (i := 1204) (by decide +kernel)⟩
theorem lw_p11 : lw_okq (⟨"HashladderModel", "tell", "(I)V"⟩, 7) := ⟨⟨by decide +kernel, by decide +kernel⟩, List.mem_of_getElem? (i := 1149) (by decide +kernel), List.mem_of_getElem? (i := 1207) (by decide +kernel), List.mem_of_getElem? (i := 1208) (by decide +kernel)⟩
theorem lw_p12 : lw_okq (⟨"HashladderModel", "set", "(III)I"⟩, 7) := ⟨⟨by decide +kernel, by decide +kernel⟩, List.mem_of_getElem? (i := 1149) (by decide +kernel), List.mem_of_getElem? (i := 1211) (by decide +kernel), List.mem_of_getElem? (i := 1212) (by decide +kernel)⟩
theorem lw_p13 : lw_okq (⟨"HashladderModel", "become", "(III)I"⟩, 7) := ⟨⟨by decide +kernel, by decide +kernel⟩, List.mem_of_getElem? (i := 1149) (by decide +kernel), List.mem_of_getElem? (i := 1245) (by decide +kernel), List.mem_of_getElem? (i := 1246) (by decide +kernel)⟩
theorem lw_p14 : lw_okq (⟨"HashladderModel", "sumOf", "(II)I"⟩, 7) := ⟨⟨by decide +kernel, by decide +kernel⟩, List.mem_of_getElem? (i := 1149) (by decide +kernel), List.mem_of_getElem? (i := 1267) (by decide +kernel), List.mem_of_getElem? (i := 1268) (by decide +kernel)⟩
theorem lw_p15 : lw_okq (⟨"HashladderModel", "many", "(I)I"⟩, 7) := ⟨⟨by decide +kernel, by decide +kernel⟩, List.mem_of_getElem? (i := 1149) (by decide +kernel), List.mem_of_getElem? (i := 1275) (by decide +kernel), List.mem_of_getElem? (i := 1276) (by decide +kernel)⟩
def lw_privs_1 : List (MethodName × Nat) := [(⟨"Hashladder", "isSoundAlone", "(LHashladder$Table;)Z"⟩, 6), (⟨"Hashladder", "walkThrough", "(LHashladder$Table;I)V"⟩, 6), (⟨"java/lang/Throwable", "fillInStackTrace", "(I)Ljava/lang/Throwable;"⟩, 6), (⟨"Hashladder", "mixTable", "(JI)J"⟩, 6), (⟨"Hashladder", "tableAt", "(I)LHashladder$Table;"⟩, 6), (⟨"Hashladder", "writePage", "(LHashladder$Table;)V"⟩, 6), (⟨"Hashladder", "sumByWalk", "(LHashladder$Table;I)I"⟩, 6), (⟨"Hashladder", "mixTwo", "(JII)J"⟩, 6), (⟨"HashladderModel", "empty", "(I)V"⟩, 7), (⟨"HashladderModel", "fails", "(ZZ)Z"⟩, 7), (⟨"HashladderModel", "fails", "(ZZZ)Z"⟩, 7), (⟨"HashladderModel", "tell", "(I)V"⟩, 7), (⟨"HashladderModel", "set", "(III)I"⟩, 7), (⟨"HashladderModel", "become", "(III)I"⟩, 7), (⟨"HashladderModel", "sumOf", "(II)I"⟩, 7), (⟨"HashladderModel", "many", "(I)I"⟩, 7)]
theorem lw_r1 : ∀ q ∈ lw_privs_1, lw_okq q := List.forall_mem_cons.mpr ⟨lw_p0, List.forall_mem_cons.mpr ⟨lw_p1, List.forall_mem_cons.mpr ⟨lw_p2, List.forall_mem_cons.mpr ⟨lw_p3, List.forall_mem_cons.mpr ⟨lw_p4, List.forall_mem_cons.mpr ⟨lw_p5, List.forall_mem_cons.mpr ⟨lw_p6, List.forall_mem_cons.mpr ⟨lw_p7, List.forall_mem_cons.mpr ⟨lw_p8, List.forall_mem_cons.mpr ⟨lw_p9, List.forall_mem_cons.mpr ⟨lw_p10, List.forall_mem_cons.mpr ⟨lw_p11, List.forall_mem_cons.mpr ⟨lw_p12, List.forall_mem_cons.mpr ⟨lw_p13, List.forall_mem_cons.mpr ⟨lw_p14, List.forall_mem_cons.mpr ⟨lw_p15, fun _ h => absurd h List.not_mem_nil⟩⟩⟩⟩⟩⟩⟩⟩⟩⟩⟩⟩⟩⟩⟩⟩
theorem lw_p16 : lw_okq (⟨"HashladderModel", "often", "(II)I"⟩, 7) := ⟨⟨by decide +kernel, by decide +kernel⟩, List.mem_of_getElem? (i := 1149) (by decide +kernel), List.mem_of_getElem? (i := 1306) (by decide +kernel), List.mem_of_getElem? (i := 1307) (by decide +kernel)⟩
theorem lw_p17 : lw_okq (⟨"HashladderModel", "without", "(II)I"⟩, 7) := ⟨⟨by decide +kernel, by decide +kernel⟩, List.mem_of_getElem? (i := 1149) (by decide +kernel), List.mem_of_getElem? (i := 1310) (by decide +kernel), List.mem_of_getElem? (i := 1311) (by decide +kernel)⟩
theorem lw_p18 : lw_okq (⟨"HashladderModel", "sorted", "(IIIZ)I"⟩, 7) := ⟨⟨by decide +kernel, by decide +kernel⟩, List.mem_of_getElem? (i := 1149) (by decide +kernel), List.mem_of_getElem? (i := 1322) (by decide +kernel), List.mem_of_getElem? (i := 1323) (by decide +kernel)⟩
theorem lw_p19 : lw_okq (⟨"HashladderModel", "hasPart", "(IIII)Z"⟩, 7) := ⟨⟨by decide +kernel, by decide +kernel⟩, List.mem_of_getElem? (i := 1149) (by decide +kernel), List.mem_of_getElem? (i := 1326) (by decide +kernel), List.mem_of_getElem? (i := 1327) (by decide +kernel)⟩
theorem lw_p20 : lw_okq (⟨"HashladderModel", "isWithin", "(III)Z"⟩, 7) := ⟨⟨by decide +kernel, by decide +kernel⟩, List.mem_of_getElem? (i := 1149) (by decide +kernel), List.mem_of_getElem? (i := 1358) (by decide +kernel), List.mem_of_getElem? (i := 1359) (by decide +kernel)⟩
theorem lw_p21 : lw_okq (⟨"HashladderModel", "areSame", "(II)Z"⟩, 7) := ⟨⟨by decide +kernel, by decide +kernel⟩, List.mem_of_getElem? (i := 1149) (by decide +kernel), List.mem_of_getElem? (i := 1381) (by decide +kernel), List.mem_of_getElem? (i := 1382) (by decide +kernel)⟩
theorem lw_p22 : lw_okq (⟨"HashladderModel", "textOf", "(ILjava/lang/String;)Ljava/lang/String;"⟩, 7) := ⟨⟨by decide +kernel, by decide +kernel⟩, List.mem_of_getElem? (i := 1149) (by decide +kernel), List.mem_of_getElem? (i := 1391) (by decide +kernel), List.mem_of_getElem? (i := 1392) (by decide +kernel)⟩
theorem lw_p23 : lw_okq (⟨"HashladderModel", "codeOf", "(I)I"⟩, 7) := ⟨⟨by decide +kernel, by decide +kernel⟩, List.mem_of_getElem? (i := 1149) (by decide +kernel), List.mem_of_getElem? (i := 1409) (by decide +kernel), List.mem_of_getElem? (i := 1410) (by decide +kernel)⟩
theorem lw_p24 : lw_okq (⟨"HashladderModel", "extremeOf", "(IZZ)I"⟩, 7) := ⟨⟨by decide +kernel, by decide +kernel⟩, List.mem_of_getElem? (i := 1149) (by decide +kernel), List.mem_of_getElem? (i := 1430) (by decide +kernel), List.mem_of_getElem? (i := 1431) (by decide +kernel)⟩
theorem lw_p25 : lw_okq (⟨"HashladderModel", "stepLeft", "(I)I"⟩, 7) := ⟨⟨by decide +kernel, by decide +kernel⟩, List.mem_of_getElem? (i := 1149) (by decide +kernel), List.mem_of_getElem? (i := 1454) (by decide +kernel), List.mem_of_getElem? (i := 1455) (by decide +kernel)⟩
theorem lw_p26 : lw_okq (⟨"HashladderModel", "walkedOver", "(I)I"⟩, 7) := ⟨⟨by decide +kernel, by decide +kernel⟩, List.mem_of_getElem? (i := 1149) (by decide +kernel), List.mem_of_getElem? (i := 1462) (by decide +kernel), List.mem_of_getElem? (i := 1463) (by decide +kernel)⟩
theorem lw_p27 : lw_okq (⟨"HashladderModel", "shown", "(I)I"⟩, 7) := ⟨⟨by decide +kernel, by decide +kernel⟩, List.mem_of_getElem? (i := 1149) (by decide +kernel), List.mem_of_getElem? (i := 1474) (by decide +kernel), List.mem_of_getElem? (i := 1475) (by decide +kernel)⟩
theorem lw_p28 : lw_okq (⟨"HashladderModel", "isNoView", "(I)Z"⟩, 7) := ⟨⟨by decide +kernel, by decide +kernel⟩, List.mem_of_getElem? (i := 1149) (by decide +kernel), List.mem_of_getElem? (i := 1482) (by decide +kernel), List.mem_of_getElem? (i := 1483) (by decide +kernel)⟩
theorem lw_p29 : lw_okq (⟨"HashladderModel", "shownOften", "(II)I"⟩, 7) := ⟨⟨by decide +kernel, by decide +kernel⟩, List.mem_of_getElem? (i := 1149) (by decide +kernel), List.mem_of_getElem? (i := 1486) (by decide +kernel), List.mem_of_getElem? (i := 1487) (by decide +kernel)⟩
theorem lw_p30 : lw_okq (⟨"HashladderModel", "houseOf", "(I)I"⟩, 7) := ⟨⟨by decide +kernel, by decide +kernel⟩, List.mem_of_getElem? (i := 1149) (by decide +kernel), List.mem_of_getElem? (i := 1502) (by decide +kernel), List.mem_of_getElem? (i := 1503) (by decide +kernel)⟩
theorem lw_p31 : lw_okq (⟨"HashladderModel", "isSoundNow", "()Z"⟩, 7) := ⟨⟨by decide +kernel, by decide +kernel⟩, List.mem_of_getElem? (i := 1149) (by decide +kernel), List.mem_of_getElem? (i := 1514) (by decide +kernel), List.mem_of_getElem? (i := 1515) (by decide +kernel)⟩
def lw_privs_2 : List (MethodName × Nat) := [(⟨"HashladderModel", "often", "(II)I"⟩, 7), (⟨"HashladderModel", "without", "(II)I"⟩, 7), (⟨"HashladderModel", "sorted", "(IIIZ)I"⟩, 7), (⟨"HashladderModel", "hasPart", "(IIII)Z"⟩, 7), (⟨"HashladderModel", "isWithin", "(III)Z"⟩, 7), (⟨"HashladderModel", "areSame", "(II)Z"⟩, 7), (⟨"HashladderModel", "textOf", "(ILjava/lang/String;)Ljava/lang/String;"⟩, 7), (⟨"HashladderModel", "codeOf", "(I)I"⟩, 7), (⟨"HashladderModel", "extremeOf", "(IZZ)I"⟩, 7), (⟨"HashladderModel", "stepLeft", "(I)I"⟩, 7), (⟨"HashladderModel", "walkedOver", "(I)I"⟩, 7), (⟨"HashladderModel", "shown", "(I)I"⟩, 7), (⟨"HashladderModel", "isNoView", "(I)Z"⟩, 7), (⟨"HashladderModel", "shownOften", "(II)I"⟩, 7), (⟨"HashladderModel", "houseOf", "(I)I"⟩, 7), (⟨"HashladderModel", "isSoundNow", "()Z"⟩, 7)]
theorem lw_r2 : ∀ q ∈ lw_privs_2, lw_okq q := List.forall_mem_cons.mpr ⟨lw_p16, List.forall_mem_cons.mpr ⟨lw_p17, List.forall_mem_cons.mpr ⟨lw_p18, List.forall_mem_cons.mpr ⟨lw_p19, List.forall_mem_cons.mpr ⟨lw_p20, List.forall_mem_cons.mpr ⟨lw_p21, List.forall_mem_cons.mpr ⟨lw_p22, List.forall_mem_cons.mpr ⟨lw_p23, List.forall_mem_cons.mpr ⟨lw_p24, List.forall_mem_cons.mpr ⟨lw_p25, List.forall_mem_cons.mpr ⟨lw_p26, List.forall_mem_cons.mpr ⟨lw_p27, List.forall_mem_cons.mpr ⟨lw_p28, List.forall_mem_cons.mpr ⟨lw_p29, List.forall_mem_cons.mpr ⟨lw_p30, List.forall_mem_cons.mpr ⟨lw_p31, fun _ h => absurd h List.not_mem_nil⟩⟩⟩⟩⟩⟩⟩⟩⟩⟩⟩⟩⟩⟩⟩⟩
def lw_privs_0 : List (MethodName × Nat) := [(⟨"Hashladder", "isSoundAlone", "(LHashladder$Table;)Z"⟩, 6), (⟨"Hashladder", "walkThrough", "(LHashladder$Table;I)V"⟩, 6), (⟨"java/lang/Throwable", "fillInStackTrace", "(I)Ljava/lang/Throwable;"⟩, 6), (⟨"Hashladder", "mixTable", "(JI)J"⟩, 6), (⟨"Hashladder", "tableAt", "(I)LHashladder$Table;"⟩, 6), (⟨"Hashladder", "writePage", "(LHashladder$Table;)V"⟩, 6)]
theorem lw_r0 : ∀ q ∈ lw_privs_0, lw_okq q := List.forall_mem_cons.mpr ⟨lw_p0, List.forall_mem_cons.mpr ⟨lw_p1, List.forall_mem_cons.mpr ⟨lw_p2, List.forall_mem_cons.mpr ⟨lw_p3, List.forall_mem_cons.mpr ⟨lw_p4, List.forall_mem_cons.mpr ⟨lw_p5, fun _ h => absurd h List.not_mem_nil⟩⟩⟩⟩⟩⟩
def lw_privs : List (MethodName × Nat) := lw_privs_0 ++ (lw_privs_1 ++ (lw_privs_2))
def lw_tbl : List Cond := k2_sels lw_privs ++ tables_1
theorem lw_privs_ok : ∀ q ∈ lw_privs, lw_okq q := by
  show ∀ q ∈ lw_privs_0 ++ (lw_privs_1 ++ (lw_privs_2)), lw_okq q
  exact List.forall_mem_append.mpr ⟨lw_r0, List.forall_mem_append.mpr ⟨lw_r1, lw_r2⟩⟩
abbrev cX0_fillFrom : ByteArray := prog_2_method_2_code
def yX0_fillFrom : MethodName := ⟨RX0, "fillFrom", "(LHashladder$Table;)V"⟩
abbrev cX0_isToldBy : ByteArray := prog_2_method_3_code
def yX0_isToldBy : MethodName := ⟨RX0, "isToldBy", "(LHashladder$Table;)Z"⟩
abbrev cX1_pairs : ByteArray := prog_3_method_2_code
def yX1_pairs : MethodName := ⟨RX1, "pairs", "()I"⟩
abbrev cX1_timesOf : ByteArray := prog_3_method_4_code
def yX1_timesOf : MethodName := ⟨RX1, "timesOf", "(I)I"⟩
abbrev cX1_becomeNew : ByteArray := prog_3_method_6_code
def yX1_becomeNew : MethodName := ⟨RX1, "becomeNew", "()I"⟩
abbrev cX1_settle : ByteArray := prog_3_method_8_code
def yX1_settle : MethodName := ⟨RX1, "settle", "(II)I"⟩
abbrev cX1_liftAll : ByteArray := prog_3_method_10_code
def yX1_liftAll : MethodName := ⟨RX1, "liftAll", "()I"⟩
abbrev cX1_liftWorth : ByteArray := prog_3_method_11_code
def yX1_liftWorth : MethodName := ⟨RX1, "liftWorth", "(I)I"⟩
abbrev cX1_liftHeld : ByteArray := prog_3_method_12_code
def yX1_liftHeld : MethodName := ⟨RX1, "liftHeld", "(LHashladder$Table;IZ)I"⟩
abbrev cX1_liftMultiples : ByteArray := prog_3_method_13_code
def yX1_liftMultiples : MethodName := ⟨RX1, "liftMultiples", "(II)I"⟩
abbrev cX1_layAll : ByteArray := prog_3_method_14_code
def yX1_layAll : MethodName := ⟨RX1, "layAll", "(LHashladder$Table;)V"⟩
abbrev cX1_reckonAnew : ByteArray := prog_3_method_15_code
def yX1_reckonAnew : MethodName := ⟨RX1, "reckonAnew", "(III)V"⟩
abbrev cX1_holds : ByteArray := prog_3_method_16_code
def yX1_holds : MethodName := ⟨RX1, "holds", "(III)Z"⟩
abbrev cX1_holdsAll : ByteArray := prog_3_method_17_code
def yX1_holdsAll : MethodName := ⟨RX1, "holdsAll", "(LHashladder$Table;I)Z"⟩
abbrev cX1_isLike : ByteArray := prog_3_method_18_code
def yX1_isLike : MethodName := ⟨RX1, "isLike", "(LHashladder$Table;)Z"⟩
abbrev cX1_sumOf : ByteArray := prog_3_method_19_code
def yX1_sumOf : MethodName := ⟨RX1, "sumOf", "(I)I"⟩
abbrev cX1_outermost : ByteArray := prog_3_method_20_code
def yX1_outermost : MethodName := ⟨RX1, "outermost", "(ZI)I"⟩
abbrev cX1_reckonCode : ByteArray := prog_3_method_21_code
def yX1_reckonCode : MethodName := ⟨RX1, "reckonCode", "()I"⟩
abbrev cX1_writeTo : ByteArray := prog_3_method_24_code
def yX1_writeTo : MethodName := ⟨RX1, "writeTo", "(Ljava/lang/StringBuilder;)V"⟩
abbrev cX1_writeNumber : ByteArray := prog_3_method_25_code
def yX1_writeNumber : MethodName := ⟨RX1, "writeNumber", "(Ljava/lang/StringBuilder;I)V"⟩
abbrev cX2_begin : ByteArray := prog_4_method_2_code
def yX2_begin : MethodName := ⟨RX2, "begin", "(I)V"⟩
abbrev cX2_isThere : ByteArray := prog_4_method_4_code
def yX2_isThere : MethodName := ⟨RX2, "isThere", "()Z"⟩
abbrev cX2_done : ByteArray := prog_4_method_5_code
def yX2_done : MethodName := ⟨RX2, "done", "()I"⟩
abbrev cX2_total : ByteArray := prog_4_method_6_code
def yX2_total : MethodName := ⟨RX2, "total", "()I"⟩
abbrev cX2_goOn : ByteArray := prog_4_method_7_code
def yX2_goOn : MethodName := ⟨RX2, "goOn", "(LHashladder$Table;)Z"⟩
abbrev cX3_putNew : ByteArray := prog_1_method_3_code
def yX3_putNew : MethodName := ⟨RX3, "putNew", "(III)I"⟩
abbrev cX3_remove : ByteArray := prog_1_method_4_code
def yX3_remove : MethodName := ⟨RX3, "remove", "(II)I"⟩
abbrev cX3_removePair : ByteArray := prog_1_method_5_code
def yX3_removePair : MethodName := ⟨RX3, "removePair", "(III)Z"⟩
abbrev cX3_change : ByteArray := prog_1_method_6_code
def yX3_change : MethodName := ⟨RX3, "change", "(III)I"⟩
abbrev cX3_changeFrom : ByteArray := prog_1_method_7_code
def yX3_changeFrom : MethodName := ⟨RX3, "changeFrom", "(IIII)Z"⟩
abbrev cX3_make : ByteArray := prog_1_method_8_code
def yX3_make : MethodName := ⟨RX3, "make", "(III)I"⟩
abbrev cX3_grow : ByteArray := prog_1_method_9_code
def yX3_grow : MethodName := ⟨RX3, "grow", "(III)I"⟩
abbrev cX3_turn : ByteArray := prog_1_method_10_code
def yX3_turn : MethodName := ⟨RX3, "turn", "(III)I"⟩
abbrev cX3_join : ByteArray := prog_1_method_11_code
def yX3_join : MethodName := ⟨RX3, "join", "(IIII)I"⟩
abbrev cX3_changeAll : ByteArray := prog_1_method_12_code
def yX3_changeAll : MethodName := ⟨RX3, "changeAll", "(III)I"⟩
abbrev cX3_raise : ByteArray := prog_1_method_13_code
def yX3_raise : MethodName := ⟨RX3, "raise", "(II)I"⟩
abbrev cX3_clear : ByteArray := prog_1_method_14_code
def yX3_clear : MethodName := ⟨RX3, "clear", "(II)I"⟩
abbrev cX3_copy : ByteArray := prog_1_method_15_code
def yX3_copy : MethodName := ⟨RX3, "copy", "(II)I"⟩
abbrev cX3_renew : ByteArray := prog_1_method_16_code
def yX3_renew : MethodName := ⟨RX3, "renew", "(II)I"⟩
abbrev cX3_putAll : ByteArray := prog_1_method_17_code
def yX3_putAll : MethodName := ⟨RX3, "putAll", "(II)I"⟩
abbrev cX3_takeName : ByteArray := prog_1_method_18_code
def yX3_takeName : MethodName := ⟨RX3, "takeName", "(II)Z"⟩
abbrev cX3_takeWorth : ByteArray := prog_1_method_19_code
def yX3_takeWorth : MethodName := ⟨RX3, "takeWorth", "(II)I"⟩
abbrev cX3_takeWorths : ByteArray := prog_1_method_20_code
def yX3_takeWorths : MethodName := ⟨RX3, "takeWorths", "(II)I"⟩
abbrev cX3_takeOf : ByteArray := prog_1_method_21_code
def yX3_takeOf : MethodName := ⟨RX3, "takeOf", "(III)I"⟩
abbrev cX3_keepOf : ByteArray := prog_1_method_22_code
def yX3_keepOf : MethodName := ⟨RX3, "keepOf", "(III)I"⟩
abbrev cX3_sift : ByteArray := prog_1_method_23_code
def yX3_sift : MethodName := ⟨RX3, "sift", "(III)I"⟩
abbrev cX3_get : ByteArray := prog_1_method_24_code
def yX3_get : MethodName := ⟨RX3, "get", "(II)I"⟩
abbrev cX3_getOr : ByteArray := prog_1_method_25_code
def yX3_getOr : MethodName := ⟨RX3, "getOr", "(III)I"⟩
abbrev cX3_has : ByteArray := prog_1_method_26_code
def yX3_has : MethodName := ⟨RX3, "has", "(III)Z"⟩
abbrev cX3_hasWorth : ByteArray := prog_1_method_27_code
def yX3_hasWorth : MethodName := ⟨RX3, "hasWorth", "(III)Z"⟩
abbrev cX3_within : ByteArray := prog_1_method_28_code
def yX3_within : MethodName := ⟨RX3, "within", "(III)Z"⟩
abbrev cX3_size : ByteArray := prog_1_method_29_code
def yX3_size : MethodName := ⟨RX3, "size", "(I)I"⟩
abbrev cX3_isEmpty : ByteArray := prog_1_method_30_code
def yX3_isEmpty : MethodName := ⟨RX3, "isEmpty", "(I)Z"⟩
abbrev cX3_sum : ByteArray := prog_1_method_31_code
def yX3_sum : MethodName := ⟨RX3, "sum", "(II)I"⟩
abbrev cX3_isSame : ByteArray := prog_1_method_32_code
def yX3_isSame : MethodName := ⟨RX3, "isSame", "(II)Z"⟩
abbrev cX3_text : ByteArray := prog_1_method_33_code
def yX3_text : MethodName := ⟨RX3, "text", "(I)Ljava/lang/String;"⟩
abbrev cX3_code : ByteArray := prog_1_method_34_code
def yX3_code : MethodName := ⟨RX3, "code", "(I)I"⟩
abbrev cX3_count : ByteArray := prog_1_method_36_code
def yX3_count : MethodName := ⟨RX3, "count", "(II)I"⟩
abbrev cX3_extreme : ByteArray := prog_1_method_37_code
def yX3_extreme : MethodName := ⟨RX3, "extreme", "(IZZ)I"⟩
abbrev cX3_book : ByteArray := prog_1_method_38_code
def yX3_book : MethodName := ⟨RX3, "book", "(IIII)I"⟩
abbrev cX3_nothing : ByteArray := prog_1_method_39_code
def yX3_nothing : MethodName := ⟨RX3, "nothing", "(II)I"⟩
abbrev cX3_walk : ByteArray := prog_1_method_40_code
def yX3_walk : MethodName := ⟨RX3, "walk", "(II)I"⟩
abbrev cX3_step : ByteArray := prog_1_method_41_code
def yX3_step : MethodName := ⟨RX3, "step", "(I)I"⟩
abbrev cX3_hasStep : ByteArray := prog_1_method_42_code
def yX3_hasStep : MethodName := ⟨RX3, "hasStep", "(I)I"⟩
abbrev cX3_walked : ByteArray := prog_1_method_43_code
def yX3_walked : MethodName := ⟨RX3, "walked", "(I)I"⟩
abbrev cX3_hold : ByteArray := prog_1_method_44_code
def yX3_hold : MethodName := ⟨RX3, "hold", "(II)I"⟩
abbrev cX3_viewSize : ByteArray := prog_1_method_45_code
def yX3_viewSize : MethodName := ⟨RX3, "viewSize", "(I)I"⟩
abbrev cX3_viewHas : ByteArray := prog_1_method_46_code
def yX3_viewHas : MethodName := ⟨RX3, "viewHas", "(II)Z"⟩
abbrev cX3_viewTake : ByteArray := prog_1_method_47_code
def yX3_viewTake : MethodName := ⟨RX3, "viewTake", "(II)I"⟩
abbrev cX3_viewSum : ByteArray := prog_1_method_48_code
def yX3_viewSum : MethodName := ⟨RX3, "viewSum", "(I)I"⟩
abbrev cX3_house : ByteArray := prog_1_method_49_code
def yX3_house : MethodName := ⟨RX3, "house", "(I)I"⟩
abbrev cX3_knock : ByteArray := prog_1_method_50_code
def yX3_knock : MethodName := ⟨RX3, "knock", "()I"⟩
abbrev cX3_isSound : ByteArray := prog_1_method_51_code
def yX3_isSound : MethodName := ⟨RX3, "isSound", "()Z"⟩
abbrev cX3_digest : ByteArray := prog_1_method_52_code
def yX3_digest : MethodName := ⟨RX3, "digest", "()J"⟩
abbrev cX3_needBy : ByteArray := prog_1_method_57_code
def yX3_needBy : MethodName := ⟨RX3, "needBy", "(I)V"⟩
abbrev cX3_needTwo : ByteArray := prog_1_method_58_code
def yX3_needTwo : MethodName := ⟨RX3, "needTwo", "(II)V"⟩
abbrev cX3_needView : ByteArray := prog_1_method_59_code
def yX3_needView : MethodName := ⟨RX3, "needView", "(LHashladder$Table;)V"⟩
abbrev cX3_joined : ByteArray := prog_1_method_60_code
def yX3_joined : MethodName := ⟨RX3, "joined", "(III)I"⟩
abbrev cX3_takeOnly : ByteArray := prog_1_method_61_code
def yX3_takeOnly : MethodName := ⟨RX3, "takeOnly", "(LHashladder$Table;I)I"⟩
abbrev cX3_numberOf : ByteArray := prog_1_method_62_code
def yX3_numberOf : MethodName := ⟨RX3, "numberOf", "(III)I"⟩
abbrev cX3_walkThrough : ByteArray := prog_1_method_63_code
def yX3_walkThrough : MethodName := ⟨RX3, "walkThrough", "(LHashladder$Table;I)V"⟩
abbrev cX3_sumByWalk : ByteArray := prog_1_method_64_code
def yX3_sumByWalk : MethodName := ⟨RX3, "sumByWalk", "(LHashladder$Table;I)I"⟩
abbrev cX3_writePage : ByteArray := prog_1_method_65_code
def yX3_writePage : MethodName := ⟨RX3, "writePage", "(LHashladder$Table;)V"⟩
abbrev cX3_shareInHouse : ByteArray := prog_1_method_66_code
def yX3_shareInHouse : MethodName := ⟨RX3, "shareInHouse", "(LHashladder$Table;I)I"⟩
abbrev cX3_isSoundAlone : ByteArray := prog_1_method_67_code
def yX3_isSoundAlone : MethodName := ⟨RX3, "isSoundAlone", "(LHashladder$Table;)Z"⟩
abbrev cX3_isSoundWith : ByteArray := prog_1_method_68_code
def yX3_isSoundWith : MethodName := ⟨RX3, "isSoundWith", "(LHashladder$Table;LHashladder$Table;)Z"⟩
abbrev cX3_mix : ByteArray := prog_1_method_69_code
def yX3_mix : MethodName := ⟨RX3, "mix", "(JJ)J"⟩
abbrev cX3_mixTable : ByteArray := prog_1_method_70_code
def yX3_mixTable : MethodName := ⟨RX3, "mixTable", "(JI)J"⟩
abbrev cX3_mixTwo : ByteArray := prog_1_method_71_code
def yX3_mixTwo : MethodName := ⟨RX3, "mixTwo", "(JII)J"⟩
abbrev cX5_bit : ByteArray := prog_7_method_6_code
def yX5_bit : MethodName := ⟨RX5, "bit", "(Z)I"⟩
abbrev cX5_many : ByteArray := prog_7_method_11_code
def yX5_many : MethodName := ⟨RX5, "many", "(I)I"⟩
abbrev cX5_putNew : ByteArray := prog_7_method_15_code
def yX5_putNew : MethodName := ⟨RX5, "putNew", "(III)I"⟩
abbrev cX5_remove : ByteArray := prog_7_method_16_code
def yX5_remove : MethodName := ⟨RX5, "remove", "(II)I"⟩
abbrev cX5_removePair : ByteArray := prog_7_method_17_code
def yX5_removePair : MethodName := ⟨RX5, "removePair", "(III)Z"⟩
abbrev cX5_change : ByteArray := prog_7_method_18_code
def yX5_change : MethodName := ⟨RX5, "change", "(III)I"⟩
abbrev cX5_changeFrom : ByteArray := prog_7_method_19_code
def yX5_changeFrom : MethodName := ⟨RX5, "changeFrom", "(IIII)Z"⟩
abbrev cX5_isNoStep : ByteArray := prog_7_method_20_code
def yX5_isNoStep : MethodName := ⟨RX5, "isNoStep", "(I)Z"⟩
abbrev cX5_within : ByteArray := prog_7_method_21_code
def yX5_within : MethodName := ⟨RX5, "within", "(I)I"⟩
abbrev cX5_become : ByteArray := prog_7_method_22_code
def yX5_become : MethodName := ⟨RX5, "become", "(III)I"⟩
abbrev cX5_make : ByteArray := prog_7_method_23_code
def yX5_make : MethodName := ⟨RX5, "make", "(III)I"⟩
abbrev cX5_grow : ByteArray := prog_7_method_24_code
def yX5_grow : MethodName := ⟨RX5, "grow", "(III)I"⟩
abbrev cX5_turn : ByteArray := prog_7_method_25_code
def yX5_turn : MethodName := ⟨RX5, "turn", "(III)I"⟩
abbrev cX5_join : ByteArray := prog_7_method_26_code
def yX5_join : MethodName := ⟨RX5, "join", "(IIII)I"⟩
abbrev cX5_changeAll : ByteArray := prog_7_method_27_code
def yX5_changeAll : MethodName := ⟨RX5, "changeAll", "(III)I"⟩
abbrev cX5_raise : ByteArray := prog_7_method_28_code
def yX5_raise : MethodName := ⟨RX5, "raise", "(II)I"⟩
abbrev cX5_clear : ByteArray := prog_7_method_29_code
def yX5_clear : MethodName := ⟨RX5, "clear", "(II)I"⟩
abbrev cX5_copy : ByteArray := prog_7_method_30_code
def yX5_copy : MethodName := ⟨RX5, "copy", "(II)I"⟩
abbrev cX5_renew : ByteArray := prog_7_method_31_code
def yX5_renew : MethodName := ⟨RX5, "renew", "(II)I"⟩
abbrev cX5_putAll : ByteArray := prog_7_method_32_code
def yX5_putAll : MethodName := ⟨RX5, "putAll", "(II)I"⟩
abbrev cX5_takeName : ByteArray := prog_7_method_33_code
def yX5_takeName : MethodName := ⟨RX5, "takeName", "(II)Z"⟩
abbrev cX5_often : ByteArray := prog_7_method_34_code
def yX5_often : MethodName := ⟨RX5, "often", "(II)I"⟩
abbrev cX5_without : ByteArray := prog_7_method_35_code
def yX5_without : MethodName := ⟨RX5, "without", "(II)I"⟩
abbrev cX5_takeWorth : ByteArray := prog_7_method_36_code
def yX5_takeWorth : MethodName := ⟨RX5, "takeWorth", "(II)I"⟩
abbrev cX5_takeWorths : ByteArray := prog_7_method_37_code
def yX5_takeWorths : MethodName := ⟨RX5, "takeWorths", "(II)I"⟩
abbrev cX5_hasPart : ByteArray := prog_7_method_38_code
def yX5_hasPart : MethodName := ⟨RX5, "hasPart", "(IIII)Z"⟩
abbrev cX5_sorted : ByteArray := prog_7_method_39_code
def yX5_sorted : MethodName := ⟨RX5, "sorted", "(IIIZ)I"⟩
abbrev cX5_takeOf : ByteArray := prog_7_method_40_code
def yX5_takeOf : MethodName := ⟨RX5, "takeOf", "(III)I"⟩
abbrev cX5_keepOf : ByteArray := prog_7_method_41_code
def yX5_keepOf : MethodName := ⟨RX5, "keepOf", "(III)I"⟩
abbrev cX5_sift : ByteArray := prog_7_method_42_code
def yX5_sift : MethodName := ⟨RX5, "sift", "(III)I"⟩
abbrev cX5_get : ByteArray := prog_7_method_43_code
def yX5_get : MethodName := ⟨RX5, "get", "(II)I"⟩
abbrev cX5_getOr : ByteArray := prog_7_method_44_code
def yX5_getOr : MethodName := ⟨RX5, "getOr", "(III)I"⟩
abbrev cX5_has : ByteArray := prog_7_method_45_code
def yX5_has : MethodName := ⟨RX5, "has", "(III)Z"⟩
abbrev cX5_hasWorth : ByteArray := prog_7_method_46_code
def yX5_hasWorth : MethodName := ⟨RX5, "hasWorth", "(III)Z"⟩
abbrev cX5_isWithin : ByteArray := prog_7_method_47_code
def yX5_isWithin : MethodName := ⟨RX5, "isWithin", "(III)Z"⟩
abbrev cX5_within_ : ByteArray := prog_7_method_48_code
def yX5_within_ : MethodName := ⟨RX5, "within", "(III)Z"⟩
abbrev cX5_size : ByteArray := prog_7_method_49_code
def yX5_size : MethodName := ⟨RX5, "size", "(I)I"⟩
abbrev cX5_isEmpty : ByteArray := prog_7_method_50_code
def yX5_isEmpty : MethodName := ⟨RX5, "isEmpty", "(I)Z"⟩
abbrev cX5_sumOf : ByteArray := prog_7_method_51_code
def yX5_sumOf : MethodName := ⟨RX5, "sumOf", "(II)I"⟩
abbrev cX5_kind : ByteArray := prog_7_method_52_code
def yX5_kind : MethodName := ⟨RX5, "kind", "(I)I"⟩
abbrev cX5_sum : ByteArray := prog_7_method_53_code
def yX5_sum : MethodName := ⟨RX5, "sum", "(II)I"⟩
abbrev cX5_areSame : ByteArray := prog_7_method_54_code
def yX5_areSame : MethodName := ⟨RX5, "areSame", "(II)Z"⟩
abbrev cX5_isSame : ByteArray := prog_7_method_55_code
def yX5_isSame : MethodName := ⟨RX5, "isSame", "(II)Z"⟩
abbrev cX5_text : ByteArray := prog_7_method_57_code
def yX5_text : MethodName := ⟨RX5, "text", "(I)Ljava/lang/String;"⟩
abbrev cX5_laid : ByteArray := prog_7_method_58_code
def yX5_laid : MethodName := ⟨RX5, "laid", "(II)I"⟩
abbrev cX5_codeOf : ByteArray := prog_7_method_59_code
def yX5_codeOf : MethodName := ⟨RX5, "codeOf", "(I)I"⟩
abbrev cX5_code : ByteArray := prog_7_method_60_code
def yX5_code : MethodName := ⟨RX5, "code", "(I)I"⟩
abbrev cX5_count : ByteArray := prog_7_method_62_code
def yX5_count : MethodName := ⟨RX5, "count", "(II)I"⟩
abbrev cX5_extremeOf : ByteArray := prog_7_method_63_code
def yX5_extremeOf : MethodName := ⟨RX5, "extremeOf", "(IZZ)I"⟩
abbrev cX5_extreme : ByteArray := prog_7_method_64_code
def yX5_extreme : MethodName := ⟨RX5, "extreme", "(IZZ)I"⟩
abbrev cX5_book : ByteArray := prog_7_method_65_code
def yX5_book : MethodName := ⟨RX5, "book", "(IIII)I"⟩
abbrev cX5_nothing : ByteArray := prog_7_method_66_code
def yX5_nothing : MethodName := ⟨RX5, "nothing", "(II)I"⟩
abbrev cX5_walk : ByteArray := prog_7_method_67_code
def yX5_walk : MethodName := ⟨RX5, "walk", "(II)I"⟩
abbrev cX5_step : ByteArray := prog_7_method_68_code
def yX5_step : MethodName := ⟨RX5, "step", "(I)I"⟩
abbrev cX5_stepLeft : ByteArray := prog_7_method_69_code
def yX5_stepLeft : MethodName := ⟨RX5, "stepLeft", "(I)I"⟩
abbrev cX5_hasStep : ByteArray := prog_7_method_70_code
def yX5_hasStep : MethodName := ⟨RX5, "hasStep", "(I)I"⟩
abbrev cX5_walkedOver : ByteArray := prog_7_method_71_code
def yX5_walkedOver : MethodName := ⟨RX5, "walkedOver", "(I)I"⟩
abbrev cX5_walked : ByteArray := prog_7_method_72_code
def yX5_walked : MethodName := ⟨RX5, "walked", "(I)I"⟩
abbrev cX5_hold : ByteArray := prog_7_method_73_code
def yX5_hold : MethodName := ⟨RX5, "hold", "(II)I"⟩
abbrev cX5_shown : ByteArray := prog_7_method_74_code
def yX5_shown : MethodName := ⟨RX5, "shown", "(I)I"⟩
abbrev cX5_viewSize : ByteArray := prog_7_method_75_code
def yX5_viewSize : MethodName := ⟨RX5, "viewSize", "(I)I"⟩
abbrev cX5_isNoView : ByteArray := prog_7_method_76_code
def yX5_isNoView : MethodName := ⟨RX5, "isNoView", "(I)Z"⟩
abbrev cX5_shownOften : ByteArray := prog_7_method_77_code
def yX5_shownOften : MethodName := ⟨RX5, "shownOften", "(II)I"⟩
abbrev cX5_viewHas : ByteArray := prog_7_method_78_code
def yX5_viewHas : MethodName := ⟨RX5, "viewHas", "(II)Z"⟩
abbrev cX5_viewTake : ByteArray := prog_7_method_79_code
def yX5_viewTake : MethodName := ⟨RX5, "viewTake", "(II)I"⟩
abbrev cX5_viewSum : ByteArray := prog_7_method_80_code
def yX5_viewSum : MethodName := ⟨RX5, "viewSum", "(I)I"⟩
abbrev cX5_houseOf : ByteArray := prog_7_method_81_code
def yX5_houseOf : MethodName := ⟨RX5, "houseOf", "(I)I"⟩
abbrev cX5_house : ByteArray := prog_7_method_82_code
def yX5_house : MethodName := ⟨RX5, "house", "(I)I"⟩
abbrev cX5_knock : ByteArray := prog_7_method_83_code
def yX5_knock : MethodName := ⟨RX5, "knock", "()I"⟩
abbrev cX5_isSoundNow : ByteArray := prog_7_method_84_code
def yX5_isSoundNow : MethodName := ⟨RX5, "isSoundNow", "()Z"⟩
abbrev cX5_isSound : ByteArray := prog_7_method_85_code
def yX5_isSound : MethodName := ⟨RX5, "isSound", "()Z"⟩
abbrev cX5_add : ByteArray := prog_7_method_86_code
def yX5_add : MethodName := ⟨RX5, "add", "(JJ)J"⟩
abbrev cX5_digest : ByteArray := prog_7_method_87_code
def yX5_digest : MethodName := ⟨RX5, "digest", "()J"⟩
abbrev cJ5_setLength_d00df : ByteArray := prog_8_method_13_code
def yJ5_setLength_d00df : MethodName := ⟨RJ5, "setLength", "(I)V"⟩
abbrev cJ5_charAt_5068e : ByteArray := prog_8_method_14_code
def yJ5_charAt_5068e : MethodName := ⟨RJ5, "charAt", "(I)C"⟩
abbrev cJ5_append_3fe6f : ByteArray := prog_8_method_31_code
def yJ5_append_3fe6f : MethodName := ⟨RJ5, "append", "(C)Ljava/lang/AbstractStringBuilder;"⟩
abbrev wsJx000600 : List Cond := u_ws RJx00060 TJx00060 6
abbrev cJ0_charAt_5068e : ByteArray := prog_18_method_56_code
def yJ0_charAt_5068e : MethodName := ⟨RJ0, "charAt", "(I)C"⟩
abbrev cJ0_isLatin1_aae02 : ByteArray := prog_18_method_154_code
def yJ0_isLatin1_aae02 : MethodName := ⟨RJ0, "isLatin1", "()Z"⟩
abbrev cJ0_checkIndex_df160 : ByteArray := prog_18_method_155_code
def yJ0_checkIndex_df160 : MethodName := ⟨RJ0, "checkIndex", "(II)V"⟩
abbrev cJ4_append_cf468 : ByteArray := prog_19_method_14_code
def yJ4_append_cf468 : MethodName := ⟨RJ4, "append", "(C)Ljava/lang/StringBuilder;"⟩
abbrev cJ4_charAt_5068e : ByteArray := prog_19_method_88_code
def yJ4_charAt_5068e : MethodName := ⟨RJ4, "charAt", "(I)C"⟩
abbrev cJ4_setLength_d00df : ByteArray := prog_19_method_89_code
def yJ4_setLength_d00df : MethodName := ⟨RJ4, "setLength", "(I)V"⟩
abbrev wsJx7c7330 : List Cond := u_ws RJx7c733 TJx7c733 6
abbrev cJ1_charAt_3b067 : ByteArray := prog_21_method_2_code
def yJ1_charAt_3b067 : MethodName := ⟨RJ1, "charAt", "([BI)C"⟩
abbrev cJ1_canEncode_fc78d : ByteArray := prog_21_method_3_code
def yJ1_canEncode_fc78d : MethodName := ⟨RJ1, "canEncode", "(C)Z"⟩
abbrev cJ1_fillNull_b72d1 : ByteArray := prog_21_method_48_code
def yJ1_fillNull_b72d1 : MethodName := ⟨RJ1, "fillNull", "([BII)V"⟩
abbrev cJ2_fillNull_b72d1 : ByteArray := prog_22_method_70_code
def yJ2_fillNull_b72d1 : MethodName := ⟨RJ2, "fillNull", "([BII)V"⟩
abbrev cJ2_putCharSB_b72d1 : ByteArray := prog_22_method_71_code
def yJ2_putCharSB_b72d1 : MethodName := ⟨RJ2, "putCharSB", "([BII)V"⟩
abbrev cJ2_charAt_3b067 : ByteArray := prog_22_method_83_code
def yJ2_charAt_3b067 : MethodName := ⟨RJ2, "charAt", "([BI)C"⟩
abbrev cJ2_checkIndex_2214a : ByteArray := prog_22_method_91_code
def yJ2_checkIndex_2214a : MethodName := ⟨RJ2, "checkIndex", "(I[B)V"⟩
abbrev cJ7_rangeCheck_23922 : ByteArray := prog_25_method_30_code
def yJ7_rangeCheck_23922 : MethodName := ⟨RJ7, "rangeCheck", "(III)V"⟩
abbrev cJ7_fill_eb02e : ByteArray := prog_25_method_110_code
def yJ7_fill_eb02e : MethodName := ⟨RJ7, "fill", "([BIIB)V"⟩
abbrev cJ3_checkIndex_8e157 : ByteArray := prog_27_method_11_code
def yJ3_checkIndex_8e157 : MethodName := ⟨RJ3, "checkIndex", "(IILjava/util/function/BiFunction;)I"⟩
def RL : String := "HashladderLaw"
abbrev cL_put : ByteArray := method_2_code
def yL_put : MethodName := ⟨RL, "put", "(LHashladder;IIILHashladderLaw$Out;)I"⟩
abbrev cL_putNew : ByteArray := method_3_code
def yL_putNew : MethodName := ⟨RL, "putNew", "(LHashladder;IIILHashladderLaw$Out;)I"⟩
abbrev cL_remove : ByteArray := method_4_code
def yL_remove : MethodName := ⟨RL, "remove", "(LHashladder;IILHashladderLaw$Out;)I"⟩
abbrev cL_removePair : ByteArray := method_5_code
def yL_removePair : MethodName := ⟨RL, "removePair", "(LHashladder;IIILHashladderLaw$Out;)I"⟩
abbrev cL_change : ByteArray := method_6_code
def yL_change : MethodName := ⟨RL, "change", "(LHashladder;IIILHashladderLaw$Out;)I"⟩
abbrev cL_changeFrom : ByteArray := method_7_code
def yL_changeFrom : MethodName := ⟨RL, "changeFrom", "(LHashladder;IIIILHashladderLaw$Out;)I"⟩
abbrev cL_make : ByteArray := method_8_code
def yL_make : MethodName := ⟨RL, "make", "(LHashladder;IIILHashladderLaw$Out;)I"⟩
abbrev cL_grow : ByteArray := method_9_code
def yL_grow : MethodName := ⟨RL, "grow", "(LHashladder;IIILHashladderLaw$Out;)I"⟩
abbrev cL_turn : ByteArray := method_10_code
def yL_turn : MethodName := ⟨RL, "turn", "(LHashladder;IIILHashladderLaw$Out;)I"⟩
abbrev cL_join : ByteArray := method_11_code
def yL_join : MethodName := ⟨RL, "join", "(LHashladder;IIIILHashladderLaw$Out;)I"⟩
abbrev cL_changeAll : ByteArray := method_12_code
def yL_changeAll : MethodName := ⟨RL, "changeAll", "(LHashladder;IIILHashladderLaw$Out;)I"⟩
abbrev cL_raise : ByteArray := method_13_code
def yL_raise : MethodName := ⟨RL, "raise", "(LHashladder;IILHashladderLaw$Out;)I"⟩
abbrev cL_clear : ByteArray := method_14_code
def yL_clear : MethodName := ⟨RL, "clear", "(LHashladder;IILHashladderLaw$Out;)I"⟩
abbrev cL_copy : ByteArray := method_15_code
def yL_copy : MethodName := ⟨RL, "copy", "(LHashladder;IILHashladderLaw$Out;)I"⟩
abbrev cL_renew : ByteArray := method_16_code
def yL_renew : MethodName := ⟨RL, "renew", "(LHashladder;IILHashladderLaw$Out;)I"⟩
abbrev cL_putAll : ByteArray := method_17_code
def yL_putAll : MethodName := ⟨RL, "putAll", "(LHashladder;IILHashladderLaw$Out;)I"⟩
abbrev cL_takeName : ByteArray := method_18_code
def yL_takeName : MethodName := ⟨RL, "takeName", "(LHashladder;IILHashladderLaw$Out;)I"⟩
abbrev cL_takeWorth : ByteArray := method_19_code
def yL_takeWorth : MethodName := ⟨RL, "takeWorth", "(LHashladder;IILHashladderLaw$Out;)I"⟩
abbrev cL_takeWorths : ByteArray := method_20_code
def yL_takeWorths : MethodName := ⟨RL, "takeWorths", "(LHashladder;IILHashladderLaw$Out;)I"⟩
abbrev cL_takeOf : ByteArray := method_21_code
def yL_takeOf : MethodName := ⟨RL, "takeOf", "(LHashladder;IIILHashladderLaw$Out;)I"⟩
abbrev cL_keepOf : ByteArray := method_22_code
def yL_keepOf : MethodName := ⟨RL, "keepOf", "(LHashladder;IIILHashladderLaw$Out;)I"⟩
abbrev cL_sift : ByteArray := method_23_code
def yL_sift : MethodName := ⟨RL, "sift", "(LHashladder;IIILHashladderLaw$Out;)I"⟩
abbrev cL_get : ByteArray := method_24_code
def yL_get : MethodName := ⟨RL, "get", "(LHashladder;IILHashladderLaw$Out;)I"⟩
abbrev cL_getOr : ByteArray := method_25_code
def yL_getOr : MethodName := ⟨RL, "getOr", "(LHashladder;IIILHashladderLaw$Out;)I"⟩
abbrev cL_has : ByteArray := method_26_code
def yL_has : MethodName := ⟨RL, "has", "(LHashladder;IIILHashladderLaw$Out;)I"⟩
abbrev cL_hasWorth : ByteArray := method_27_code
def yL_hasWorth : MethodName := ⟨RL, "hasWorth", "(LHashladder;IIILHashladderLaw$Out;)I"⟩
abbrev cL_within : ByteArray := method_28_code
def yL_within : MethodName := ⟨RL, "within", "(LHashladder;IIILHashladderLaw$Out;)I"⟩
abbrev cL_size : ByteArray := method_29_code
def yL_size : MethodName := ⟨RL, "size", "(LHashladder;ILHashladderLaw$Out;)I"⟩
abbrev cL_isEmpty : ByteArray := method_30_code
def yL_isEmpty : MethodName := ⟨RL, "isEmpty", "(LHashladder;ILHashladderLaw$Out;)I"⟩
abbrev cL_sum : ByteArray := method_31_code
def yL_sum : MethodName := ⟨RL, "sum", "(LHashladder;IILHashladderLaw$Out;)I"⟩
abbrev cL_isSame : ByteArray := method_32_code
def yL_isSame : MethodName := ⟨RL, "isSame", "(LHashladder;IILHashladderLaw$Out;)I"⟩
abbrev cL_text : ByteArray := method_33_code
def yL_text : MethodName := ⟨RL, "text", "(LHashladder;ILHashladderLaw$Out;)I"⟩
abbrev cL_code : ByteArray := method_34_code
def yL_code : MethodName := ⟨RL, "code", "(LHashladder;ILHashladderLaw$Out;)I"⟩
abbrev cL_width : ByteArray := method_35_code
def yL_width : MethodName := ⟨RL, "width", "(LHashladder;ILHashladderLaw$Out;)I"⟩
abbrev cL_count : ByteArray := method_36_code
def yL_count : MethodName := ⟨RL, "count", "(LHashladder;IILHashladderLaw$Out;)I"⟩
abbrev cL_extreme : ByteArray := method_37_code
def yL_extreme : MethodName := ⟨RL, "extreme", "(LHashladder;IZZLHashladderLaw$Out;)I"⟩
abbrev cL_book : ByteArray := method_38_code
def yL_book : MethodName := ⟨RL, "book", "(LHashladder;IIIILHashladderLaw$Out;)I"⟩
abbrev cL_nothing : ByteArray := method_39_code
def yL_nothing : MethodName := ⟨RL, "nothing", "(LHashladder;IILHashladderLaw$Out;)I"⟩
abbrev cL_walk : ByteArray := method_40_code
def yL_walk : MethodName := ⟨RL, "walk", "(LHashladder;IILHashladderLaw$Out;)I"⟩
abbrev cL_step : ByteArray := method_41_code
def yL_step : MethodName := ⟨RL, "step", "(LHashladder;ILHashladderLaw$Out;)I"⟩
abbrev cL_hasStep : ByteArray := method_42_code
def yL_hasStep : MethodName := ⟨RL, "hasStep", "(LHashladder;ILHashladderLaw$Out;)I"⟩
abbrev cL_walked : ByteArray := method_43_code
def yL_walked : MethodName := ⟨RL, "walked", "(LHashladder;ILHashladderLaw$Out;)I"⟩
abbrev cL_hold : ByteArray := method_44_code
def yL_hold : MethodName := ⟨RL, "hold", "(LHashladder;IILHashladderLaw$Out;)I"⟩
abbrev cL_viewSize : ByteArray := method_45_code
def yL_viewSize : MethodName := ⟨RL, "viewSize", "(LHashladder;ILHashladderLaw$Out;)I"⟩
abbrev cL_viewHas : ByteArray := method_46_code
def yL_viewHas : MethodName := ⟨RL, "viewHas", "(LHashladder;IILHashladderLaw$Out;)I"⟩
abbrev cL_viewTake : ByteArray := method_47_code
def yL_viewTake : MethodName := ⟨RL, "viewTake", "(LHashladder;IILHashladderLaw$Out;)I"⟩
abbrev cL_viewSum : ByteArray := method_48_code
def yL_viewSum : MethodName := ⟨RL, "viewSum", "(LHashladder;ILHashladderLaw$Out;)I"⟩
abbrev cL_house : ByteArray := method_49_code
def yL_house : MethodName := ⟨RL, "house", "(LHashladder;ILHashladderLaw$Out;)I"⟩
abbrev cL_law : ByteArray := code
def yL_law : MethodName := ⟨RL, "law", "([I)Z"⟩
def wsL_put_r1 : List Cond := [Cond.classLink RL 19 "java/lang/IndexOutOfBoundsException", Cond.classLink RL 21 "java/lang/IllegalArgumentException", Cond.methodLink RL 7 yX3_put, Cond.instanceMethod yX3_put, Cond.selects RX3 yX3_put yX3_put, Cond.initialized RX3, Cond.code yX3_put cX3_put 5 (some .int), Cond.methodLink RX3 41 yX3_tableAt, Cond.instanceMethod yX3_tableAt, Cond.selects RX3 yX3_tableAt yX3_tableAt, Cond.code yX3_tableAt cX3_tableAt 2 (some (.object "Hashladder$Table")), Cond.classLink RX3 223 "java/lang/IndexOutOfBoundsException", Cond.initialized "java/lang/IndexOutOfBoundsException", Cond.fieldLink RX3 11 "Hashladder" "tables" "[LHashladder$Table;", Cond.methodLink RX3 45 yX3_needName, Cond.static yX3_needName, Cond.code yX3_needName cX3_needName 1 none, Cond.methodLink RX3 72 yX3_needIn, Cond.static yX3_needIn, Cond.code yX3_needIn cX3_needIn 3 none, Cond.classLink RX3 104 "java/lang/IllegalArgumentException", Cond.initialized "java/lang/IllegalArgumentException", Cond.methodLink RX3 49 yX3_needWorth, Cond.static yX3_needWorth]
def wsL_put_r2 : List Cond := [Cond.code yX3_needWorth cX3_needWorth 1 none, Cond.methodLink RX3 52 yX1_tell, Cond.instanceMethod yX1_tell, Cond.selects RX1 yX1_tell yX1_tell, Cond.initialized RX1, Cond.code yX1_tell cX1_tell 1 none, Cond.fieldLink RX1 21 "Hashladder$Table" "walk" "LHashladder$Walk;", Cond.methodLink RX1 32 yX2_end, Cond.instanceMethod yX2_end, Cond.selects RX2 yX2_end yX2_end, Cond.initialized RX2, Cond.code yX2_end cX2_end 1 none, Cond.fieldLink RX2 9 "Hashladder$Walk" "isThere" "Z", Cond.methodLink RX3 55 yX1_lay, Cond.instanceMethod yX1_lay, Cond.selects RX1 yX1_lay yX1_lay, Cond.code yX1_lay cX1_lay 4 (some .int), Cond.fieldLink RX1 9 "Hashladder$Table" "worthOf" "[I", Cond.fieldLink RX1 15 "Hashladder$Table" "times" "[I", Cond.fieldLink RX1 29 "Hashladder$Table" "pairs" "I", Cond.methodLink RX1 42 yX1_lift, Cond.instanceMethod yX1_lift, Cond.selects RX1 yX1_lift yX1_lift, Cond.code yX1_lift cX1_lift 3 (some .int)]
def wsL_put_r3 : List Cond := [Cond.methodLink RX1 50 yX1_worthAt, Cond.instanceMethod yX1_worthAt, Cond.selects RX1 yX1_worthAt yX1_worthAt, Cond.code yX1_worthAt cX1_worthAt 2 (some .int)]
def wsL_put : List Cond := .codeWith yL_put cL_put 6 (some .int) [(0, 13, 16, 19), (0, 13, 20, 21)] :: ((wsL_put_r1 ++ (wsL_put_r2 ++ wsL_put_r3)) ++ wsX40 ++ wsX30 ++ wsX10 ++ wsX20 ++ (vx_atS RX3 227 "java/lang/IndexOutOfBoundsException" ["java/lang/RuntimeException", "java/lang/Exception"]).filter goodWord ++ (vx_atS RX3 108 "java/lang/IllegalArgumentException" ["java/lang/RuntimeException", "java/lang/Exception"]).filter goodWord ++ (vx_atM "java/lang/ArrayIndexOutOfBoundsException" ["java/lang/IndexOutOfBoundsException", "java/lang/RuntimeException", "java/lang/Exception"]).filter goodWord)
def wsL_width_r1 : List Cond := [Cond.classLink RL 19 "java/lang/IndexOutOfBoundsException", Cond.methodLink RL 131 yX3_width, Cond.instanceMethod yX3_width, Cond.selects RX3 yX3_width yX3_width, Cond.initialized RX3, Cond.code yX3_width cX3_width 2 (some .int), Cond.methodLink RX3 41 yX3_tableAt, Cond.instanceMethod yX3_tableAt, Cond.selects RX3 yX3_tableAt yX3_tableAt, Cond.code yX3_tableAt cX3_tableAt 2 (some (.object "Hashladder$Table")), Cond.classLink RX3 223 "java/lang/IndexOutOfBoundsException", Cond.initialized "java/lang/IndexOutOfBoundsException", Cond.fieldLink RX3 11 "Hashladder" "tables" "[LHashladder$Table;", Cond.methodLink RX3 149 yX1_reckonWidth, Cond.instanceMethod yX1_reckonWidth, Cond.selects RX1 yX1_reckonWidth yX1_reckonWidth, Cond.initialized RX1, Cond.code yX1_reckonWidth cX1_reckonWidth 4 (some .int), Cond.fieldLink RX1 29 "Hashladder$Table" "pairs" "I", Cond.methodLink RX1 50 yX1_worthAt, Cond.instanceMethod yX1_worthAt, Cond.selects RX1 yX1_worthAt yX1_worthAt, Cond.code yX1_worthAt cX1_worthAt 2 (some .int), Cond.fieldLink RX1 9 "Hashladder$Table" "worthOf" "[I"]
def wsL_width_r2 : List Cond := [Cond.methodLink RX1 68 yX1_signsOf, Cond.static yX1_signsOf, Cond.code yX1_signsOf cX1_signsOf 1 (some .int)]
def wsL_width : List Cond := .codeWith yL_width cL_width 4 (some .int) [(0, 10, 13, 19)] :: ((wsL_width_r1 ++ wsL_width_r2) ++ wsX40 ++ wsX30 ++ wsX10 ++ (vx_atS RX3 227 "java/lang/IndexOutOfBoundsException" ["java/lang/RuntimeException", "java/lang/Exception"]).filter goodWord ++ (vx_atM "java/lang/ArrayIndexOutOfBoundsException" ["java/lang/IndexOutOfBoundsException", "java/lang/RuntimeException", "java/lang/Exception"]).filter goodWord)
def wsL_law0_r1 : List Cond := [Cond.classLink RL 8 RX3, Cond.instantiable RX3 6, Cond.initialized RX3, Cond.classLink RL 180 RX5, Cond.instantiable RX5 7, Cond.initialized RX5, Cond.classLink RL 14 RX4, Cond.instantiable RX4 2, Cond.initialized RX4, Cond.methodLink RL 179 yX3_init, Cond.instanceMethod yX3_init, Cond.code yX3_init cX3_init 2 none, Cond.methodLink RX3 1 objectInit, Cond.instanceMethod objectInit, Cond.code objectInit ⟨#[0xb1]⟩ 1 none, Cond.classLink RX3 9 RX1, Cond.fieldLink RX3 11 "Hashladder" "tables" "[LHashladder$Table;", Cond.instantiable RX1 5, Cond.initialized RX1, Cond.fieldLink RX3 16 "Hashladder" "spare" "LHashladder$Table;", Cond.classLink RX3 20 RX0, Cond.instantiable RX0 3, Cond.initialized RX0, Cond.fieldLink RX3 23 "Hashladder" "row" "LHashladder$PairRow;"]
def wsL_law0_r2 : List Cond := [Cond.classLink RX3 27 RX2, Cond.instantiable RX2 5, Cond.initialized RX2, Cond.fieldLink RX3 30 "Hashladder" "probe" "LHashladder$Walk;", Cond.classLink RX3 34 RJ4, Cond.instantiable RJ4 4, Cond.initialized RJ4, Cond.fieldLink RX3 37 "Hashladder" "page" "Ljava/lang/StringBuilder;", Cond.methodLink RX3 15 yX1_init, Cond.instanceMethod yX1_init, Cond.code yX1_init cX1_init 2 none, Cond.methodLink RX1 3 objectInit, Cond.arrayClass .int, Cond.fieldLink RX1 9 "Hashladder$Table" "worthOf" "[I", Cond.fieldLink RX1 15 "Hashladder$Table" "times" "[I", Cond.classLink RX1 18 RX2, Cond.fieldLink RX1 21 "Hashladder$Table" "walk" "LHashladder$Walk;", Cond.fieldLink RX1 25 "Hashladder$Table" "view" "I", Cond.instanceMethod yX2_init, Cond.code yX2_init cX2_init 1 none, Cond.methodLink RX2 3 objectInit, Cond.methodLink RX3 22 yX0_init, Cond.instanceMethod yX0_init, Cond.code yX0_init cX0_init 1 none]
def wsL_law0_r3 : List Cond := [Cond.methodLink RX0 3 objectInit, Cond.fieldLink RX0 9 "Hashladder$PairRow" "names" "[I", Cond.fieldLink RX0 15 "Hashladder$PairRow" "worths" "[I", Cond.methodLink RX3 36 yJ4_init_da8c8, Cond.instanceMethod yJ4_init_da8c8, Cond.code yJ4_init_da8c8 cJ4_init_da8c8 1 none, Cond.methodLink RJ4 1 yJ5_init_d00df, Cond.instanceMethod yJ5_init_d00df, Cond.initialized RJ5, Cond.code yJ5_init_d00df cJ5_init_d00df 2 none, Cond.methodLink RJ5 3 objectInit, Cond.fieldLink RJ5 18 "java/lang/String" "COMPACT_STRINGS" "Z", Cond.arrayClass .byte, Cond.fieldLink RJ5 15 "java/lang/AbstractStringBuilder" "value" "[B", Cond.fieldLink RJ5 22 "java/lang/AbstractStringBuilder" "coder" "B", Cond.methodLink RJ5 26 yJ2_newBytesFor_77867, Cond.static yJ2_newBytesFor_77867, Cond.initialized RJ2, Cond.code yJ2_newBytesFor_77867 cJ2_newBytesFor_77867 1 (some (.array .byte)), Cond.methodLink RJ2 11 yJ2_newBytesLength_0f7a4, Cond.static yJ2_newBytesLength_0f7a4, Cond.code yJ2_newBytesLength_0f7a4 cJ2_newBytesLength_0f7a4 1 (some .int), Cond.constant RJ2 20 (1073741823), Cond.methodLink RL 182 yX5_init]
def wsL_law0_r4 : List Cond := [Cond.instanceMethod yX5_init, Cond.code yX5_init cX5_init 2 none, Cond.methodLink RX5 1 objectInit, Cond.classLink RX5 9 "[[I", Cond.fieldLink RX5 11 "HashladderModel" "rows" "[[I", Cond.fieldLink RX5 14 "HashladderModel" "done" "[I", Cond.fieldLink RX5 18 "HashladderModel" "steps" "[I", Cond.fieldLink RX5 21 "HashladderModel" "sums" "[I", Cond.fieldLink RX5 24 "HashladderModel" "views" "[I", Cond.methodLink RX5 27 yX5_empty, Cond.instanceMethod yX5_empty, Cond.selects RX5 yX5_empty yX5_empty, Cond.code yX5_empty cX5_empty 3 none, Cond.instanceMethod yX4_init, Cond.code yX4_init cX4_init 1 none, Cond.methodLink RX4 1 objectInit, Cond.methodLink RL 184 yL_put, Cond.static yL_put, Cond.initialized RL, Cond.codeWith yL_put cL_put 6 (some .int) [(0, 13, 16, 19), (0, 13, 20, 21)], Cond.classLink RL 19 "java/lang/IndexOutOfBoundsException", Cond.classLink RL 21 "java/lang/IllegalArgumentException", Cond.methodLink RL 7 yX3_put, Cond.instanceMethod yX3_put]
def wsL_law0_r5 : List Cond := [Cond.selects RX3 yX3_put yX3_put, Cond.code yX3_put cX3_put 5 (some .int), Cond.methodLink RX3 41 yX3_tableAt, Cond.instanceMethod yX3_tableAt, Cond.selects RX3 yX3_tableAt yX3_tableAt, Cond.code yX3_tableAt cX3_tableAt 2 (some (.object "Hashladder$Table")), Cond.classLink RX3 223 "java/lang/IndexOutOfBoundsException", Cond.initialized "java/lang/IndexOutOfBoundsException", Cond.methodLink RX3 45 yX3_needName, Cond.static yX3_needName, Cond.code yX3_needName cX3_needName 1 none, Cond.methodLink RX3 72 yX3_needIn, Cond.static yX3_needIn, Cond.code yX3_needIn cX3_needIn 3 none, Cond.classLink RX3 104 "java/lang/IllegalArgumentException", Cond.initialized "java/lang/IllegalArgumentException", Cond.methodLink RX3 49 yX3_needWorth, Cond.static yX3_needWorth, Cond.code yX3_needWorth cX3_needWorth 1 none, Cond.methodLink RX3 52 yX1_tell, Cond.instanceMethod yX1_tell, Cond.selects RX1 yX1_tell yX1_tell, Cond.code yX1_tell cX1_tell 1 none, Cond.methodLink RX1 32 yX2_end]
def wsL_law0_r6 : List Cond := [Cond.instanceMethod yX2_end, Cond.selects RX2 yX2_end yX2_end, Cond.code yX2_end cX2_end 1 none, Cond.fieldLink RX2 9 "Hashladder$Walk" "isThere" "Z", Cond.methodLink RX3 55 yX1_lay, Cond.instanceMethod yX1_lay, Cond.selects RX1 yX1_lay yX1_lay, Cond.code yX1_lay cX1_lay 4 (some .int), Cond.fieldLink RX1 29 "Hashladder$Table" "pairs" "I", Cond.methodLink RX1 42 yX1_lift, Cond.instanceMethod yX1_lift, Cond.selects RX1 yX1_lift yX1_lift, Cond.code yX1_lift cX1_lift 3 (some .int), Cond.methodLink RX1 50 yX1_worthAt, Cond.instanceMethod yX1_worthAt, Cond.selects RX1 yX1_worthAt yX1_worthAt, Cond.code yX1_worthAt cX1_worthAt 2 (some .int), Cond.methodLink RL 189 yX5_put, Cond.instanceMethod yX5_put, Cond.selects RX5 yX5_put yX5_put, Cond.code yX5_put cX5_put 4 (some .int), Cond.methodLink RX5 47 yX5_isNo, Cond.static yX5_isNo, Cond.code yX5_isNo cX5_isNo 1 (some .boolean)]
def wsL_law0_r7 : List Cond := [Cond.methodLink RX5 39 yX5_isIn, Cond.static yX5_isIn, Cond.code yX5_isIn cX5_isIn 3 (some .boolean), Cond.methodLink RX5 51 yX5_isNoName, Cond.static yX5_isNoName, Cond.code yX5_isNoName cX5_isNoName 1 (some .boolean), Cond.methodLink RX5 54 yX5_isNoWorth, Cond.static yX5_isNoWorth, Cond.code yX5_isNoWorth cX5_isNoWorth 1 (some .boolean), Cond.methodLink RX5 57 yX5_fails_, Cond.instanceMethod yX5_fails_, Cond.selects RX5 yX5_fails_ yX5_fails_, Cond.code yX5_fails_ cX5_fails_ 3 (some .boolean), Cond.methodLink RX5 35 yX5_fails, Cond.instanceMethod yX5_fails, Cond.selects RX5 yX5_fails yX5_fails, Cond.code yX5_fails cX5_fails 4 (some .boolean), Cond.fieldLink RX5 31 "HashladderModel" "thrown" "I", Cond.methodLink RX5 60 yX5_tell, Cond.instanceMethod yX5_tell, Cond.selects RX5 yX5_tell yX5_tell, Cond.code yX5_tell cX5_tell 2 none, Cond.methodLink RX5 63 yX5_set, Cond.instanceMethod yX5_set]
def wsL_law0_r8 : List Cond := [Cond.selects RX5 yX5_set yX5_set, Cond.code yX5_set cX5_set 5 (some .int), Cond.methodLink RL 190 yL_putNew, Cond.static yL_putNew, Cond.codeWith yL_putNew cL_putNew 6 (some .int) [(0, 13, 16, 19), (0, 13, 20, 21)], Cond.methodLink RL 23 yX3_putNew, Cond.instanceMethod yX3_putNew, Cond.selects RX3 yX3_putNew yX3_putNew, Cond.code yX3_putNew cX3_putNew 6 (some .int), Cond.methodLink RX3 59 yX1_worthAt, Cond.methodLink RL 192 yX5_putNew, Cond.instanceMethod yX5_putNew, Cond.selects RX5 yX5_putNew yX5_putNew, Cond.code yX5_putNew cX5_putNew 4 (some .int), Cond.methodLink RL 193 yL_remove, Cond.static yL_remove, Cond.codeWith yL_remove cL_remove 5 (some .int) [(0, 11, 14, 19), (0, 11, 18, 21)], Cond.methodLink RL 26 yX3_remove, Cond.instanceMethod yX3_remove, Cond.selects RX3 yX3_remove yX3_remove, Cond.code yX3_remove cX3_remove 4 (some .int), Cond.methodLink RX3 63 yX1_lift, Cond.methodLink RL 196 yX5_remove, Cond.instanceMethod yX5_remove]
def wsL_law0_r9 : List Cond := [Cond.selects RX5 yX5_remove yX5_remove, Cond.code yX5_remove cX5_remove 3 (some .int), Cond.methodLink RL 197 yL_removePair, Cond.static yL_removePair, Cond.codeWith yL_removePair cL_removePair 6 (some .int) [(0, 20, 23, 19), (0, 20, 27, 21)], Cond.methodLink RL 30 yX3_removePair, Cond.instanceMethod yX3_removePair, Cond.selects RX3 yX3_removePair yX3_removePair, Cond.code yX3_removePair cX3_removePair 6 (some .boolean), Cond.methodLink RL 199 yX5_removePair, Cond.instanceMethod yX5_removePair, Cond.selects RX5 yX5_removePair yX5_removePair, Cond.code yX5_removePair cX5_removePair 4 (some .boolean), Cond.methodLink RL 200 yL_change, Cond.static yL_change, Cond.codeWith yL_change cL_change 6 (some .int) [(0, 13, 16, 19), (0, 13, 20, 21)], Cond.methodLink RL 34 yX3_change, Cond.instanceMethod yX3_change, Cond.selects RX3 yX3_change yX3_change, Cond.code yX3_change cX3_change 6 (some .int), Cond.methodLink RL 202 yX5_change, Cond.instanceMethod yX5_change, Cond.selects RX5 yX5_change yX5_change, Cond.code yX5_change cX5_change 4 (some .int)]
def wsL_law0_r10 : List Cond := [Cond.methodLink RL 203 yL_changeFrom, Cond.static yL_changeFrom, Cond.codeWith yL_changeFrom cL_changeFrom 7 (some .int) [(0, 22, 25, 19), (0, 22, 29, 21)], Cond.methodLink RL 37 yX3_changeFrom, Cond.instanceMethod yX3_changeFrom, Cond.selects RX3 yX3_changeFrom yX3_changeFrom, Cond.code yX3_changeFrom cX3_changeFrom 7 (some .boolean), Cond.methodLink RL 206 yX5_changeFrom, Cond.instanceMethod yX5_changeFrom, Cond.selects RX5 yX5_changeFrom yX5_changeFrom, Cond.code yX5_changeFrom cX5_changeFrom 5 (some .boolean), Cond.methodLink RL 207 yL_make, Cond.static yL_make, Cond.codeWith yL_make cL_make 6 (some .int) [(0, 13, 16, 19), (0, 13, 20, 21)], Cond.methodLink RL 41 yX3_make, Cond.instanceMethod yX3_make, Cond.selects RX3 yX3_make yX3_make, Cond.code yX3_make cX3_make 6 (some .int), Cond.methodLink RX3 66 yX3_needBy, Cond.static yX3_needBy, Cond.code yX3_needBy cX3_needBy 1 none, Cond.methodLink RX3 69 yX1_settle, Cond.instanceMethod yX1_settle, Cond.selects RX1 yX1_settle yX1_settle]
def wsL_law0_r11 : List Cond := [Cond.code yX1_settle cX1_settle 3 (some .int), Cond.methodLink RX1 46 yX1_lay, Cond.methodLink RL 209 yX5_make, Cond.instanceMethod yX5_make, Cond.selects RX5 yX5_make yX5_make, Cond.code yX5_make cX5_make 4 (some .int), Cond.methodLink RX5 67 yX5_isNoStep, Cond.static yX5_isNoStep, Cond.code yX5_isNoStep cX5_isNoStep 1 (some .boolean), Cond.methodLink RX5 70 yX5_within, Cond.static yX5_within, Cond.code yX5_within cX5_within 1 (some .int), Cond.methodLink RX5 74 yX5_become, Cond.instanceMethod yX5_become, Cond.selects RX5 yX5_become yX5_become, Cond.code yX5_become cX5_become 4 (some .int), Cond.methodLink RL 210 yL_grow, Cond.static yL_grow, Cond.codeWith yL_grow cL_grow 6 (some .int) [(0, 13, 16, 19), (0, 13, 20, 21)], Cond.methodLink RL 44 yX3_grow, Cond.instanceMethod yX3_grow, Cond.selects RX3 yX3_grow yX3_grow, Cond.code yX3_grow cX3_grow 6 (some .int), Cond.methodLink RL 212 yX5_grow]
def wsL_law0_r12 : List Cond := [Cond.instanceMethod yX5_grow, Cond.selects RX5 yX5_grow yX5_grow, Cond.code yX5_grow cX5_grow 4 (some .int), Cond.methodLink RL 213 yL_turn, Cond.static yL_turn, Cond.codeWith yL_turn cL_turn 6 (some .int) [(0, 13, 16, 19), (0, 13, 20, 21)], Cond.methodLink RL 47 yX3_turn, Cond.instanceMethod yX3_turn, Cond.selects RX3 yX3_turn yX3_turn, Cond.code yX3_turn cX3_turn 6 (some .int), Cond.methodLink RL 215 yX5_turn, Cond.instanceMethod yX5_turn, Cond.selects RX5 yX5_turn yX5_turn, Cond.code yX5_turn cX5_turn 4 (some .int), Cond.methodLink RX5 77 Lib.Math.max.name, Cond.static Lib.Math.max.name, Cond.initialized "java/lang/Math", Cond.code Lib.Math.max.name Lib.Math.max.code 2 (some .int), Cond.methodLink RL 216 yL_join, Cond.static yL_join, Cond.codeWith yL_join cL_join 7 (some .int) [(0, 15, 18, 19), (0, 15, 22, 21)], Cond.methodLink RL 50 yX3_join, Cond.instanceMethod yX3_join, Cond.selects RX3 yX3_join yX3_join]
def wsL_law0_r13 : List Cond := [Cond.code yX3_join cX3_join 7 (some .int), Cond.methodLink RX3 76 yX3_joined, Cond.static yX3_joined, Cond.code yX3_joined cX3_joined 3 (some .int), Cond.methodLink RX3 234 Lib.Math.max.name, Cond.methodLink RX3 239 Lib.Math.min.name, Cond.static Lib.Math.min.name, Cond.code Lib.Math.min.name Lib.Math.min.code 2 (some .int), Cond.methodLink RL 218 yX5_join, Cond.instanceMethod yX5_join, Cond.selects RX5 yX5_join yX5_join, Cond.code yX5_join cX5_join 7 (some .int), Cond.methodLink RX5 83 Lib.Math.min.name, Cond.methodLink RL 219 yL_changeAll, Cond.static yL_changeAll, Cond.codeWith yL_changeAll cL_changeAll 6 (some .int) [(0, 13, 16, 19), (0, 13, 20, 21)], Cond.methodLink RL 54 yX3_changeAll, Cond.instanceMethod yX3_changeAll, Cond.selects RX3 yX3_changeAll yX3_changeAll, Cond.code yX3_changeAll cX3_changeAll 5 (some .int), Cond.methodLink RX3 80 yX1_reckonAnew, Cond.instanceMethod yX1_reckonAnew, Cond.selects RX1 yX1_reckonAnew yX1_reckonAnew, Cond.code yX1_reckonAnew cX1_reckonAnew 6 none]
def wsL_law0_r14 : List Cond := [Cond.methodLink RX3 83 yX1_sumOf, Cond.instanceMethod yX1_sumOf, Cond.selects RX1 yX1_sumOf yX1_sumOf, Cond.code yX1_sumOf cX1_sumOf 5 (some .int), Cond.static yX3_numberOf, Cond.code yX3_numberOf cX3_numberOf 3 (some .int), Cond.methodLink RL 221 yX5_changeAll, Cond.instanceMethod yX5_changeAll, Cond.selects RX5 yX5_changeAll yX5_changeAll, Cond.code yX5_changeAll cX5_changeAll 5 (some .int), Cond.methodLink RX5 86 yX5_sumOf, Cond.instanceMethod yX5_sumOf, Cond.selects RX5 yX5_sumOf yX5_sumOf, Cond.code yX5_sumOf cX5_sumOf 5 (some .int), Cond.methodLink RL 222 yL_raise, Cond.static yL_raise, Cond.codeWith yL_raise cL_raise 5 (some .int) [(0, 11, 14, 19), (0, 11, 18, 21)], Cond.methodLink RL 57 yX3_raise, Cond.instanceMethod yX3_raise, Cond.selects RX3 yX3_raise yX3_raise, Cond.code yX3_raise cX3_raise 4 (some .int), Cond.methodLink RX3 86 yX1_pairs, Cond.instanceMethod yX1_pairs, Cond.selects RX1 yX1_pairs yX1_pairs]
def wsL_law0_r15 : List Cond := [Cond.code yX1_pairs cX1_pairs 1 (some .int), Cond.methodLink RL 224 yX5_raise, Cond.instanceMethod yX5_raise, Cond.selects RX5 yX5_raise yX5_raise, Cond.code yX5_raise cX5_raise 4 (some .int), Cond.methodLink RX5 89 yX5_many, Cond.instanceMethod yX5_many, Cond.selects RX5 yX5_many yX5_many, Cond.code yX5_many cX5_many 4 (some .int), Cond.methodLink RX5 43 yX5_bit, Cond.static yX5_bit, Cond.code yX5_bit cX5_bit 1 (some .int), Cond.methodLink RL 225 yL_clear, Cond.static yL_clear, Cond.codeWith yL_clear cL_clear 5 (some .int) [(0, 11, 14, 19), (0, 11, 18, 21)], Cond.methodLink RL 60 yX3_clear, Cond.instanceMethod yX3_clear, Cond.selects RX3 yX3_clear yX3_clear, Cond.code yX3_clear cX3_clear 4 (some .int), Cond.methodLink RX3 90 yX1_liftAll, Cond.instanceMethod yX1_liftAll, Cond.selects RX1 yX1_liftAll yX1_liftAll, Cond.code yX1_liftAll cX1_liftAll 3 (some .int), Cond.methodLink RL 227 yX5_clear]
def wsL_law0_r16 : List Cond := [Cond.instanceMethod yX5_clear, Cond.selects RX5 yX5_clear yX5_clear, Cond.code yX5_clear cX5_clear 4 (some .int), Cond.methodLink RL 228 yL_copy, Cond.static yL_copy, Cond.codeWith yL_copy cL_copy 5 (some .int) [(0, 11, 14, 19), (0, 11, 18, 21)], Cond.methodLink RL 63 yX3_copy, Cond.instanceMethod yX3_copy, Cond.selects RX3 yX3_copy yX3_copy, Cond.code yX3_copy cX3_copy 5 (some .int), Cond.methodLink RX3 93 yX3_needTwo, Cond.static yX3_needTwo, Cond.code yX3_needTwo cX3_needTwo 2 none, Cond.methodLink RX3 97 yX1_becomeNew, Cond.instanceMethod yX1_becomeNew, Cond.selects RX1 yX1_becomeNew yX1_becomeNew, Cond.code yX1_becomeNew cX1_becomeNew 1 (some .int), Cond.methodLink RX1 35 yX1_tell, Cond.methodLink RX1 38 yX1_liftAll, Cond.methodLink RX3 100 yX1_layAll, Cond.instanceMethod yX1_layAll, Cond.selects RX1 yX1_layAll yX1_layAll, Cond.code yX1_layAll cX1_layAll 4 none, Cond.methodLink RL 230 yX5_copy]
def wsL_law0_r17 : List Cond := [Cond.instanceMethod yX5_copy, Cond.selects RX5 yX5_copy yX5_copy, Cond.code yX5_copy cX5_copy 4 (some .int), Cond.methodLink RL 231 yL_renew, Cond.static yL_renew, Cond.codeWith yL_renew cL_renew 5 (some .int) [(0, 11, 14, 19), (0, 11, 18, 21)], Cond.methodLink RL 66 yX3_renew, Cond.instanceMethod yX3_renew, Cond.selects RX3 yX3_renew yX3_renew, Cond.code yX3_renew cX3_renew 4 (some .int), Cond.methodLink RL 233 yX5_renew, Cond.instanceMethod yX5_renew, Cond.selects RX5 yX5_renew yX5_renew, Cond.code yX5_renew cX5_renew 4 (some .int), Cond.methodLink RL 234 yL_putAll, Cond.static yL_putAll, Cond.codeWith yL_putAll cL_putAll 5 (some .int) [(0, 11, 14, 19), (0, 11, 18, 21)], Cond.methodLink RL 69 yX3_putAll, Cond.instanceMethod yX3_putAll, Cond.selects RX3 yX3_putAll yX3_putAll, Cond.code yX3_putAll cX3_putAll 5 (some .int), Cond.methodLink RL 236 yX5_putAll, Cond.instanceMethod yX5_putAll, Cond.selects RX5 yX5_putAll yX5_putAll]
def wsL_law0_r18 : List Cond := [Cond.code yX5_putAll cX5_putAll 4 (some .int), Cond.methodLink RL 237 yL_takeName, Cond.static yL_takeName, Cond.codeWith yL_takeName cL_takeName 5 (some .int) [(0, 18, 21, 19), (0, 18, 25, 21)], Cond.methodLink RL 72 yX3_takeName, Cond.instanceMethod yX3_takeName, Cond.selects RX3 yX3_takeName yX3_takeName, Cond.code yX3_takeName cX3_takeName 4 (some .boolean), Cond.methodLink RL 239 yX5_takeName, Cond.instanceMethod yX5_takeName, Cond.selects RX5 yX5_takeName yX5_takeName, Cond.code yX5_takeName cX5_takeName 3 (some .boolean), Cond.methodLink RL 240 yL_takeWorth, Cond.static yL_takeWorth, Cond.codeWith yL_takeWorth cL_takeWorth 5 (some .int) [(0, 11, 14, 19), (0, 11, 18, 21)], Cond.methodLink RL 76 yX3_takeWorth, Cond.instanceMethod yX3_takeWorth, Cond.selects RX3 yX3_takeWorth yX3_takeWorth, Cond.code yX3_takeWorth cX3_takeWorth 4 (some .int), Cond.methodLink RX3 111 yX3_takeOnly, Cond.static yX3_takeOnly, Cond.code yX3_takeOnly cX3_takeOnly 2 (some .int), Cond.methodLink RX3 125 yX1_timesOf, Cond.instanceMethod yX1_timesOf]
def wsL_law0_r19 : List Cond := [Cond.selects RX1 yX1_timesOf yX1_timesOf, Cond.code yX1_timesOf cX1_timesOf 2 (some .int), Cond.methodLink RX3 115 yX1_liftWorth, Cond.instanceMethod yX1_liftWorth, Cond.selects RX1 yX1_liftWorth yX1_liftWorth, Cond.code yX1_liftWorth cX1_liftWorth 4 (some .int), Cond.methodLink RL 242 yX5_takeWorth, Cond.instanceMethod yX5_takeWorth, Cond.selects RX5 yX5_takeWorth yX5_takeWorth, Cond.code yX5_takeWorth cX5_takeWorth 3 (some .int), Cond.methodLink RX5 92 yX5_often, Cond.instanceMethod yX5_often, Cond.selects RX5 yX5_often yX5_often, Cond.code yX5_often cX5_often 5 (some .int), Cond.methodLink RX5 95 yX5_without, Cond.instanceMethod yX5_without, Cond.selects RX5 yX5_without yX5_without, Cond.code yX5_without cX5_without 5 (some .int), Cond.methodLink RL 243 yL_takeWorths, Cond.static yL_takeWorths, Cond.codeWith yL_takeWorths cL_takeWorths 5 (some .int) [(0, 11, 14, 19), (0, 11, 18, 21)], Cond.methodLink RL 79 yX3_takeWorths, Cond.instanceMethod yX3_takeWorths, Cond.selects RX3 yX3_takeWorths yX3_takeWorths]
def wsL_law0_r20 : List Cond := [Cond.code yX3_takeWorths cX3_takeWorths 4 (some .int), Cond.methodLink RL 245 yX5_takeWorths, Cond.instanceMethod yX5_takeWorths, Cond.selects RX5 yX5_takeWorths yX5_takeWorths, Cond.code yX5_takeWorths cX5_takeWorths 3 (some .int), Cond.methodLink RL 246 yL_takeOf, Cond.static yL_takeOf, Cond.codeWith yL_takeOf cL_takeOf 6 (some .int) [(0, 13, 16, 19), (0, 13, 20, 21)], Cond.methodLink RL 82 yX3_takeOf, Cond.instanceMethod yX3_takeOf, Cond.selects RX3 yX3_takeOf yX3_takeOf, Cond.code yX3_takeOf cX3_takeOf 6 (some .int), Cond.methodLink RX3 118 yX1_liftHeld, Cond.instanceMethod yX1_liftHeld, Cond.selects RX1 yX1_liftHeld yX1_liftHeld, Cond.code yX1_liftHeld cX1_liftHeld 7 (some .int), Cond.methodLink RX1 53 yX1_holds, Cond.instanceMethod yX1_holds, Cond.selects RX1 yX1_holds yX1_holds, Cond.code yX1_holds cX1_holds 4 (some .boolean), Cond.methodLink RX1 61 yX1_timesOf, Cond.methodLink RL 248 yX5_takeOf, Cond.instanceMethod yX5_takeOf, Cond.selects RX5 yX5_takeOf yX5_takeOf]
def wsL_law0_r21 : List Cond := [Cond.code yX5_takeOf cX5_takeOf 4 (some .int), Cond.methodLink RX5 102 yX5_sorted, Cond.instanceMethod yX5_sorted, Cond.selects RX5 yX5_sorted yX5_sorted, Cond.code yX5_sorted cX5_sorted 7 (some .int), Cond.methodLink RX5 98 yX5_hasPart, Cond.instanceMethod yX5_hasPart, Cond.selects RX5 yX5_hasPart yX5_hasPart, Cond.code yX5_hasPart cX5_hasPart 5 (some .boolean), Cond.methodLink RL 249 yL_keepOf, Cond.static yL_keepOf, Cond.codeWith yL_keepOf cL_keepOf 6 (some .int) [(0, 13, 16, 19), (0, 13, 20, 21)], Cond.methodLink RL 85 yX3_keepOf, Cond.instanceMethod yX3_keepOf, Cond.selects RX3 yX3_keepOf yX3_keepOf, Cond.code yX3_keepOf cX3_keepOf 6 (some .int), Cond.methodLink RL 251 yX5_keepOf, Cond.instanceMethod yX5_keepOf, Cond.selects RX5 yX5_keepOf yX5_keepOf, Cond.code yX5_keepOf cX5_keepOf 4 (some .int), Cond.methodLink RL 252 yL_sift, Cond.static yL_sift, Cond.codeWith yL_sift cL_sift 6 (some .int) [(0, 13, 16, 19), (0, 13, 20, 21)], Cond.methodLink RL 88 yX3_sift]
def wsL_law0_r22 : List Cond := [Cond.instanceMethod yX3_sift, Cond.selects RX3 yX3_sift yX3_sift, Cond.code yX3_sift cX3_sift 5 (some .int), Cond.methodLink RX3 122 yX1_liftMultiples, Cond.instanceMethod yX1_liftMultiples, Cond.selects RX1 yX1_liftMultiples yX1_liftMultiples, Cond.code yX1_liftMultiples cX1_liftMultiples 7 (some .int), Cond.methodLink RL 254 yX5_sift, Cond.instanceMethod yX5_sift, Cond.selects RX5 yX5_sift yX5_sift, Cond.code yX5_sift cX5_sift 6 (some .int), Cond.methodLink RL 255 yL_get, Cond.static yL_get, Cond.codeWith yL_get cL_get 5 (some .int) [(0, 11, 14, 19), (0, 11, 18, 21)], Cond.methodLink RL 91 yX3_get, Cond.instanceMethod yX3_get, Cond.selects RX3 yX3_get yX3_get, Cond.code yX3_get cX3_get 4 (some .int), Cond.methodLink RL 257 yX5_get, Cond.instanceMethod yX5_get, Cond.selects RX5 yX5_get yX5_get, Cond.code yX5_get cX5_get 3 (some .int), Cond.methodLink RL 258 yL_getOr, Cond.static yL_getOr]
def wsL_law0_r23 : List Cond := [Cond.codeWith yL_getOr cL_getOr 6 (some .int) [(0, 13, 16, 19), (0, 13, 20, 21)], Cond.methodLink RL 94 yX3_getOr, Cond.instanceMethod yX3_getOr, Cond.selects RX3 yX3_getOr yX3_getOr, Cond.code yX3_getOr cX3_getOr 6 (some .int), Cond.methodLink RL 260 yX5_getOr, Cond.instanceMethod yX5_getOr, Cond.selects RX5 yX5_getOr yX5_getOr, Cond.code yX5_getOr cX5_getOr 4 (some .int), Cond.methodLink RL 261 yL_has, Cond.static yL_has, Cond.codeWith yL_has cL_has 6 (some .int) [(0, 20, 23, 19), (0, 20, 27, 21)], Cond.methodLink RL 97 yX3_has, Cond.instanceMethod yX3_has, Cond.selects RX3 yX3_has yX3_has, Cond.code yX3_has cX3_has 5 (some .boolean), Cond.methodLink RL 263 yX5_has, Cond.instanceMethod yX5_has, Cond.selects RX5 yX5_has yX5_has, Cond.code yX5_has cX5_has 4 (some .boolean), Cond.methodLink RL 264 yL_hasWorth, Cond.static yL_hasWorth, Cond.codeWith yL_hasWorth cL_hasWorth 6 (some .int) [(0, 20, 23, 19), (0, 20, 27, 21)], Cond.methodLink RL 100 yX3_hasWorth]
def wsL_law0_r24 : List Cond := [Cond.instanceMethod yX3_hasWorth, Cond.selects RX3 yX3_hasWorth yX3_hasWorth, Cond.code yX3_hasWorth cX3_hasWorth 5 (some .boolean), Cond.methodLink RL 266 yX5_hasWorth, Cond.instanceMethod yX5_hasWorth, Cond.selects RX5 yX5_hasWorth yX5_hasWorth, Cond.code yX5_hasWorth cX5_hasWorth 4 (some .boolean), Cond.methodLink RL 267 yL_within, Cond.static yL_within, Cond.codeWith yL_within cL_within 6 (some .int) [(0, 20, 23, 19), (0, 20, 27, 21)], Cond.methodLink RL 103 yX3_within, Cond.instanceMethod yX3_within, Cond.selects RX3 yX3_within yX3_within, Cond.code yX3_within cX3_within 6 (some .boolean), Cond.methodLink RX3 128 yX1_holdsAll, Cond.instanceMethod yX1_holdsAll, Cond.selects RX1 yX1_holdsAll yX1_holdsAll, Cond.code yX1_holdsAll cX1_holdsAll 5 (some .boolean), Cond.methodLink RL 269 yX5_within_, Cond.instanceMethod yX5_within_, Cond.selects RX5 yX5_within_ yX5_within_, Cond.code yX5_within_ cX5_within_ 4 (some .boolean), Cond.methodLink RX5 106 yX5_isWithin, Cond.instanceMethod yX5_isWithin]
def wsL_law0_r25 : List Cond := [Cond.selects RX5 yX5_isWithin yX5_isWithin, Cond.code yX5_isWithin cX5_isWithin 5 (some .boolean), Cond.methodLink RL 270 yL_size, Cond.static yL_size, Cond.codeWith yL_size cL_size 4 (some .int) [(0, 10, 13, 19)], Cond.methodLink RL 106 yX3_size, Cond.instanceMethod yX3_size, Cond.selects RX3 yX3_size yX3_size, Cond.code yX3_size cX3_size 2 (some .int), Cond.methodLink RL 273 yX5_size, Cond.instanceMethod yX5_size, Cond.selects RX5 yX5_size yX5_size, Cond.code yX5_size cX5_size 2 (some .int), Cond.methodLink RL 274 yL_isEmpty, Cond.static yL_isEmpty, Cond.codeWith yL_isEmpty cL_isEmpty 4 (some .int) [(0, 17, 20, 19)], Cond.methodLink RL 110 yX3_isEmpty, Cond.instanceMethod yX3_isEmpty, Cond.selects RX3 yX3_isEmpty yX3_isEmpty, Cond.code yX3_isEmpty cX3_isEmpty 2 (some .boolean), Cond.methodLink RL 276 yX5_isEmpty, Cond.instanceMethod yX5_isEmpty, Cond.selects RX5 yX5_isEmpty yX5_isEmpty, Cond.code yX5_isEmpty cX5_isEmpty 2 (some .boolean)]
def wsL_law0_r26 : List Cond := [Cond.methodLink RL 277 yL_sum, Cond.static yL_sum, Cond.codeWith yL_sum cL_sum 5 (some .int) [(0, 11, 14, 19), (0, 11, 18, 21)], Cond.methodLink RL 114 yX3_sum, Cond.instanceMethod yX3_sum, Cond.selects RX3 yX3_sum yX3_sum, Cond.code yX3_sum cX3_sum 4 (some .int), Cond.methodLink RX3 132 yX3_sumByWalk, Cond.instanceMethod yX3_sumByWalk, Cond.selects RX3 yX3_sumByWalk yX3_sumByWalk, Cond.code yX3_sumByWalk cX3_sumByWalk 3 (some .int), Cond.methodLink RX3 242 yX3_walkThrough, Cond.instanceMethod yX3_walkThrough, Cond.selects RX3 yX3_walkThrough yX3_walkThrough, Cond.code yX3_walkThrough cX3_walkThrough 5 none, Cond.methodLink RX3 159 yX2_begin, Cond.instanceMethod yX2_begin, Cond.selects RX2 yX2_begin yX2_begin, Cond.code yX2_begin cX2_begin 2 none, Cond.fieldLink RX2 15 "Hashladder$Walk" "kind" "I", Cond.fieldLink RX2 19 "Hashladder$Walk" "place" "I", Cond.fieldLink RX2 22 "Hashladder$Walk" "done" "I", Cond.fieldLink RX2 25 "Hashladder$Walk" "total" "I", Cond.methodLink RX3 171 yX2_goOn]
def wsL_law0_r27 : List Cond := [Cond.instanceMethod yX2_goOn, Cond.selects RX2 yX2_goOn yX2_goOn, Cond.code yX2_goOn cX2_goOn 4 (some .boolean), Cond.methodLink RX2 28 yX1_worthAt, Cond.methodLink RX3 180 yX2_total, Cond.instanceMethod yX2_total, Cond.selects RX2 yX2_total yX2_total, Cond.code yX2_total cX2_total 1 (some .int), Cond.methodLink RL 279 yX5_sum, Cond.instanceMethod yX5_sum, Cond.selects RX5 yX5_sum yX5_sum, Cond.code yX5_sum cX5_sum 3 (some .int), Cond.methodLink RX5 109 yX5_kind, Cond.static yX5_kind, Cond.code yX5_kind cX5_kind 1 (some .int), Cond.methodLink RL 280 yL_isSame, Cond.static yL_isSame, Cond.codeWith yL_isSame cL_isSame 5 (some .int) [(0, 18, 21, 19)], Cond.methodLink RL 117 yX3_isSame, Cond.instanceMethod yX3_isSame, Cond.selects RX3 yX3_isSame yX3_isSame, Cond.code yX3_isSame cX3_isSame 4 (some .boolean), Cond.methodLink RX3 135 yX1_isLike, Cond.instanceMethod yX1_isLike]
def wsL_law0_r28 : List Cond := [Cond.selects RX1 yX1_isLike yX1_isLike, Cond.code yX1_isLike cX1_isLike 2 (some .boolean), Cond.methodLink RX1 64 yX1_holdsAll, Cond.methodLink RL 282 yX5_isSame, Cond.instanceMethod yX5_isSame, Cond.selects RX5 yX5_isSame yX5_isSame, Cond.code yX5_isSame cX5_isSame 3 (some .boolean), Cond.methodLink RX5 112 yX5_areSame, Cond.instanceMethod yX5_areSame, Cond.selects RX5 yX5_areSame yX5_areSame, Cond.code yX5_areSame cX5_areSame 4 (some .boolean), Cond.methodLink RL 283 yL_text, Cond.static yL_text, Cond.codeWith yL_text cL_text 4 (some .int) [(0, 9, 12, 19)], Cond.methodLink RL 120 yX3_text, Cond.instanceMethod yX3_text, Cond.selects RX3 yX3_text yX3_text, Cond.code yX3_text cX3_text 2 (some (.object "java/lang/String")), Cond.methodLink RX3 139 yX3_writePage, Cond.instanceMethod yX3_writePage, Cond.selects RX3 yX3_writePage yX3_writePage, Cond.code yX3_writePage cX3_writePage 2 none, Cond.methodLink RX3 246 yJ4_setLength_d00df, Cond.instanceMethod yJ4_setLength_d00df]
def wsL_law0_r29 : List Cond := [Cond.selects RJ4 yJ4_setLength_d00df yJ4_setLength_d00df, Cond.code yJ4_setLength_d00df cJ4_setLength_d00df 2 none, Cond.methodLink RJ4 333 yJ5_setLength_d00df, Cond.sameMethod "java/lang/AbstractStringBuilder" "java/lang/AbstractStringBuilder" "setLength" "(I)V", Cond.superclass RJ4 RJ5, Cond.instanceMethod yJ5_setLength_d00df, Cond.code yJ5_setLength_d00df cJ5_setLength_d00df 2 none, Cond.classLink RJ5 129 RJx7c733, Cond.instantiable RJx7c733 6, Cond.initialized RJx7c733, Cond.fieldLink RJ5 79 "java/lang/AbstractStringBuilder" "count" "I", Cond.fieldLink RJ5 73 "java/lang/AbstractStringBuilder" "maybeLatin1" "Z", Cond.methodLink RJ5 100 ⟨"java/lang/AbstractStringBuilder", "ensureCapacityInternal", "(I)V"⟩, Cond.sameMethod "java/lang/AbstractStringBuilder" "java/lang/AbstractStringBuilder" "ensureCapacityInternal" "(I)V", Cond.selects RJ4 ⟨"java/lang/AbstractStringBuilder", "ensureCapacityInternal", "(I)V"⟩ yJ5_ensureCapacityInternal_d00df, Cond.instanceMethod yJ5_ensureCapacityInternal_d00df, Cond.code yJ5_ensureCapacityInternal_d00df cJ5_ensureCapacityInternal_d00df 3 none, Cond.methodLink RJ5 104 ⟨"java/lang/AbstractStringBuilder", "newCapacity", "(I)I"⟩, Cond.sameMethod "java/lang/AbstractStringBuilder" "java/lang/AbstractStringBuilder" "newCapacity" "(I)I", Cond.selects RJ4 ⟨"java/lang/AbstractStringBuilder", "newCapacity", "(I)I"⟩ yJ5_newCapacity_0f7a4, Cond.instanceMethod yJ5_newCapacity_0f7a4, Cond.code yJ5_newCapacity_0f7a4 cJ5_newCapacity_0f7a4 6 (some .int), Cond.constant RJ5 39 (2147483647), Cond.methodLink RJ5 114 yJ8_newLength_cabcc]
def wsL_law0_r30 : List Cond := [Cond.static yJ8_newLength_cabcc, Cond.initialized RJ8, Cond.code yJ8_newLength_cabcc cJ8_newLength_cabcc 4 (some .int), Cond.methodLink RJ8 194 Lib.Math.max.name, Cond.constant RJ8 200 (2147483639), Cond.methodLink RJ8 201 yJ8_hugeLength_7cf53, Cond.static yJ8_hugeLength_7cf53, Cond.code yJ8_hugeLength_7cf53 cJ8_hugeLength_7cf53 3 (some .int), Cond.methodLink RJ5 108 yJ7_copyOf_9075b, Cond.static yJ7_copyOf_9075b, Cond.initialized RJ7, Cond.code yJ7_copyOf_9075b cJ7_copyOf_9075b 3 (some (.array .byte)), Cond.methodLink RJ7 310 ⟨"[B", "clone", "()Ljava/lang/Object;"⟩, Cond.sameMethod "[B" "java/lang/Object" "clone" "()Ljava/lang/Object;", Cond.native ⟨"java/lang/Object", "clone", "()Ljava/lang/Object;"⟩, Cond.instanceMethod ⟨"java/lang/Object", "clone", "()Ljava/lang/Object;"⟩, Cond.selects "[B" ⟨"[B", "clone", "()Ljava/lang/Object;"⟩ ⟨"java/lang/Object", "clone", "()Ljava/lang/Object;"⟩, Cond.classLink RJ7 311 "[B", Cond.methodLink RJ7 304 Lib.Math.min.name, Cond.methodLink RJ7 150 arraycopyName, Cond.native arraycopyName, Cond.static arraycopyName, Cond.initialized "java/lang/System", Cond.methodLink RJ5 83 ⟨"java/lang/AbstractStringBuilder", "isLatin1", "()Z"⟩]
def wsL_law0_r31 : List Cond := [Cond.sameMethod "java/lang/AbstractStringBuilder" "java/lang/AbstractStringBuilder" "isLatin1" "()Z", Cond.selects RJ4 ⟨"java/lang/AbstractStringBuilder", "isLatin1", "()Z"⟩ yJ5_isLatin1_aae02, Cond.instanceMethod yJ5_isLatin1_aae02, Cond.code yJ5_isLatin1_aae02 cJ5_isLatin1_aae02 1 (some .boolean), Cond.methodLink RJ5 133 yJ1_fillNull_b72d1, Cond.static yJ1_fillNull_b72d1, Cond.initialized RJ1, Cond.code yJ1_fillNull_b72d1 cJ1_fillNull_b72d1 3 none, Cond.methodLink RJ1 236 yJ7_fill_eb02e, Cond.static yJ7_fill_eb02e, Cond.code yJ7_fill_eb02e cJ7_fill_eb02e 5 none, Cond.methodLink RJ7 13 yJ7_rangeCheck_23922, Cond.static yJ7_rangeCheck_23922, Cond.code yJ7_rangeCheck_23922 cJ7_rangeCheck_23922 3 none, Cond.classLink RJ7 45 RJ4, Cond.classLink RJ7 68 RJx00060, Cond.instantiable RJx00060 6, Cond.initialized RJx00060, Cond.methodLink RJ5 137 yJ2_fillNull_b72d1, Cond.static yJ2_fillNull_b72d1, Cond.code yJ2_fillNull_b72d1 cJ2_fillNull_b72d1 3 none, Cond.methodLink RJ2 380 yJ7_fill_eb02e, Cond.methodLink RX3 249 yX1_writeTo, Cond.instanceMethod yX1_writeTo]
def wsL_law0_r32 : List Cond := [Cond.selects RX1 yX1_writeTo yX1_writeTo, Cond.code yX1_writeTo cX1_writeTo 4 none, Cond.methodLink RX1 71 yJ4_length_8abf5, Cond.instanceMethod yJ4_length_8abf5, Cond.selects RJ4 yJ4_length_8abf5 yJ4_length_8abf5, Cond.code yJ4_length_8abf5 cJ4_length_8abf5 1 (some .int), Cond.methodLink RJ4 343 yJ5_length_8abf5, Cond.sameMethod "java/lang/AbstractStringBuilder" "java/lang/AbstractStringBuilder" "length" "()I", Cond.instanceMethod yJ5_length_8abf5, Cond.code yJ5_length_8abf5 cJ5_length_8abf5 1 (some .int), Cond.methodLink RX1 76 yJ4_append_cf468, Cond.instanceMethod yJ4_append_cf468, Cond.selects RJ4 yJ4_append_cf468 yJ4_append_cf468, Cond.code yJ4_append_cf468 cJ4_append_cf468 2 (some (.object "java/lang/StringBuilder")), Cond.methodLink RJ4 50 yJ5_append_3fe6f, Cond.sameMethod "java/lang/AbstractStringBuilder" "java/lang/AbstractStringBuilder" "append" "(C)Ljava/lang/AbstractStringBuilder;", Cond.instanceMethod yJ5_append_3fe6f, Cond.code yJ5_append_3fe6f cJ5_append_3fe6f 2 (some (.object "java/lang/AbstractStringBuilder")), Cond.methodLink RJ5 191 yJ1_canEncode_fc78d, Cond.static yJ1_canEncode_fc78d, Cond.code yJ1_canEncode_fc78d cJ1_canEncode_fc78d 1 (some .boolean), Cond.methodLink RJ5 195 ⟨"java/lang/AbstractStringBuilder", "inflate", "()V"⟩, Cond.sameMethod "java/lang/AbstractStringBuilder" "java/lang/AbstractStringBuilder" "inflate" "()V", Cond.selects RJ4 ⟨"java/lang/AbstractStringBuilder", "inflate", "()V"⟩ yJ5_inflate_da8c8]
def wsL_law0_r33 : List Cond := [Cond.instanceMethod yJ5_inflate_da8c8, Cond.code yJ5_inflate_da8c8 cJ5_inflate_da8c8 2 none, Cond.methodLink RJ5 125 yJ1_inflate_0e8fd, Cond.static yJ1_inflate_0e8fd, Cond.code yJ1_inflate_0e8fd cJ1_inflate_0e8fd 5 none, Cond.methodLink RJ1 240 yJ2_inflate_0e8fd, Cond.static yJ2_inflate_0e8fd, Cond.code yJ2_inflate_0e8fd cJ2_inflate_0e8fd 6 none, Cond.methodLink RJ2 173 yJ2_checkBoundsOffCount_d044e, Cond.static yJ2_checkBoundsOffCount_d044e, Cond.code yJ2_checkBoundsOffCount_d044e cJ2_checkBoundsOffCount_d044e 3 none, Cond.methodLink RJ2 48 yJ2_length_9d52b, Cond.static yJ2_length_9d52b, Cond.code yJ2_length_9d52b cJ2_length_9d52b 1 (some .int), Cond.methodLink RJ2 419 yJ0_checkBoundsOffCount_cabcc, Cond.static yJ0_checkBoundsOffCount_cabcc, Cond.initialized RJ0, Cond.code yJ0_checkBoundsOffCount_cabcc cJ0_checkBoundsOffCount_cabcc 3 (some .int), Cond.fieldLink RJ0 1053 "jdk/internal/util/Preconditions" "SIOOBE_FORMATTER" "Ljava/util/function/BiFunction;", Cond.methodLink RJ0 1065 yJ3_checkFromIndexSize_8c36e, Cond.static yJ3_checkFromIndexSize_8c36e, Cond.initialized RJ3, Cond.code yJ3_checkFromIndexSize_8c36e cJ3_checkFromIndexSize_8c36e 4 (some .int), Cond.methodLink RJ2 111 yJ2_putChar_b72d1]
def wsL_law0_r34 : List Cond := [Cond.static yJ2_putChar_b72d1, Cond.code yJ2_putChar_b72d1 cJ2_putChar_b72d1 3 none, Cond.fieldLink RJ2 44 "java/lang/StringUTF16" "$assertionsDisabled" "Z", Cond.fieldLink RJ2 59 "java/lang/StringUTF16" "HI_BYTE_SHIFT" "I", Cond.fieldLink RJ2 63 "java/lang/StringUTF16" "LO_BYTE_SHIFT" "I", Cond.methodLink RJ5 197 yJ2_putCharSB_b72d1, Cond.static yJ2_putCharSB_b72d1, Cond.code yJ2_putCharSB_b72d1 cJ2_putCharSB_b72d1 3 none, Cond.methodLink RJ2 67 yJ2_checkIndex_2214a, Cond.static yJ2_checkIndex_2214a, Cond.code yJ2_checkIndex_2214a cJ2_checkIndex_2214a 2 none, Cond.methodLink RJ2 414 yJ0_checkIndex_df160, Cond.static yJ0_checkIndex_df160, Cond.code yJ0_checkIndex_df160 cJ0_checkIndex_df160 2 none, Cond.methodLink RJ0 1059 yJ3_checkIndex_8e157, Cond.static yJ3_checkIndex_8e157, Cond.code yJ3_checkIndex_8e157 cJ3_checkIndex_8e157 3 (some .int), Cond.methodLink RX1 80 yX1_writeNumber, Cond.static yX1_writeNumber, Cond.code yX1_writeNumber cX1_writeNumber 2 none, Cond.methodLink RX3 142 yJ4_toString_0e30d, Cond.instanceMethod yJ4_toString_0e30d, Cond.selects RJ4 yJ4_toString_0e30d yJ4_toString_0e30d, Cond.code yJ4_toString_0e30d cJ4_toString_0e30d 1 (some (.object "java/lang/String"))]
def wsL_law0_r35 : List Cond := [Cond.classLink RJ4 18 RJ0, Cond.instantiable RJ0 4, Cond.methodLink RJ4 137 yJ0_init_81219, Cond.instanceMethod yJ0_init_81219, Cond.code yJ0_init_81219 cJ0_init_81219 2 none, Cond.methodLink RJ0 489 yJ0_init_db425, Cond.instanceMethod yJ0_init_db425, Cond.code yJ0_init_db425 cJ0_init_db425 5 none, Cond.methodLink RJ0 1 objectInit, Cond.fieldLink RJ0 15 "java/lang/String" "coder" "B", Cond.fieldLink RJ0 9 "java/lang/String" "value" "[B", Cond.fieldLink RJ0 38 "java/lang/String" "COMPACT_STRINGS" "Z", Cond.fieldLink RJ0 1048 "java/lang/AbstractStringBuilder" "maybeLatin1" "Z", Cond.methodLink RJ0 552 ⟨"java/lang/AbstractStringBuilder", "getValue", "()[B"⟩, Cond.sameMethod "java/lang/AbstractStringBuilder" "java/lang/AbstractStringBuilder" "getValue" "()[B", Cond.selects RJ4 ⟨"java/lang/AbstractStringBuilder", "getValue", "()[B"⟩ yJ5_getValue_6d5f1, Cond.instanceMethod yJ5_getValue_6d5f1, Cond.code yJ5_getValue_6d5f1 cJ5_getValue_6d5f1 1 (some (.array .byte)), Cond.methodLink RJ0 549 ⟨"java/lang/AbstractStringBuilder", "length", "()I"⟩, Cond.instanceMethod ⟨"java/lang/AbstractStringBuilder", "length", "()I"⟩, Cond.selects RJ4 ⟨"java/lang/AbstractStringBuilder", "length", "()I"⟩ yJ4_length_8abf5, Cond.methodLink RJ0 1047 ⟨"java/lang/AbstractStringBuilder", "isLatin1", "()Z"⟩, Cond.methodLink RJ0 54 yJ7_copyOfRange_39247, Cond.static yJ7_copyOfRange_39247]
def wsL_law0_r36 : List Cond := [Cond.code yJ7_copyOfRange_39247 cJ7_copyOfRange_39247 3 (some (.array .byte)), Cond.methodLink RJ7 339 yJ7_copyOfRangeByte_39247, Cond.static yJ7_copyOfRangeByte_39247, Cond.code yJ7_copyOfRangeByte_39247 cJ7_copyOfRangeByte_39247 5 (some (.array .byte)), Cond.methodLink RJ7 343 yJ7_checkLength_df160, Cond.static yJ7_checkLength_df160, Cond.code yJ7_checkLength_df160 cJ7_checkLength_df160 2 none, Cond.methodLink RJ0 1051 yJ2_compress_39247, Cond.static yJ2_compress_39247, Cond.code yJ2_compress_39247 cJ2_compress_39247 6 (some (.array .byte)), Cond.methodLink RJ2 123 yJ2_compress_5af95, Cond.static yJ2_compress_5af95, Cond.code yJ2_compress_5af95 cJ2_compress_5af95 7 (some .int), Cond.methodLink RJ2 71 yJ2_getChar_3b067, Cond.static yJ2_getChar_3b067, Cond.code yJ2_getChar_3b067 cJ2_getChar_3b067 2 (some .char), Cond.methodLink RJ2 126 yJ7_copyOfRange_39247, Cond.methodLink RJ0 47 yJ2_coderFromArrayLen_85cad, Cond.static yJ2_coderFromArrayLen_85cad, Cond.code yJ2_coderFromArrayLen_85cad cJ2_coderFromArrayLen_85cad 2 (some .byte), Cond.methodLink RL 285 yX5_text, Cond.instanceMethod yX5_text, Cond.selects RX5 yX5_text yX5_text, Cond.code yX5_text cX5_text 2 (some (.object "java/lang/String"))]
def wsL_law0_r37 : List Cond := [Cond.methodLink RX5 142 yX5_textOf, Cond.instanceMethod yX5_textOf, Cond.selects RX5 yX5_textOf yX5_textOf, Cond.code yX5_textOf cX5_textOf 5 (some (.object "java/lang/String")), Cond.classLink RX5 118 RJ4, Cond.methodLink RX5 120 yJ4_init_da8c8, Cond.methodLink RX5 121 yJ4_append_15ec4, Cond.instanceMethod yJ4_append_15ec4, Cond.selects RJ4 yJ4_append_15ec4 yJ4_append_15ec4, Cond.code yJ4_append_15ec4 cJ4_append_15ec4 2 (some (.object "java/lang/StringBuilder")), Cond.methodLink RJ4 29 yJ5_append_cf1ce, Cond.sameMethod "java/lang/AbstractStringBuilder" "java/lang/AbstractStringBuilder" "append" "(Ljava/lang/String;)Ljava/lang/AbstractStringBuilder;", Cond.instanceMethod yJ5_append_cf1ce, Cond.code yJ5_append_cf1ce cJ5_append_cf1ce 3 (some (.object "java/lang/AbstractStringBuilder")), Cond.methodLink RJ5 204 ⟨"java/lang/AbstractStringBuilder", "appendNull", "()Ljava/lang/AbstractStringBuilder;"⟩, Cond.sameMethod "java/lang/AbstractStringBuilder" "java/lang/AbstractStringBuilder" "appendNull" "()Ljava/lang/AbstractStringBuilder;", Cond.selects RJ4 ⟨"java/lang/AbstractStringBuilder", "appendNull", "()Ljava/lang/AbstractStringBuilder;"⟩ yJ5_appendNull_278bc, Cond.instanceMethod yJ5_appendNull_278bc, Cond.code yJ5_appendNull_278bc cJ5_appendNull_278bc 3 (some (.object "java/lang/AbstractStringBuilder")), Cond.methodLink RJ5 226 yJ2_putCharsAt_cd4e5, Cond.static yJ2_putCharsAt_cd4e5, Cond.code yJ2_putCharsAt_cd4e5 cJ2_putCharsAt_cd4e5 7 (some .int), Cond.methodLink RJ2 96 yJ2_checkBoundsBeginEnd_d044e, Cond.static yJ2_checkBoundsBeginEnd_d044e]
def wsL_law0_r38 : List Cond := [Cond.code yJ2_checkBoundsBeginEnd_d044e cJ2_checkBoundsBeginEnd_d044e 3 none, Cond.methodLink RJ2 241 yJ0_checkBoundsBeginEnd_23922, Cond.static yJ0_checkBoundsBeginEnd_23922, Cond.code yJ0_checkBoundsBeginEnd_23922 cJ0_checkBoundsBeginEnd_23922 3 none, Cond.methodLink RJ0 1062 yJ3_checkFromToIndex_8c36e, Cond.static yJ3_checkFromToIndex_8c36e, Cond.code yJ3_checkFromToIndex_8c36e cJ3_checkFromToIndex_8c36e 4 (some .int), Cond.methodLink RJ5 32 yJ0_length_8abf5, Cond.instanceMethod yJ0_length_8abf5, Cond.selects RJ0 yJ0_length_8abf5 yJ0_length_8abf5, Cond.code yJ0_length_8abf5 cJ0_length_8abf5 1 (some .int), Cond.methodLink RJ0 335 yJ0_coder_7d493, Cond.instanceMethod yJ0_coder_7d493, Cond.selects RJ0 yJ0_coder_7d493 yJ0_coder_7d493, Cond.code yJ0_coder_7d493 cJ0_coder_7d493 1 (some .byte), Cond.methodLink RJ5 208 ⟨"java/lang/AbstractStringBuilder", "putStringAt", "(ILjava/lang/String;)V"⟩, Cond.sameMethod "java/lang/AbstractStringBuilder" "java/lang/AbstractStringBuilder" "putStringAt" "(ILjava/lang/String;)V", Cond.selects RJ4 ⟨"java/lang/AbstractStringBuilder", "putStringAt", "(ILjava/lang/String;)V"⟩ yJ5_putStringAt_47b60, Cond.instanceMethod yJ5_putStringAt_47b60, Cond.code yJ5_putStringAt_47b60 cJ5_putStringAt_47b60 3 none, Cond.methodLink RJ5 397 ⟨"java/lang/AbstractStringBuilder", "inflateIfNeededFor", "(Ljava/lang/String;)V"⟩, Cond.sameMethod "java/lang/AbstractStringBuilder" "java/lang/AbstractStringBuilder" "inflateIfNeededFor" "(Ljava/lang/String;)V", Cond.selects RJ4 ⟨"java/lang/AbstractStringBuilder", "inflateIfNeededFor", "(Ljava/lang/String;)V"⟩ yJ5_inflateIfNeededFor_a7421, Cond.instanceMethod yJ5_inflateIfNeededFor_a7421]
def wsL_law0_r39 : List Cond := [Cond.code yJ5_inflateIfNeededFor_a7421 cJ5_inflateIfNeededFor_a7421 2 none, Cond.methodLink RJ5 40 yJ0_coder_7d493, Cond.methodLink RJ5 399 yJ0_getBytes_840e7, Cond.instanceMethod yJ0_getBytes_840e7, Cond.selects RJ0 yJ0_getBytes_840e7 yJ0_getBytes_840e7, Cond.code yJ0_getBytes_840e7 cJ0_getBytes_840e7 4 none, Cond.methodLink RJ0 212 arraycopyName, Cond.methodLink RJ0 106 yJ1_inflate_0e8fd, Cond.methodLink RX5 125 yJ0_isEmpty_aae02, Cond.instanceMethod yJ0_isEmpty_aae02, Cond.selects RJ0 yJ0_isEmpty_aae02 yJ0_isEmpty_aae02, Cond.code yJ0_isEmpty_aae02 cJ0_isEmpty_aae02 1 (some .boolean), Cond.methodLink RX5 131 yJ4_append_bf812, Cond.instanceMethod yJ4_append_bf812, Cond.selects RJ4 yJ4_append_bf812 yJ4_append_bf812, Cond.code yJ4_append_bf812 cJ4_append_bf812 2 (some (.object "java/lang/StringBuilder")), Cond.methodLink RJ4 53 yJ5_append_c97b9, Cond.sameMethod "java/lang/AbstractStringBuilder" "java/lang/AbstractStringBuilder" "append" "(I)Ljava/lang/AbstractStringBuilder;", Cond.instanceMethod yJ5_append_c97b9, Cond.code yJ5_append_c97b9 cJ5_append_c97b9 4 (some (.object "java/lang/AbstractStringBuilder")), Cond.methodLink RJ5 245 yJ6_stringSize_0f7a4, Cond.static yJ6_stringSize_0f7a4, Cond.initialized RJ6, Cond.code yJ6_stringSize_0f7a4 cJ6_stringSize_0f7a4 4 (some .int)]
def wsL_law0_r40 : List Cond := [Cond.methodLink RJ5 248 yJ6_getChars_ba4f3, Cond.static yJ6_getChars_ba4f3, Cond.code yJ6_getChars_ba4f3 cJ6_getChars_ba4f3 7 (some .int), Cond.fieldLink RJ6 83 "java/lang/Integer" "DigitOnes" "[B", Cond.fieldLink RJ6 87 "java/lang/Integer" "DigitTens" "[B", Cond.methodLink RJ5 251 yJ2_getChars_46870, Cond.static yJ2_getChars_46870, Cond.code yJ2_getChars_46870 cJ2_getChars_46870 5 (some .int), Cond.methodLink RJ2 393 yJ2_getChars_ba4f3, Cond.static yJ2_getChars_ba4f3, Cond.code yJ2_getChars_ba4f3 cJ2_getChars_ba4f3 7 (some .int), Cond.fieldLink RJ2 403 "java/lang/Integer" "DigitOnes" "[B", Cond.fieldLink RJ2 407 "java/lang/Integer" "DigitTens" "[B", Cond.methodLink RX5 136 yJ4_toString_0e30d, Cond.methodLink RL 286 yL_code, Cond.static yL_code, Cond.codeWith yL_code cL_code 4 (some .int) [(0, 10, 13, 19)], Cond.methodLink RL 128 yX3_code, Cond.instanceMethod yX3_code, Cond.selects RX3 yX3_code yX3_code, Cond.code yX3_code cX3_code 2 (some .int), Cond.methodLink RX3 146 yX1_reckonCode, Cond.instanceMethod yX1_reckonCode, Cond.selects RX1 yX1_reckonCode yX1_reckonCode]
def wsL_law0_r41 : List Cond := [Cond.code yX1_reckonCode cX1_reckonCode 4 (some .int), Cond.methodLink RL 288 yX5_code, Cond.instanceMethod yX5_code, Cond.selects RX5 yX5_code yX5_code, Cond.code yX5_code cX5_code 2 (some .int), Cond.methodLink RX5 149 yX5_codeOf, Cond.instanceMethod yX5_codeOf, Cond.selects RX5 yX5_codeOf yX5_codeOf, Cond.code yX5_codeOf cX5_codeOf 4 (some .int), Cond.methodLink RX5 146 yX5_laid, Cond.static yX5_laid, Cond.code yX5_laid cX5_laid 4 (some .int), Cond.methodLink RL 289 yL_width, Cond.static yL_width, Cond.codeWith yL_width cL_width 4 (some .int) [(0, 10, 13, 19)], Cond.methodLink RL 131 yX3_width, Cond.instanceMethod yX3_width, Cond.selects RX3 yX3_width yX3_width, Cond.code yX3_width cX3_width 2 (some .int), Cond.methodLink RX3 149 yX1_reckonWidth, Cond.instanceMethod yX1_reckonWidth, Cond.selects RX1 yX1_reckonWidth yX1_reckonWidth, Cond.code yX1_reckonWidth cX1_reckonWidth 4 (some .int), Cond.methodLink RX1 68 yX1_signsOf]
def wsL_law0_r42 : List Cond := [Cond.static yX1_signsOf, Cond.code yX1_signsOf cX1_signsOf 1 (some .int), Cond.methodLink RL 291 yX5_width, Cond.instanceMethod yX5_width, Cond.selects RX5 yX5_width yX5_width, Cond.code yX5_width cX5_width 2 (some .int), Cond.methodLink RX5 154 yJ0_length_8abf5, Cond.methodLink RL 292 yL_count, Cond.static yL_count, Cond.codeWith yL_count cL_count 5 (some .int) [(0, 11, 14, 19), (0, 11, 18, 21)], Cond.methodLink RL 134 yX3_count, Cond.instanceMethod yX3_count, Cond.selects RX3 yX3_count yX3_count, Cond.code yX3_count cX3_count 4 (some .int), Cond.methodLink RL 294 yX5_count, Cond.instanceMethod yX5_count, Cond.selects RX5 yX5_count yX5_count, Cond.code yX5_count cX5_count 3 (some .int), Cond.methodLink RL 295 yL_extreme, Cond.static yL_extreme, Cond.codeWith yL_extreme cL_extreme 6 (some .int) [(0, 13, 16, 19)], Cond.methodLink RL 137 yX3_extreme, Cond.instanceMethod yX3_extreme, Cond.selects RX3 yX3_extreme yX3_extreme]
def wsL_law0_r43 : List Cond := [Cond.code yX3_extreme cX3_extreme 4 (some .int), Cond.methodLink RX3 152 yX1_outermost, Cond.instanceMethod yX1_outermost, Cond.selects RX1 yX1_outermost yX1_outermost, Cond.code yX1_outermost cX1_outermost 8 (some .int), Cond.methodLink RL 298 yX5_extreme, Cond.instanceMethod yX5_extreme, Cond.selects RX5 yX5_extreme yX5_extreme, Cond.code yX5_extreme cX5_extreme 4 (some .int), Cond.methodLink RX5 158 yX5_extremeOf, Cond.instanceMethod yX5_extremeOf, Cond.selects RX5 yX5_extremeOf yX5_extremeOf, Cond.code yX5_extremeOf cX5_extremeOf 7 (some .int), Cond.methodLink RL 299 yL_book, Cond.static yL_book, Cond.codeWith yL_book cL_book 7 (some .int) [(0, 15, 18, 19), (0, 15, 22, 21)], Cond.methodLink RL 141 yX3_book, Cond.instanceMethod yX3_book, Cond.selects RX3 yX3_book yX3_book, Cond.code yX3_book cX3_book 6 (some .int), Cond.methodLink RL 301 yX5_book, Cond.instanceMethod yX5_book, Cond.selects RX5 yX5_book yX5_book, Cond.code yX5_book cX5_book 5 (some .int)]
def wsL_law0_r44 : List Cond := [Cond.methodLink RL 302 yL_nothing, Cond.static yL_nothing, Cond.codeWith yL_nothing cL_nothing 5 (some .int) [(0, 11, 14, 19), (0, 11, 18, 21)], Cond.methodLink RL 144 yX3_nothing, Cond.instanceMethod yX3_nothing, Cond.selects RX3 yX3_nothing yX3_nothing, Cond.code yX3_nothing cX3_nothing 3 (some .int), Cond.methodLink RL 304 yX5_nothing, Cond.instanceMethod yX5_nothing, Cond.selects RX5 yX5_nothing yX5_nothing, Cond.code yX5_nothing cX5_nothing 3 (some .int), Cond.methodLink RL 305 yL_walk, Cond.static yL_walk, Cond.codeWith yL_walk cL_walk 5 (some .int) [(0, 11, 14, 19), (0, 11, 18, 21)], Cond.methodLink RL 147 yX3_walk, Cond.instanceMethod yX3_walk, Cond.selects RX3 yX3_walk yX3_walk, Cond.code yX3_walk cX3_walk 4 (some .int), Cond.methodLink RL 307 yX5_walk, Cond.instanceMethod yX5_walk, Cond.selects RX5 yX5_walk yX5_walk, Cond.code yX5_walk cX5_walk 3 (some .int), Cond.methodLink RL 308 yL_step, Cond.static yL_step]
def wsL_law0_r45 : List Cond := [Cond.codeWith yL_step cL_step 4 (some .int) [(0, 10, 13, 19), (0, 10, 16, 153)], Cond.classLink RL 153 "java/lang/IllegalStateException", Cond.methodLink RL 150 yX3_step, Cond.instanceMethod yX3_step, Cond.selects RX3 yX3_step yX3_step, Cond.code yX3_step cX3_step 3 (some .int), Cond.classLink RX3 166 "java/lang/IllegalStateException", Cond.initialized "java/lang/IllegalStateException", Cond.methodLink RX3 162 yX2_isThere, Cond.instanceMethod yX2_isThere, Cond.selects RX2 yX2_isThere yX2_isThere, Cond.code yX2_isThere cX2_isThere 1 (some .boolean), Cond.methodLink RX3 174 yX2_done, Cond.instanceMethod yX2_done, Cond.selects RX2 yX2_done yX2_done, Cond.code yX2_done cX2_done 1 (some .int), Cond.methodLink RL 310 yX5_step, Cond.instanceMethod yX5_step, Cond.selects RX5 yX5_step yX5_step, Cond.code yX5_step cX5_step 2 (some .int), Cond.methodLink RL 311 yL_hasStep, Cond.static yL_hasStep, Cond.codeWith yL_hasStep cL_hasStep 4 (some .int) [(0, 10, 13, 19)], Cond.methodLink RL 155 yX3_hasStep]
def wsL_law0_r46 : List Cond := [Cond.instanceMethod yX3_hasStep, Cond.selects RX3 yX3_hasStep yX3_hasStep, Cond.code yX3_hasStep cX3_hasStep 3 (some .int), Cond.methodLink RL 313 yX5_hasStep, Cond.instanceMethod yX5_hasStep, Cond.selects RX5 yX5_hasStep yX5_hasStep, Cond.code yX5_hasStep cX5_hasStep 2 (some .int), Cond.methodLink RX5 162 yX5_stepLeft, Cond.instanceMethod yX5_stepLeft, Cond.selects RX5 yX5_stepLeft yX5_stepLeft, Cond.code yX5_stepLeft cX5_stepLeft 2 (some .int), Cond.methodLink RL 314 yL_walked, Cond.static yL_walked, Cond.codeWith yL_walked cL_walked 4 (some .int) [(0, 10, 13, 19)], Cond.methodLink RL 158 yX3_walked, Cond.instanceMethod yX3_walked, Cond.selects RX3 yX3_walked yX3_walked, Cond.code yX3_walked cX3_walked 3 (some .int), Cond.methodLink RX3 177 yX3_hasStep, Cond.methodLink RL 316 yX5_walked, Cond.instanceMethod yX5_walked, Cond.selects RX5 yX5_walked yX5_walked, Cond.code yX5_walked cX5_walked 2 (some .int), Cond.methodLink RX5 165 yX5_walkedOver]
def wsL_law0_r47 : List Cond := [Cond.instanceMethod yX5_walkedOver, Cond.selects RX5 yX5_walkedOver yX5_walkedOver, Cond.code yX5_walkedOver cX5_walkedOver 2 (some .int), Cond.methodLink RL 317 yL_hold, Cond.static yL_hold, Cond.codeWith yL_hold cL_hold 5 (some .int) [(0, 11, 14, 19), (0, 11, 18, 21)], Cond.methodLink RL 161 yX3_hold, Cond.instanceMethod yX3_hold, Cond.selects RX3 yX3_hold yX3_hold, Cond.code yX3_hold cX3_hold 4 (some .int), Cond.methodLink RL 319 yX5_hold, Cond.instanceMethod yX5_hold, Cond.selects RX5 yX5_hold yX5_hold, Cond.code yX5_hold cX5_hold 3 (some .int), Cond.methodLink RL 320 yL_viewSize, Cond.static yL_viewSize, Cond.codeWith yL_viewSize cL_viewSize 4 (some .int) [(0, 10, 13, 19)], Cond.methodLink RL 164 yX3_viewSize, Cond.instanceMethod yX3_viewSize, Cond.selects RX3 yX3_viewSize yX3_viewSize, Cond.code yX3_viewSize cX3_viewSize 3 (some .int), Cond.methodLink RL 322 yX5_viewSize, Cond.instanceMethod yX5_viewSize, Cond.selects RX5 yX5_viewSize yX5_viewSize]
def wsL_law0_r48 : List Cond := [Cond.code yX5_viewSize cX5_viewSize 2 (some .int), Cond.methodLink RX5 168 yX5_shown, Cond.instanceMethod yX5_shown, Cond.selects RX5 yX5_shown yX5_shown, Cond.code yX5_shown cX5_shown 2 (some .int), Cond.methodLink RL 323 yL_viewHas, Cond.static yL_viewHas, Cond.codeWith yL_viewHas cL_viewHas 5 (some .int) [(0, 18, 21, 19), (0, 18, 25, 21), (0, 18, 29, 153)], Cond.methodLink RL 167 yX3_viewHas, Cond.instanceMethod yX3_viewHas, Cond.selects RX3 yX3_viewHas yX3_viewHas, Cond.code yX3_viewHas cX3_viewHas 4 (some .boolean), Cond.methodLink RX3 187 yX3_needView, Cond.static yX3_needView, Cond.code yX3_needView cX3_needView 1 none, Cond.methodLink RL 325 yX5_viewHas, Cond.instanceMethod yX5_viewHas, Cond.selects RX5 yX5_viewHas yX5_viewHas, Cond.code yX5_viewHas cX5_viewHas 3 (some .boolean), Cond.methodLink RX5 171 yX5_isNoView, Cond.instanceMethod yX5_isNoView, Cond.selects RX5 yX5_isNoView yX5_isNoView, Cond.code yX5_isNoView cX5_isNoView 2 (some .boolean), Cond.methodLink RX5 174 yX5_shownOften]
def wsL_law0_r49 : List Cond := [Cond.instanceMethod yX5_shownOften, Cond.selects RX5 yX5_shownOften yX5_shownOften, Cond.code yX5_shownOften cX5_shownOften 3 (some .int), Cond.methodLink RL 326 yL_viewTake, Cond.static yL_viewTake, Cond.codeWith yL_viewTake cL_viewTake 5 (some .int) [(0, 11, 14, 19), (0, 11, 18, 21), (0, 11, 22, 153)], Cond.methodLink RL 170 yX3_viewTake, Cond.instanceMethod yX3_viewTake, Cond.selects RX3 yX3_viewTake yX3_viewTake, Cond.code yX3_viewTake cX3_viewTake 4 (some .int), Cond.methodLink RL 328 yX5_viewTake, Cond.instanceMethod yX5_viewTake, Cond.selects RX5 yX5_viewTake yX5_viewTake, Cond.code yX5_viewTake cX5_viewTake 4 (some .int), Cond.methodLink RL 329 yL_viewSum, Cond.static yL_viewSum, Cond.codeWith yL_viewSum cL_viewSum 4 (some .int) [(0, 10, 13, 19), (0, 10, 16, 153)], Cond.methodLink RL 173 yX3_viewSum, Cond.instanceMethod yX3_viewSum, Cond.selects RX3 yX3_viewSum yX3_viewSum, Cond.code yX3_viewSum cX3_viewSum 3 (some .int), Cond.methodLink RL 331 yX5_viewSum, Cond.instanceMethod yX5_viewSum, Cond.selects RX5 yX5_viewSum yX5_viewSum]
def wsL_law0_r50 : List Cond := [Cond.code yX5_viewSum cX5_viewSum 2 (some .int), Cond.methodLink RL 332 yL_house, Cond.static yL_house, Cond.codeWith yL_house cL_house 4 (some .int) [(0, 10, 13, 21)], Cond.methodLink RL 176 yX3_house, Cond.instanceMethod yX3_house, Cond.selects RX3 yX3_house yX3_house, Cond.code yX3_house cX3_house 4 (some .int), Cond.fieldLink RX3 190 "Hashladder" "knocks" "I", Cond.methodLink RX3 193 yX3_shareInHouse, Cond.static yX3_shareInHouse, Cond.code yX3_shareInHouse cX3_shareInHouse 2 (some .int), Cond.methodLink RL 334 yX5_house, Cond.instanceMethod yX5_house, Cond.selects RX5 yX5_house yX5_house, Cond.code yX5_house cX5_house 2 (some .int), Cond.methodLink RX5 180 yX5_houseOf, Cond.instanceMethod yX5_houseOf, Cond.selects RX5 yX5_houseOf yX5_houseOf, Cond.code yX5_houseOf cX5_houseOf 4 (some .int), Cond.fieldLink RX5 177 "HashladderModel" "knocks" "I", Cond.methodLink RL 335 yX3_knock, Cond.instanceMethod yX3_knock, Cond.selects RX3 yX3_knock yX3_knock]
def wsL_law0_r51 : List Cond := [Cond.code yX3_knock cX3_knock 1 (some .int), Cond.methodLink RL 339 yX5_knock, Cond.instanceMethod yX5_knock, Cond.selects RX5 yX5_knock yX5_knock, Cond.code yX5_knock cX5_knock 1 (some .int), Cond.methodLink RL 340 yX3_isSound, Cond.instanceMethod yX3_isSound, Cond.selects RX3 yX3_isSound yX3_isSound, Cond.code yX3_isSound cX3_isSound 3 (some .boolean), Cond.methodLink RX3 196 yX3_isSoundAlone, Cond.instanceMethod yX3_isSoundAlone, Cond.selects RX3 yX3_isSoundAlone yX3_isSoundAlone, Cond.code yX3_isSoundAlone cX3_isSoundAlone 3 (some .boolean), Cond.methodLink RX3 253 yX0_fillFrom, Cond.instanceMethod yX0_fillFrom, Cond.selects RX0 yX0_fillFrom yX0_fillFrom, Cond.code yX0_fillFrom cX0_fillFrom 4 none, Cond.fieldLink RX0 18 "Hashladder$PairRow" "count" "I", Cond.methodLink RX0 22 yX1_worthAt, Cond.methodLink RX3 256 yX0_isToldBy, Cond.instanceMethod yX0_isToldBy, Cond.selects RX0 yX0_isToldBy yX0_isToldBy, Cond.code yX0_isToldBy cX0_isToldBy 3 (some .boolean), Cond.methodLink RX0 28 yX1_pairs]
def wsL_law0_r52 : List Cond := [Cond.methodLink RX0 32 yX1_timesOf, Cond.methodLink RX3 199 yX3_isSoundWith, Cond.static yX3_isSoundWith, Cond.code yX3_isSoundWith cX3_isSoundWith 3 (some .boolean), Cond.methodLink RL 344 yX5_isSound, Cond.instanceMethod yX5_isSound, Cond.selects RX5 yX5_isSound yX5_isSound, Cond.code yX5_isSound cX5_isSound 1 (some .boolean), Cond.methodLink RX5 183 yX5_isSoundNow, Cond.instanceMethod yX5_isSoundNow, Cond.selects RX5 yX5_isSoundNow yX5_isSoundNow, Cond.code yX5_isSoundNow cX5_isSoundNow 3 (some .boolean), Cond.methodLink RL 345 yX3_digest, Cond.instanceMethod yX3_digest, Cond.selects RX3 yX3_digest yX3_digest, Cond.code yX3_digest cX3_digest 5 (some .long), Cond.constantLong RX3 203 (7702), Cond.methodLink RX3 205 yX3_house, Cond.methodLink RX3 208 yX3_mix, Cond.static yX3_mix, Cond.code yX3_mix cX3_mix 4 (some .long), Cond.constantLong RX3 259 (31), Cond.methodLink RX3 212 yX3_mixTable, Cond.instanceMethod yX3_mixTable]
def wsL_law0_r53 : List Cond := [Cond.selects RX3 yX3_mixTable yX3_mixTable, Cond.code yX3_mixTable cX3_mixTable 7 (some .long), Cond.methodLink RX3 261 yX3_size, Cond.methodLink RX3 264 yJ4_length_8abf5, Cond.methodLink RX3 267 yJ4_charAt_5068e, Cond.instanceMethod yJ4_charAt_5068e, Cond.selects RJ4 yJ4_charAt_5068e yJ4_charAt_5068e, Cond.code yJ4_charAt_5068e cJ4_charAt_5068e 2 (some .char), Cond.methodLink RJ4 329 yJ5_charAt_5068e, Cond.sameMethod "java/lang/AbstractStringBuilder" "java/lang/AbstractStringBuilder" "charAt" "(I)C", Cond.instanceMethod yJ5_charAt_5068e, Cond.code yJ5_charAt_5068e cJ5_charAt_5068e 5 (some .char), Cond.methodLink RJ5 138 Lib.Math.min.name, Cond.methodLink RJ5 144 yJ0_checkIndex_df160, Cond.methodLink RJ5 148 yJ2_getChar_3b067, Cond.methodLink RX3 271 yX3_code, Cond.methodLink RX3 274 yX3_width, Cond.methodLink RX3 277 yX3_sum, Cond.methodLink RX3 280 yX3_extreme, Cond.methodLink RX3 284 yX3_walked, Cond.methodLink RX3 287 yX3_viewSize, Cond.methodLink RX3 216 yX3_mixTwo, Cond.instanceMethod yX3_mixTwo, Cond.selects RX3 yX3_mixTwo yX3_mixTwo]
def wsL_law0_r54 : List Cond := [Cond.code yX3_mixTwo cX3_mixTwo 8 (some .long), Cond.methodLink RX3 290 yX3_isSame, Cond.methodLink RX3 294 yX3_within, Cond.methodLink RX3 220 yX3_isSound, Cond.methodLink RL 349 yX5_digest, Cond.instanceMethod yX5_digest, Cond.selects RX5 yX5_digest yX5_digest, Cond.code yX5_digest cX5_digest 6 (some .long), Cond.constantLong RX5 188 (7702), Cond.methodLink RX5 190 yX5_add, Cond.static yX5_add, Cond.code yX5_add cX5_add 4 (some .long), Cond.constantLong RX5 186 (31), Cond.methodLink RX5 194 yJ0_charAt_5068e, Cond.instanceMethod yJ0_charAt_5068e, Cond.selects RJ0 yJ0_charAt_5068e yJ0_charAt_5068e, Cond.code yJ0_charAt_5068e cJ0_charAt_5068e 2 (some .char), Cond.methodLink RJ0 492 yJ0_isLatin1_aae02, Cond.instanceMethod yJ0_isLatin1_aae02, Cond.selects RJ0 yJ0_isLatin1_aae02 yJ0_isLatin1_aae02, Cond.code yJ0_isLatin1_aae02 cJ0_isLatin1_aae02 1 (some .boolean), Cond.methodLink RJ0 495 yJ1_charAt_3b067, Cond.static yJ1_charAt_3b067, Cond.code yJ1_charAt_3b067 cJ1_charAt_3b067 2 (some .char)]
def wsL_law0_r55 : List Cond := [Cond.methodLink RJ1 9 yJ0_checkIndex_df160, Cond.methodLink RJ0 498 yJ2_charAt_3b067, Cond.static yJ2_charAt_3b067, Cond.code yJ2_charAt_3b067 cJ2_charAt_3b067 2 (some .char)]
def wsL_law0 : List Cond := (wsL_law0_r1 ++ (wsL_law0_r2 ++ (wsL_law0_r3 ++ (wsL_law0_r4 ++ (wsL_law0_r5 ++ (wsL_law0_r6 ++ (wsL_law0_r7 ++ (wsL_law0_r8 ++ (wsL_law0_r9 ++ (wsL_law0_r10 ++ (wsL_law0_r11 ++ (wsL_law0_r12 ++ (wsL_law0_r13 ++ (wsL_law0_r14 ++ (wsL_law0_r15 ++ (wsL_law0_r16 ++ (wsL_law0_r17 ++ (wsL_law0_r18 ++ (wsL_law0_r19 ++ (wsL_law0_r20 ++ (wsL_law0_r21 ++ (wsL_law0_r22 ++ (wsL_law0_r23 ++ (wsL_law0_r24 ++ (wsL_law0_r25 ++ (wsL_law0_r26 ++ (wsL_law0_r27 ++ (wsL_law0_r28 ++ (wsL_law0_r29 ++ (wsL_law0_r30 ++ (wsL_law0_r31 ++ (wsL_law0_r32 ++ (wsL_law0_r33 ++ (wsL_law0_r34 ++ (wsL_law0_r35 ++ (wsL_law0_r36 ++ (wsL_law0_r37 ++ (wsL_law0_r38 ++ (wsL_law0_r39 ++ (wsL_law0_r40 ++ (wsL_law0_r41 ++ (wsL_law0_r42 ++ (wsL_law0_r43 ++ (wsL_law0_r44 ++ (wsL_law0_r45 ++ (wsL_law0_r46 ++ (wsL_law0_r47 ++ (wsL_law0_r48 ++ (wsL_law0_r49 ++ (wsL_law0_r50 ++ (wsL_law0_r51 ++ (wsL_law0_r52 ++ (wsL_law0_r53 ++ (wsL_law0_r54 ++ wsL_law0_r55)))))))))))))))))))))))))))))))))))))))))))))))))))))) ++ wsX30 ++ wsX50 ++ wsX40 ++ wsX10 ++ wsX00 ++ wsX20 ++ wsJ40 ++ wsJx7c7330 ++ wsJx000600 ++ wsJ00 ++ ([] : List Cond)
def wsL_law : List Cond := wsL_law0 ++ (vx_atM "java/lang/ArrayIndexOutOfBoundsException" ["java/lang/IndexOutOfBoundsException", "java/lang/RuntimeException", "java/lang/Exception"]).filter goodWord ++ (vx_atS RX3 227 "java/lang/IndexOutOfBoundsException" ["java/lang/RuntimeException", "java/lang/Exception"]).filter goodWord ++ (vx_atS RX3 108 "java/lang/IllegalArgumentException" ["java/lang/RuntimeException", "java/lang/Exception"]).filter goodWord ++ (vx_atS RX3 170 "java/lang/IllegalStateException" ["java/lang/RuntimeException", "java/lang/Exception"]).filter goodWord
set_option maxRecDepth 20000 in
theorem wsL_law_in0 : ∀ w ∈ wsL_law0, w ∈ lw_tbl := fun w h => (goodIn_p wsL_law0 [68, 71, 77, 83, 124, 142, 145, 151, 154, 1190, 1197, 802, 819, 412, 822, 320, 825, 246, 250, 266, 258, 217, 1223, 1226, 1229, 1232, 1235, 1239, 1243, 1247, 1251, 834, 1255, 842, 1259, 850, 1263, 857, 1267, 864, 1271, 871, 874, 878, 1275, 1278, 1281, 1285, 885, 1289, 892, 1293, 472, 899, 902, 490, 1298, 911, 915, 236, 220, 1303, 1307, 922, 228, 1311, 1315, 1318, 929, 254, 1322, 937, 940, 242, 262, 1326, 948, 1330, 956, 1334, 963, 1338, 970, 973, 287, 978, 1342, 1346, 1350, 985, 1354, 992, 996, 283, 1358, 1362, 1366, 1003, 1370, 1010, 1014, 1374, 1021, 1378, 1028, 1382, 1035, 1386, 1042, 1390, 796, 279, 1394, 1398, 408, 1402, 1057, 1406, 760, 764, 205, 209, 213, 232, 1410, 1413, 792, 275, 1417, 1421, 1072, 432, 436, 439, 462, 466, 469, 476, 480, 498, 671, 674, 677, 706, 711, 616, 618, 716, 719, 722, 546, 549, 552, 555, 507, 558, 561, 518, 725, 728, 731, 734, 737, 596, 601, 604, 610, 622, 625, 628, 639, 642, 645, 649, 1425, 1431, 451, 454, 458, 501, 504, 510, 515, 528, 532, 537, 541, 565, 1438, 571, 574, 577, 580, 587, 590, 752, 291, 1445, 1449, 1452, 756, 295, 298, 1456, 1088, 1462, 768, 772, 1466, 1470, 1099, 1474, 1106, 1478, 1113, 1482, 1121, 396, 224, 1486, 776, 1490, 1494, 780, 1498, 1502, 1152, 1506, 784, 1510, 1514, 1163, 1166, 1518, 1522, 1526, 1174, 1530, 1181, 1534, 317, 392, 1538, 1542, 193, 1546, 197, 201, 270, 302, 307, 1550, 1554, 312, 399, 404, 742, 745, 788, 1558, 1562, 1567, 1571, 1574, 1578] (by decide +kernel) (by decide +kernel) w h).1
theorem wsL_law_x0 : ∀ w ∈ (vx_atM "java/lang/ArrayIndexOutOfBoundsException" ["java/lang/IndexOutOfBoundsException", "java/lang/RuntimeException", "java/lang/Exception"]).filter goodWord, w ∈ lw_tbl := by decide +kernel
theorem wsL_law_x1 : ∀ w ∈ (vx_atS RX3 227 "java/lang/IndexOutOfBoundsException" ["java/lang/RuntimeException", "java/lang/Exception"]).filter goodWord, w ∈ lw_tbl := by decide +kernel
theorem wsL_law_x2 : ∀ w ∈ (vx_atS RX3 108 "java/lang/IllegalArgumentException" ["java/lang/RuntimeException", "java/lang/Exception"]).filter goodWord, w ∈ lw_tbl := by decide +kernel
theorem wsL_law_x3 : ∀ w ∈ (vx_atS RX3 170 "java/lang/IllegalStateException" ["java/lang/RuntimeException", "java/lang/Exception"]).filter goodWord, w ∈ lw_tbl := by decide +kernel
theorem wsL_law_in : ∀ w ∈ wsL_law, w ∈ lw_tbl := fun w h => (List.mem_append.mp h).elim (fun h => (List.mem_append.mp h).elim (fun h => (List.mem_append.mp h).elim (fun h => (List.mem_append.mp h).elim (fun h => wsL_law_in0 w h) (fun h => wsL_law_x0 w h)) (fun h => wsL_law_x1 w h)) (fun h => wsL_law_x2 w h)) (fun h => wsL_law_x3 w h)
theorem inlX0 : ∀ w ∈ wsX00, w ∈ wsL_law := fun _ h => List.mem_append_left _ (List.mem_append_left _ (List.mem_append_left _ (List.mem_append_left _ (List.mem_append_left _ (List.mem_append_left _ (List.mem_append_left _ (List.mem_append_left _ (List.mem_append_left _ (List.mem_append_left _ (List.mem_append_right _ h))))))))))
theorem inX0 : ∀ w ∈ wsX00, w ∈ lw_tbl := fun w h => wsL_law_in w (inlX0 w h)
theorem inlX1 : ∀ w ∈ wsX10, w ∈ wsL_law := fun _ h => List.mem_append_left _ (List.mem_append_left _ (List.mem_append_left _ (List.mem_append_left _ (List.mem_append_left _ (List.mem_append_left _ (List.mem_append_left _ (List.mem_append_left _ (List.mem_append_left _ (List.mem_append_left _ (List.mem_append_left _ (List.mem_append_right _ h)))))))))))
theorem inX1 : ∀ w ∈ wsX10, w ∈ lw_tbl := fun w h => wsL_law_in w (inlX1 w h)
theorem inlX2 : ∀ w ∈ wsX20, w ∈ wsL_law := fun _ h => List.mem_append_left _ (List.mem_append_left _ (List.mem_append_left _ (List.mem_append_left _ (List.mem_append_left _ (List.mem_append_left _ (List.mem_append_left _ (List.mem_append_left _ (List.mem_append_left _ (List.mem_append_right _ h)))))))))
theorem inX2 : ∀ w ∈ wsX20, w ∈ lw_tbl := fun w h => wsL_law_in w (inlX2 w h)
theorem inlX3 : ∀ w ∈ wsX30, w ∈ wsL_law := fun _ h => List.mem_append_left _ (List.mem_append_left _ (List.mem_append_left _ (List.mem_append_left _ (List.mem_append_left _ (List.mem_append_left _ (List.mem_append_left _ (List.mem_append_left _ (List.mem_append_left _ (List.mem_append_left _ (List.mem_append_left _ (List.mem_append_left _ (List.mem_append_left _ (List.mem_append_left _ (List.mem_append_right _ h))))))))))))))
theorem inX3 : ∀ w ∈ wsX30, w ∈ lw_tbl := fun w h => wsL_law_in w (inlX3 w h)
theorem inlX4 : ∀ w ∈ wsX40, w ∈ wsL_law := fun _ h => List.mem_append_left _ (List.mem_append_left _ (List.mem_append_left _ (List.mem_append_left _ (List.mem_append_left _ (List.mem_append_left _ (List.mem_append_left _ (List.mem_append_left _ (List.mem_append_left _ (List.mem_append_left _ (List.mem_append_left _ (List.mem_append_left _ (List.mem_append_right _ h))))))))))))
theorem inX4 : ∀ w ∈ wsX40, w ∈ lw_tbl := fun w h => wsL_law_in w (inlX4 w h)
theorem inlX5 : ∀ w ∈ wsX50, w ∈ wsL_law := fun _ h => List.mem_append_left _ (List.mem_append_left _ (List.mem_append_left _ (List.mem_append_left _ (List.mem_append_left _ (List.mem_append_left _ (List.mem_append_left _ (List.mem_append_left _ (List.mem_append_left _ (List.mem_append_left _ (List.mem_append_left _ (List.mem_append_left _ (List.mem_append_left _ (List.mem_append_right _ h)))))))))))))
theorem inX5 : ∀ w ∈ wsX50, w ∈ lw_tbl := fun w h => wsL_law_in w (inlX5 w h)
theorem inlJ0 : ∀ w ∈ wsJ00, w ∈ wsL_law := fun _ h => List.mem_append_left _ (List.mem_append_left _ (List.mem_append_left _ (List.mem_append_left _ (List.mem_append_left _ (List.mem_append_right _ h)))))
theorem inJ0 : ∀ w ∈ wsJ00, w ∈ lw_tbl := fun w h => wsL_law_in w (inlJ0 w h)
theorem inlJ4 : ∀ w ∈ wsJ40, w ∈ wsL_law := fun _ h => List.mem_append_left _ (List.mem_append_left _ (List.mem_append_left _ (List.mem_append_left _ (List.mem_append_left _ (List.mem_append_left _ (List.mem_append_left _ (List.mem_append_left _ (List.mem_append_right _ h))))))))
theorem inJ4 : ∀ w ∈ wsJ40, w ∈ lw_tbl := fun w h => wsL_law_in w (inlJ4 w h)
set_option maxRecDepth 20000 in
theorem ggX1_init_X2_init : GoodIn wsX1_init wsX2_init := goodIn_r _ [13, 14, 2, 3] (by decide +kernel) (by decide +kernel)
set_option maxRecDepth 20000 in
theorem gX1_init_X2_init_n20 : GoodIn wsX1_init (wsX2_init) := ggX1_init_X2_init
set_option maxRecDepth 20000 in
theorem ggX3_init_X2_init : GoodIn wsX3_init wsX2_init := goodIn_r _ [32, 33, 2, 3] (by decide +kernel) (by decide +kernel)
set_option maxRecDepth 20000 in
theorem gX3_init_X2_init_n29 : GoodIn wsX3_init (wsX2_init) := ggX3_init_X2_init
set_option maxRecDepth 20000 in
theorem ggL_put_X3_put : GoodIn wsL_put wsX3_put := goodIn_ca (goodIn_ca (goodIn_ca (goodIn_r _ [7, 8, 9, 10, 6, 11, 12, 13, 14, 15, 16, 17, 18, 19, 20, 21, 22, 23, 24, 25, 26, 27, 28, 29, 30, 31, 32, 33, 34, 35, 36, 37, 38, 39, 40, 41, 42, 43, 44, 45, 46, 47, 48, 49, 50, 51, 52, 55, 56, 57, 58, 59, 60, 61, 62, 63, 64, 65, 66, 67, 68, 69, 70] (by decide +kernel) (by decide +kernel)) (goodIn_sub (fun _ h => List.mem_cons_of_mem _ (List.mem_append_left _ (List.mem_append_left _ (List.mem_append_right _ h)))) (by decide +kernel))) (goodIn_sub (fun _ h => List.mem_cons_of_mem _ (List.mem_append_left _ (List.mem_append_right _ h))) (by decide +kernel))) (goodIn_sub (fun _ h => List.mem_cons_of_mem _ (List.mem_append_right _ h)) (by decide +kernel))
set_option maxRecDepth 20000 in
theorem gL_put_X3_put : GoodIn wsL_put (wsV RL 7 RX3 yX3_put wsX3_put) := goodIn_app (goodIn_of _ (by decide +kernel)) ggL_put_X3_put
theorem dL_put_0 : decode cL_put 0 = .ok (.aload 4, 2) := by decide +kernel
theorem dL_put_2 : decode cL_put 2 = .ok (.aload_n 0, 1) := by decide +kernel
theorem dL_put_3 : decode cL_put 3 = .ok (.iload_n 1, 1) := by decide +kernel
theorem dL_put_4 : decode cL_put 4 = .ok (.iload_n 2, 1) := by decide +kernel
theorem dL_put_5 : decode cL_put 5 = .ok (.iload_n 3, 1) := by decide +kernel
theorem dL_put_6 : decode cL_put 6 = .ok (.invokevirtual 7, 3) := by decide +kernel
theorem dL_put_9 : decode cL_put 9 = .ok (.i2l, 1) := by decide +kernel
theorem dL_put_10 : decode cL_put 10 = .ok (.putfield 13, 3) := by decide +kernel
theorem dL_put_13 : decode cL_put 13 = .ok (.goto 11, 3) := by decide +kernel
theorem dL_put_16 : decode cL_put 16 = .ok (.astore 5, 2) := by decide +kernel
theorem dL_put_18 : decode cL_put 18 = .ok (.iconst 1, 1) := by decide +kernel
theorem dL_put_19 : decode cL_put 19 = .ok (.ireturn, 1) := by decide +kernel
theorem dL_put_20 : decode cL_put 20 = .ok (.astore 5, 2) := by decide +kernel
theorem dL_put_22 : decode cL_put 22 = .ok (.iconst 2, 1) := by decide +kernel
theorem dL_put_23 : decode cL_put 23 = .ok (.ireturn, 1) := by decide +kernel
theorem dL_put_24 : decode cL_put 24 = .ok (.iconst 0, 1) := by decide +kernel
theorem dL_put_25 : decode cL_put 25 = .ok (.ireturn, 1) := by decide +kernel
set_option maxRecDepth 20000 in
theorem ggL_width_X3_width : GoodIn wsL_width wsX3_width := goodIn_ca (goodIn_ca (goodIn_r _ [6, 7, 8, 9, 5, 10, 11, 12, 13, 14, 15, 16, 17, 18, 19, 20, 21, 22, 23, 24, 25, 26, 27, 30, 31, 32, 33, 34, 35, 36, 37, 38, 39, 40] (by decide +kernel) (by decide +kernel)) (goodIn_sub (fun _ h => List.mem_cons_of_mem _ (List.mem_append_left _ (List.mem_append_right _ h))) (by decide +kernel))) (goodIn_sub (fun _ h => List.mem_cons_of_mem _ (List.mem_append_right _ h)) (by decide +kernel))
set_option maxRecDepth 20000 in
theorem gL_width_X3_width : GoodIn wsL_width (wsV RL 131 RX3 yX3_width wsX3_width) := goodIn_app (goodIn_of _ (by decide +kernel)) ggL_width_X3_width
theorem dL_width_0 : decode cL_width 0 = .ok (.aload_n 2, 1) := by decide +kernel
theorem dL_width_1 : decode cL_width 1 = .ok (.aload_n 0, 1) := by decide +kernel
theorem dL_width_2 : decode cL_width 2 = .ok (.iload_n 1, 1) := by decide +kernel
theorem dL_width_3 : decode cL_width 3 = .ok (.invokevirtual 131, 3) := by decide +kernel
theorem dL_width_6 : decode cL_width 6 = .ok (.i2l, 1) := by decide +kernel
theorem dL_width_7 : decode cL_width 7 = .ok (.putfield 13, 3) := by decide +kernel
theorem dL_width_10 : decode cL_width 10 = .ok (.goto 6, 3) := by decide +kernel
theorem dL_width_13 : decode cL_width 13 = .ok (.astore_n 3, 1) := by decide +kernel
theorem dL_width_14 : decode cL_width 14 = .ok (.iconst 1, 1) := by decide +kernel
theorem dL_width_15 : decode cL_width 15 = .ok (.ireturn, 1) := by decide +kernel
theorem dL_width_16 : decode cL_width 16 = .ok (.iconst 0, 1) := by decide +kernel
theorem dL_width_17 : decode cL_width 17 = .ok (.ireturn, 1) := by decide +kernel
theorem dL_law_0 : decode cL_law 0 = .ok (.new 8, 3) := by decide +kernel
theorem dL_law_3 : decode cL_law 3 = .ok (.dup, 1) := by decide +kernel
theorem dL_law_4 : decode cL_law 4 = .ok (.invokespecial 179, 3) := by decide +kernel
theorem dL_law_7 : decode cL_law 7 = .ok (.astore_n 1, 1) := by decide +kernel
theorem dL_law_8 : decode cL_law 8 = .ok (.new 180, 3) := by decide +kernel
theorem dL_law_11 : decode cL_law 11 = .ok (.dup, 1) := by decide +kernel
theorem dL_law_12 : decode cL_law 12 = .ok (.invokespecial 182, 3) := by decide +kernel
theorem dL_law_15 : decode cL_law 15 = .ok (.astore_n 2, 1) := by decide +kernel
theorem dL_law_16 : decode cL_law 16 = .ok (.new 14, 3) := by decide +kernel
theorem dL_law_19 : decode cL_law 19 = .ok (.dup, 1) := by decide +kernel
theorem dL_law_20 : decode cL_law 20 = .ok (.invokespecial 183, 3) := by decide +kernel
theorem dL_law_23 : decode cL_law 23 = .ok (.astore_n 3, 1) := by decide +kernel
theorem dL_law_24 : decode cL_law 24 = .ok (.iconst 0, 1) := by decide +kernel
theorem dL_law_25 : decode cL_law 25 = .ok (.istore 4, 2) := by decide +kernel
theorem dL_law_27 : decode cL_law 27 = .ok (.iload 4, 2) := by decide +kernel
theorem dL_law_29 : decode cL_law 29 = .ok (.aload_n 0, 1) := by decide +kernel
theorem dL_law_30 : decode cL_law 30 = .ok (.arraylength, 1) := by decide +kernel
theorem dL_law_31 : decode cL_law 31 = .ok (.iconst 5, 1) := by decide +kernel
theorem dL_law_32 : decode cL_law 32 = .ok (.isub, 1) := by decide +kernel
theorem dL_law_33 : decode cL_law 33 = .ok (.if_icmp .gt 2356, 3) := by decide +kernel
theorem dL_law_36 : decode cL_law 36 = .ok (.aload_n 0, 1) := by decide +kernel
theorem dL_law_37 : decode cL_law 37 = .ok (.iload 4, 2) := by decide +kernel
theorem dL_law_39 : decode cL_law 39 = .ok (.iaload, 1) := by decide +kernel
theorem dL_law_40 : decode cL_law 40 = .ok (.bipush 63, 2) := by decide +kernel
theorem dL_law_42 : decode cL_law 42 = .ok (.iand, 1) := by decide +kernel
theorem dL_law_43 : decode cL_law 43 = .ok (.tableswitch 2340 0 50 #[217, 269, 321, 361, 413, 465, 529, 581, 633, 685, 749, 801, 841, 881, 921, 961, 1001, 1041, 1081, 1121, 1173, 1225, 1277, 1317, 1369, 1421, 1473, 1525, 1553, 1581, 1621, 1661, 1689, 1717, 1745, 1785, 1869, 1933, 1973, 2013, 2041, 2069, 2097, 2137, 2165, 2205, 2245, 2273, 2301, 2314, 2327], 217) := by decide +kernel
theorem dL_law_260 : decode cL_law 260 = .ok (.aload_n 1, 1) := by decide +kernel
theorem dL_law_261 : decode cL_law 261 = .ok (.aload_n 0, 1) := by decide +kernel
theorem dL_law_262 : decode cL_law 262 = .ok (.iload 4, 2) := by decide +kernel
theorem dL_law_264 : decode cL_law 264 = .ok (.iconst 1, 1) := by decide +kernel
theorem dL_law_265 : decode cL_law 265 = .ok (.iadd, 1) := by decide +kernel
theorem dL_law_266 : decode cL_law 266 = .ok (.iaload, 1) := by decide +kernel
theorem dL_law_267 : decode cL_law 267 = .ok (.aload_n 0, 1) := by decide +kernel
theorem dL_law_268 : decode cL_law 268 = .ok (.iload 4, 2) := by decide +kernel
theorem dL_law_270 : decode cL_law 270 = .ok (.iconst 2, 1) := by decide +kernel
theorem dL_law_271 : decode cL_law 271 = .ok (.iadd, 1) := by decide +kernel
theorem dL_law_272 : decode cL_law 272 = .ok (.iaload, 1) := by decide +kernel
theorem dL_law_273 : decode cL_law 273 = .ok (.aload_n 0, 1) := by decide +kernel
theorem dL_law_274 : decode cL_law 274 = .ok (.iload 4, 2) := by decide +kernel
theorem dL_law_276 : decode cL_law 276 = .ok (.iconst 3, 1) := by decide +kernel
theorem dL_law_277 : decode cL_law 277 = .ok (.iadd, 1) := by decide +kernel
theorem dL_law_278 : decode cL_law 278 = .ok (.iaload, 1) := by decide +kernel
theorem dL_law_279 : decode cL_law 279 = .ok (.aload_n 3, 1) := by decide +kernel
theorem dL_law_280 : decode cL_law 280 = .ok (.invokestatic 184, 3) := by decide +kernel
theorem dL_law_283 : decode cL_law 283 = .ok (.istore 5, 2) := by decide +kernel
theorem dL_law_285 : decode cL_law 285 = .ok (.aload_n 2, 1) := by decide +kernel
theorem dL_law_286 : decode cL_law 286 = .ok (.aload_n 0, 1) := by decide +kernel
theorem dL_law_287 : decode cL_law 287 = .ok (.iload 4, 2) := by decide +kernel
theorem dL_law_289 : decode cL_law 289 = .ok (.iconst 1, 1) := by decide +kernel
theorem dL_law_290 : decode cL_law 290 = .ok (.iadd, 1) := by decide +kernel
theorem dL_law_291 : decode cL_law 291 = .ok (.iaload, 1) := by decide +kernel
theorem dL_law_292 : decode cL_law 292 = .ok (.aload_n 0, 1) := by decide +kernel
theorem dL_law_293 : decode cL_law 293 = .ok (.iload 4, 2) := by decide +kernel
theorem dL_law_295 : decode cL_law 295 = .ok (.iconst 2, 1) := by decide +kernel
theorem dL_law_296 : decode cL_law 296 = .ok (.iadd, 1) := by decide +kernel
theorem dL_law_297 : decode cL_law 297 = .ok (.iaload, 1) := by decide +kernel
theorem dL_law_298 : decode cL_law 298 = .ok (.aload_n 0, 1) := by decide +kernel
theorem dL_law_299 : decode cL_law 299 = .ok (.iload 4, 2) := by decide +kernel
theorem dL_law_301 : decode cL_law 301 = .ok (.iconst 3, 1) := by decide +kernel
theorem dL_law_302 : decode cL_law 302 = .ok (.iadd, 1) := by decide +kernel
theorem dL_law_303 : decode cL_law 303 = .ok (.iaload, 1) := by decide +kernel
theorem dL_law_304 : decode cL_law 304 = .ok (.invokevirtual 189, 3) := by decide +kernel
theorem dL_law_307 : decode cL_law 307 = .ok (.istore 6, 2) := by decide +kernel
theorem dL_law_309 : decode cL_law 309 = .ok (.goto 2074, 3) := by decide +kernel
theorem dL_law_1760 : decode cL_law 1760 = .ok (.aload_n 1, 1) := by decide +kernel
theorem dL_law_1761 : decode cL_law 1761 = .ok (.aload_n 0, 1) := by decide +kernel
theorem dL_law_1762 : decode cL_law 1762 = .ok (.iload 4, 2) := by decide +kernel
theorem dL_law_1764 : decode cL_law 1764 = .ok (.iconst 1, 1) := by decide +kernel
theorem dL_law_1765 : decode cL_law 1765 = .ok (.iadd, 1) := by decide +kernel
theorem dL_law_1766 : decode cL_law 1766 = .ok (.iaload, 1) := by decide +kernel
theorem dL_law_1767 : decode cL_law 1767 = .ok (.aload_n 3, 1) := by decide +kernel
theorem dL_law_1768 : decode cL_law 1768 = .ok (.invokestatic 289, 3) := by decide +kernel
theorem dL_law_1771 : decode cL_law 1771 = .ok (.istore 5, 2) := by decide +kernel
theorem dL_law_1773 : decode cL_law 1773 = .ok (.aload_n 2, 1) := by decide +kernel
theorem dL_law_1774 : decode cL_law 1774 = .ok (.aload_n 0, 1) := by decide +kernel
theorem dL_law_1775 : decode cL_law 1775 = .ok (.iload 4, 2) := by decide +kernel
theorem dL_law_1777 : decode cL_law 1777 = .ok (.iconst 1, 1) := by decide +kernel
theorem dL_law_1778 : decode cL_law 1778 = .ok (.iadd, 1) := by decide +kernel
theorem dL_law_1779 : decode cL_law 1779 = .ok (.iaload, 1) := by decide +kernel
theorem dL_law_1780 : decode cL_law 1780 = .ok (.invokevirtual 291, 3) := by decide +kernel
theorem dL_law_1783 : decode cL_law 1783 = .ok (.istore 6, 2) := by decide +kernel
theorem dL_law_1785 : decode cL_law 1785 = .ok (.goto 598, 3) := by decide +kernel
theorem dL_law_2383 : decode cL_law 2383 = .ok (.iinc 4 5, 3) := by decide +kernel
theorem dL_law_2386 : decode cL_law 2386 = .ok (.goto (-2359), 3) := by decide +kernel
theorem dL_law_2389 : decode cL_law 2389 = .ok (.iconst 1, 1) := by decide +kernel
theorem dL_law_2390 : decode cL_law 2390 = .ok (.ireturn, 1) := by decide +kernel
