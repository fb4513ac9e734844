-- ===== PART A: goes FIRST, ahead of the names: the tables' words, and 'selects' of the private methods out of them =====
/-- a private method of a class that the tables say can be made, by its rows of tables_1 -/
def lw_okq (q : MethodName × Nat) : Prop := (q.1.cls ≠ "java/lang/invoke/MethodHandle" ∧ q.1.cls ≠ "java/lang/invoke/VarHandle") ∧ Cond.instantiable q.1.cls q.2 ∈ tables_1 ∧ Cond.privateMethod q.1 ∈ tables_1 ∧ Cond.instanceMethod q.1 ∈ tables_1
theorem lw_p0 : lw_okq (⟨"DarkRing", "trayAt", "(I)LDarkRing$Tray;"⟩, 18) := ⟨⟨by decide +kernel, by decide +kernel⟩, List.mem_of_getElem? (i := 23) (by decide +kernel), List.mem_of_getElem? (i := 561) (by decide +kernel), List.mem_of_getElem? (i := 562) (by decide +kernel)⟩
theorem lw_p1 : lw_okq (⟨"DarkRing", "refused", "(I)Z"⟩, 18) := ⟨⟨by decide +kernel, by decide +kernel⟩, List.mem_of_getElem? (i := 23) (by decide +kernel), List.mem_of_getElem? (i := 565) (by decide +kernel), List.mem_of_getElem? (i := 566) (by decide +kernel)⟩
theorem lw_p2 : lw_okq (⟨"DarkRing", "done", "()Z"⟩, 18) := ⟨⟨by decide +kernel, by decide +kernel⟩, List.mem_of_getElem? (i := 23) (by decide +kernel), List.mem_of_getElem? (i := 576) (by decide +kernel), List.mem_of_getElem? (i := 577) (by decide +kernel)⟩
theorem lw_p3 : lw_okq (⟨"DarkRing$Tray", "cut", "(J)J"⟩, 3) := ⟨⟨by decide +kernel, by decide +kernel⟩, List.mem_of_getElem? (i := 472) (by decide +kernel), List.mem_of_getElem? (i := 596) (by decide +kernel), List.mem_of_getElem? (i := 597) (by decide +kernel)⟩
theorem lw_p4 : lw_okq (⟨"DarkRing", "none", "(I)I"⟩, 18) := ⟨⟨by decide +kernel, by decide +kernel⟩, List.mem_of_getElem? (i := 23) (by decide +kernel), List.mem_of_getElem? (i := 607) (by decide +kernel), List.mem_of_getElem? (i := 608) (by decide +kernel)⟩
theorem lw_p5 : lw_okq (⟨"DarkRing$Text", "byteAt", "(I)I"⟩, 11) := ⟨⟨by decide +kernel, by decide +kernel⟩, List.mem_of_getElem? (i := 33) (by decide +kernel), List.mem_of_getElem? (i := 658) (by decide +kernel), List.mem_of_getElem? (i := 659) (by decide +kernel)⟩
theorem lw_p6 : lw_okq (⟨"DarkRing$Text", "readLetters", "()V"⟩, 11) := ⟨⟨by decide +kernel, by decide +kernel⟩, List.mem_of_getElem? (i := 33) (by decide +kernel), List.mem_of_getElem? (i := 668) (by decide +kernel), List.mem_of_getElem? (i := 669) (by decide +kernel)⟩
theorem lw_p7 : lw_okq (⟨"DarkRing$Text", "readDigits", "()V"⟩, 11) := ⟨⟨by decide +kernel, by decide +kernel⟩, List.mem_of_getElem? (i := 33) (by decide +kernel), List.mem_of_getElem? (i := 677) (by decide +kernel), List.mem_of_getElem? (i := 678) (by decide +kernel)⟩
theorem lw_p8 : lw_okq (⟨"DarkRing$HouseReader", "readPart", "()Z"⟩, 10) := ⟨⟨by decide +kernel, by decide +kernel⟩, List.mem_of_getElem? (i := 242) (by decide +kernel), List.mem_of_getElem? (i := 693) (by decide +kernel), List.mem_of_getElem? (i := 694) (by decide +kernel)⟩
theorem lw_p9 : lw_okq (⟨"DarkRing$HouseReader", "readFeature", "()Z"⟩, 10) := ⟨⟨by decide +kernel, by decide +kernel⟩, List.mem_of_getElem? (i := 242) (by decide +kernel), List.mem_of_getElem? (i := 750) (by decide +kernel), List.mem_of_getElem? (i := 751) (by decide +kernel)⟩
theorem lw_p10 : lw_okq (⟨"DarkRing$HouseReader", "takeNewName", "()J"⟩, 10) := ⟨⟨by decide +kernel, by decide +kernel⟩, List.mem_of_getElem? (i := 242) (by decide +kernel), List.mem_of_getElem? (i := 759) (by decide +kernel), List.mem_of_getElem? (i := 760) (by decide +kernel)⟩
theorem lw_p11 : lw_okq (⟨"DarkRing$HouseReader", "isTaken", "(J)Z"⟩, 10) := ⟨⟨by decide +kernel, by decide +kernel⟩, List.mem_of_getElem? (i := 242) (by decide +kernel), List.mem_of_getElem? (i := 783) (by decide +kernel), List.mem_of_getElem? (i := 784) (by decide +kernel)⟩
theorem lw_p12 : lw_okq (⟨"DarkRing$HouseReader", "readFeels", "()Z"⟩, 10) := ⟨⟨by decide +kernel, by decide +kernel⟩, List.mem_of_getElem? (i := 242) (by decide +kernel), List.mem_of_getElem? (i := 825) (by decide +kernel), List.mem_of_getElem? (i := 826) (by decide +kernel)⟩
theorem lw_p13 : lw_okq (⟨"DarkRing$HouseReader", "thingHere", "([JI)I"⟩, 10) := ⟨⟨by decide +kernel, by decide +kernel⟩, List.mem_of_getElem? (i := 242) (by decide +kernel), List.mem_of_getElem? (i := 829) (by decide +kernel), List.mem_of_getElem? (i := 830) (by decide +kernel)⟩
theorem lw_p14 : lw_okq (⟨"DarkRing$HouseReader", "readKey", "()Z"⟩, 10) := ⟨⟨by decide +kernel, by decide +kernel⟩, List.mem_of_getElem? (i := 242) (by decide +kernel), List.mem_of_getElem? (i := 848) (by decide +kernel), List.mem_of_getElem? (i := 849) (by decide +kernel)⟩
theorem lw_p15 : lw_okq (⟨"DarkRing$HouseReader", "readRing", "()Z"⟩, 10) := ⟨⟨by decide +kernel, by decide +kernel⟩, List.mem_of_getElem? (i := 242) (by decide +kernel), List.mem_of_getElem? (i := 857) (by decide +kernel), List.mem_of_getElem? (i := 858) (by decide +kernel)⟩
def lw_privs_1 : List (MethodName × Nat) := [(⟨"DarkRing", "trayAt", "(I)LDarkRing$Tray;"⟩, 18), (⟨"DarkRing", "refused", "(I)Z"⟩, 18), (⟨"DarkRing", "done", "()Z"⟩, 18), (⟨"DarkRing$Tray", "cut", "(J)J"⟩, 3), (⟨"DarkRing", "none", "(I)I"⟩, 18), (⟨"DarkRing$Text", "byteAt", "(I)I"⟩, 11), (⟨"DarkRing$Text", "readLetters", "()V"⟩, 11), (⟨"DarkRing$Text", "readDigits", "()V"⟩, 11), (⟨"DarkRing$HouseReader", "readPart", "()Z"⟩, 10), (⟨"DarkRing$HouseReader", "readFeature", "()Z"⟩, 10), (⟨"DarkRing$HouseReader", "takeNewName", "()J"⟩, 10), (⟨"DarkRing$HouseReader", "isTaken", "(J)Z"⟩, 10), (⟨"DarkRing$HouseReader", "readFeels", "()Z"⟩, 10), (⟨"DarkRing$HouseReader", "thingHere", "([JI)I"⟩, 10), (⟨"DarkRing$HouseReader", "readKey", "()Z"⟩, 10), (⟨"DarkRing$HouseReader", "readRing", "()Z"⟩, 10)]
theorem lw_r1 : ∀ q ∈ lw_privs_1, lw_okq q := List.forall_mem_cons.mpr ⟨lw_p0, List.forall_mem_cons.mpr ⟨lw_p1, List.forall_mem_cons.mpr ⟨lw_p2, List.forall_mem_cons.mpr ⟨lw_p3, List.forall_mem_cons.mpr ⟨lw_p4, List.forall_mem_cons.mpr ⟨lw_p5, List.forall_mem_cons.mpr ⟨lw_p6, List.forall_mem_cons.mpr ⟨lw_p7, List.forall_mem_cons.mpr ⟨lw_p8, List.forall_mem_cons.mpr ⟨lw_p9, List.forall_mem_cons.mpr ⟨lw_p10, List.forall_mem_cons.mpr ⟨lw_p11, List.forall_mem_cons.mpr ⟨lw_p12, List.forall_mem_cons.mpr ⟨lw_p13, List.forall_mem_cons.mpr ⟨lw_p14, List.forall_mem_cons.mpr ⟨lw_p15, fun _ h => absurd h List.not_mem_nil⟩⟩⟩⟩⟩⟩⟩⟩⟩⟩⟩⟩⟩⟩⟩⟩
theorem lw_p16 : lw_okq (⟨"DarkRing$HouseReader", "readDoor", "()Z"⟩, 10) := ⟨⟨by decide +kernel, by decide +kernel⟩, List.mem_of_getElem? (i := 242) (by decide +kernel), List.mem_of_getElem? (i := 886) (by decide +kernel), List.mem_of_getElem? (i := 887) (by decide +kernel)⟩
theorem lw_p17 : lw_okq (⟨"DarkRing$HouseReader", "readSeconds", "()Z"⟩, 10) := ⟨⟨by decide +kernel, by decide +kernel⟩, List.mem_of_getElem? (i := 242) (by decide +kernel), List.mem_of_getElem? (i := 917) (by decide +kernel), List.mem_of_getElem? (i := 918) (by decide +kernel)⟩
theorem lw_p18 : lw_okq (⟨"DarkRing$HouseReader", "readTurned", "()Z"⟩, 10) := ⟨⟨by decide +kernel, by decide +kernel⟩, List.mem_of_getElem? (i := 242) (by decide +kernel), List.mem_of_getElem? (i := 929) (by decide +kernel), List.mem_of_getElem? (i := 930) (by decide +kernel)⟩
theorem lw_p19 : lw_okq (⟨"DarkRing$HouseReader", "readRound", "()Z"⟩, 10) := ⟨⟨by decide +kernel, by decide +kernel⟩, List.mem_of_getElem? (i := 242) (by decide +kernel), List.mem_of_getElem? (i := 934) (by decide +kernel), List.mem_of_getElem? (i := 935) (by decide +kernel)⟩
theorem lw_p20 : lw_okq (⟨"DarkRing", "told", "(I)I"⟩, 18) := ⟨⟨by decide +kernel, by decide +kernel⟩, List.mem_of_getElem? (i := 23) (by decide +kernel), List.mem_of_getElem? (i := 950) (by decide +kernel), List.mem_of_getElem? (i := 951) (by decide +kernel)⟩
theorem lw_p21 : lw_okq (⟨"DarkRing$RuleReader", "readStep", "()Z"⟩, 5) := ⟨⟨by decide +kernel, by decide +kernel⟩, List.mem_of_getElem? (i := 282) (by decide +kernel), List.mem_of_getElem? (i := 967) (by decide +kernel), List.mem_of_getElem? (i := 968) (by decide +kernel)⟩
theorem lw_p22 : lw_okq (⟨"DarkRing$RuleReader", "readEnd", "()Z"⟩, 5) := ⟨⟨by decide +kernel, by decide +kernel⟩, List.mem_of_getElem? (i := 282) (by decide +kernel), List.mem_of_getElem? (i := 973) (by decide +kernel), List.mem_of_getElem? (i := 974) (by decide +kernel)⟩
theorem lw_p23 : lw_okq (⟨"DarkRing$RuleReader", "plainKind", "()I"⟩, 5) := ⟨⟨by decide +kernel, by decide +kernel⟩, List.mem_of_getElem? (i := 282) (by decide +kernel), List.mem_of_getElem? (i := 992) (by decide +kernel), List.mem_of_getElem? (i := 993) (by decide +kernel)⟩
theorem lw_p24 : lw_okq (⟨"DarkRing$RuleReader", "readLoop", "()Z"⟩, 5) := ⟨⟨by decide +kernel, by decide +kernel⟩, List.mem_of_getElem? (i := 282) (by decide +kernel), List.mem_of_getElem? (i := 1002) (by decide +kernel), List.mem_of_getElem? (i := 1003) (by decide +kernel)⟩
theorem lw_p25 : lw_okq (⟨"DarkRing$RuleReader", "beginBlock", "()Z"⟩, 5) := ⟨⟨by decide +kernel, by decide +kernel⟩, List.mem_of_getElem? (i := 282) (by decide +kernel), List.mem_of_getElem? (i := 1007) (by decide +kernel), List.mem_of_getElem? (i := 1008) (by decide +kernel)⟩
theorem lw_p26 : lw_okq (⟨"DarkRing$RuleReader", "readWhen", "()Z"⟩, 5) := ⟨⟨by decide +kernel, by decide +kernel⟩, List.mem_of_getElem? (i := 282) (by decide +kernel), List.mem_of_getElem? (i := 1012) (by decide +kernel), List.mem_of_getElem? (i := 1013) (by decide +kernel)⟩
theorem lw_p27 : lw_okq (⟨"DarkRing$RuleReader", "takeFeature", "()I"⟩, 5) := ⟨⟨by decide +kernel, by decide +kernel⟩, List.mem_of_getElem? (i := 282) (by decide +kernel), List.mem_of_getElem? (i := 1017) (by decide +kernel), List.mem_of_getElem? (i := 1018) (by decide +kernel)⟩
theorem lw_p28 : lw_okq (⟨"DarkRing$RuleReader", "readPlain", "(I)Z"⟩, 5) := ⟨⟨by decide +kernel, by decide +kernel⟩, List.mem_of_getElem? (i := 282) (by decide +kernel), List.mem_of_getElem? (i := 1034) (by decide +kernel), List.mem_of_getElem? (i := 1035) (by decide +kernel)⟩
theorem lw_p29 : lw_okq (⟨"DarkRing", "isOrderOf", "(LDarkRing$Tray;I)Z"⟩, 18) := ⟨⟨by decide +kernel, by decide +kernel⟩, List.mem_of_getElem? (i := 23) (by decide +kernel), List.mem_of_getElem? (i := 1137) (by decide +kernel), List.mem_of_getElem? (i := 1138) (by decide +kernel)⟩
theorem lw_p30 : lw_okq (⟨"DarkRing$Thought", "shareOut", "()Z"⟩, 6) := ⟨⟨by decide +kernel, by decide +kernel⟩, List.mem_of_getElem? (i := 177) (by decide +kernel), List.mem_of_getElem? (i := 1188) (by decide +kernel), List.mem_of_getElem? (i := 1189) (by decide +kernel)⟩
theorem lw_p31 : lw_okq (⟨"DarkRing", "toldFraction", "(JJ)Z"⟩, 18) := ⟨⟨by decide +kernel, by decide +kernel⟩, List.mem_of_getElem? (i := 23) (by decide +kernel), List.mem_of_getElem? (i := 1281) (by decide +kernel), List.mem_of_getElem? (i := 1282) (by decide +kernel)⟩
def lw_privs_2 : List (MethodName × Nat) := [(⟨"DarkRing$HouseReader", "readDoor", "()Z"⟩, 10), (⟨"DarkRing$HouseReader", "readSeconds", "()Z"⟩, 10), (⟨"DarkRing$HouseReader", "readTurned", "()Z"⟩, 10), (⟨"DarkRing$HouseReader", "readRound", "()Z"⟩, 10), (⟨"DarkRing", "told", "(I)I"⟩, 18), (⟨"DarkRing$RuleReader", "readStep", "()Z"⟩, 5), (⟨"DarkRing$RuleReader", "readEnd", "()Z"⟩, 5), (⟨"DarkRing$RuleReader", "plainKind", "()I"⟩, 5), (⟨"DarkRing$RuleReader", "readLoop", "()Z"⟩, 5), (⟨"DarkRing$RuleReader", "beginBlock", "()Z"⟩, 5), (⟨"DarkRing$RuleReader", "readWhen", "()Z"⟩, 5), (⟨"DarkRing$RuleReader", "takeFeature", "()I"⟩, 5), (⟨"DarkRing$RuleReader", "readPlain", "(I)Z"⟩, 5), (⟨"DarkRing", "isOrderOf", "(LDarkRing$Tray;I)Z"⟩, 18), (⟨"DarkRing$Thought", "shareOut", "()Z"⟩, 6), (⟨"DarkRing", "toldFraction", "(JJ)Z"⟩, 18)]
theorem lw_r2 : ∀ q ∈ lw_privs_2, lw_okq q := List.forall_mem_cons.mpr ⟨lw_p16, List.forall_mem_cons.mpr ⟨lw_p17, List.forall_mem_cons.mpr ⟨lw_p18, List.forall_mem_cons.mpr ⟨lw_p19, List.forall_mem_cons.mpr ⟨lw_p20, List.forall_mem_cons.mpr ⟨lw_p21, List.forall_mem_cons.mpr ⟨lw_p22, List.forall_mem_cons.mpr ⟨lw_p23, List.forall_mem_cons.mpr ⟨lw_p24, List.forall_mem_cons.mpr ⟨lw_p25, List.forall_mem_cons.mpr ⟨lw_p26, List.forall_mem_cons.mpr ⟨lw_p27, List.forall_mem_cons.mpr ⟨lw_p28, List.forall_mem_cons.mpr ⟨lw_p29, List.forall_mem_cons.mpr ⟨lw_p30, List.forall_mem_cons.mpr ⟨lw_p31, fun _ h => absurd h List.not_mem_nil⟩⟩⟩⟩⟩⟩⟩⟩⟩⟩⟩⟩⟩⟩⟩⟩
theorem lw_p32 : lw_okq (⟨"DarkRing$Acts", "worthAfter", "(III)J"⟩, 7) := ⟨⟨by decide +kernel, by decide +kernel⟩, List.mem_of_getElem? (i := 368) (by decide +kernel), List.mem_of_getElem? (i := 1308) (by decide +kernel), List.mem_of_getElem? (i := 1309) (by decide +kernel)⟩
theorem lw_p33 : lw_okq (⟨"DarkRing$Acts", "tryInto", "(I)J"⟩, 7) := ⟨⟨by decide +kernel, by decide +kernel⟩, List.mem_of_getElem? (i := 368) (by decide +kernel), List.mem_of_getElem? (i := 1312) (by decide +kernel), List.mem_of_getElem? (i := 1313) (by decide +kernel)⟩
theorem lw_p34 : lw_okq (⟨"DarkRing$Acts", "worthOf", "(II)J"⟩, 7) := ⟨⟨by decide +kernel, by decide +kernel⟩, List.mem_of_getElem? (i := 368) (by decide +kernel), List.mem_of_getElem? (i := 1323) (by decide +kernel), List.mem_of_getElem? (i := 1324) (by decide +kernel)⟩
theorem lw_p35 : lw_okq (⟨"DarkRing$Acts", "feelInto", "(III)Z"⟩, 7) := ⟨⟨by decide +kernel, by decide +kernel⟩, List.mem_of_getElem? (i := 368) (by decide +kernel), List.mem_of_getElem? (i := 1332) (by decide +kernel), List.mem_of_getElem? (i := 1333) (by decide +kernel)⟩
theorem lw_p36 : lw_okq (⟨"DarkRing$Search", "isOf", "(II)Z"⟩, 11) := ⟨⟨by decide +kernel, by decide +kernel⟩, List.mem_of_getElem? (i := 307) (by decide +kernel), List.mem_of_getElem? (i := 1359) (by decide +kernel), List.mem_of_getElem? (i := 1360) (by decide +kernel)⟩
theorem lw_p37 : lw_okq (⟨"DarkRing$Search", "secondsOfTries", "(I)I"⟩, 11) := ⟨⟨by decide +kernel, by decide +kernel⟩, List.mem_of_getElem? (i := 307) (by decide +kernel), List.mem_of_getElem? (i := 1369) (by decide +kernel), List.mem_of_getElem? (i := 1370) (by decide +kernel)⟩
theorem lw_p38 : lw_okq (⟨"DarkRing$Search", "secondsFromAll", "(I)I"⟩, 11) := ⟨⟨by decide +kernel, by decide +kernel⟩, List.mem_of_getElem? (i := 307) (by decide +kernel), List.mem_of_getElem? (i := 1397) (by decide +kernel), List.mem_of_getElem? (i := 1398) (by decide +kernel)⟩
theorem lw_p39 : lw_okq (⟨"DarkRing$Search", "measured", "(I)I"⟩, 11) := ⟨⟨by decide +kernel, by decide +kernel⟩, List.mem_of_getElem? (i := 307) (by decide +kernel), List.mem_of_getElem? (i := 1416) (by decide +kernel), List.mem_of_getElem? (i := 1417) (by decide +kernel)⟩
theorem lw_p40 : lw_okq (⟨"DarkRing$Search", "stepsOnToNearest", "(II)I"⟩, 11) := ⟨⟨by decide +kernel, by decide +kernel⟩, List.mem_of_getElem? (i := 307) (by decide +kernel), List.mem_of_getElem? (i := 1426) (by decide +kernel), List.mem_of_getElem? (i := 1427) (by decide +kernel)⟩
theorem lw_p41 : lw_okq (⟨"DarkRing$Search", "keepFound", "([II)V"⟩, 11) := ⟨⟨by decide +kernel, by decide +kernel⟩, List.mem_of_getElem? (i := 307) (by decide +kernel), List.mem_of_getElem? (i := 1431) (by decide +kernel), List.mem_of_getElem? (i := 1432) (by decide +kernel)⟩
theorem lw_p42 : lw_okq (⟨"DarkRing$Search", "loadRings", "(I)I"⟩, 11) := ⟨⟨by decide +kernel, by decide +kernel⟩, List.mem_of_getElem? (i := 307) (by decide +kernel), List.mem_of_getElem? (i := 1450) (by decide +kernel), List.mem_of_getElem? (i := 1451) (by decide +kernel)⟩
theorem lw_p43 : lw_okq (⟨"DarkRing$Search", "hasRingThatOpens", "(I)Z"⟩, 11) := ⟨⟨by decide +kernel, by decide +kernel⟩, List.mem_of_getElem? (i := 307) (by decide +kernel), List.mem_of_getElem? (i := 1455) (by decide +kernel), List.mem_of_getElem? (i := 1456) (by decide +kernel)⟩
theorem lw_p44 : lw_okq (⟨"DarkRing$Search", "opensAsRing", "(I)Z"⟩, 11) := ⟨⟨by decide +kernel, by decide +kernel⟩, List.mem_of_getElem? (i := 307) (by decide +kernel), List.mem_of_getElem? (i := 1459) (by decide +kernel), List.mem_of_getElem? (i := 1460) (by decide +kernel)⟩
theorem lw_p45 : lw_okq (⟨"DarkRing$Search", "measureRings", "(I)V"⟩, 11) := ⟨⟨by decide +kernel, by decide +kernel⟩, List.mem_of_getElem? (i := 307) (by decide +kernel), List.mem_of_getElem? (i := 1463) (by decide +kernel), List.mem_of_getElem? (i := 1464) (by decide +kernel)⟩
theorem lw_p46 : lw_okq (⟨"DarkRing$Likeness", "alikeAhead", "(I)I"⟩, 3) := ⟨⟨by decide +kernel, by decide +kernel⟩, List.mem_of_getElem? (i := 352) (by decide +kernel), List.mem_of_getElem? (i := 1497) (by decide +kernel), List.mem_of_getElem? (i := 1498) (by decide +kernel)⟩
theorem lw_p47 : lw_okq (⟨"DarkRing$Likeness", "keyAt", "(I)I"⟩, 3) := ⟨⟨by decide +kernel, by decide +kernel⟩, List.mem_of_getElem? (i := 352) (by decide +kernel), List.mem_of_getElem? (i := 1501) (by decide +kernel), List.mem_of_getElem? (i := 1502) (by decide +kernel)⟩
def lw_privs_3 : List (MethodName × Nat) := [(⟨"DarkRing$Acts", "worthAfter", "(III)J"⟩, 7), (⟨"DarkRing$Acts", "tryInto", "(I)J"⟩, 7), (⟨"DarkRing$Acts", "worthOf", "(II)J"⟩, 7), (⟨"DarkRing$Acts", "feelInto", "(III)Z"⟩, 7), (⟨"DarkRing$Search", "isOf", "(II)Z"⟩, 11), (⟨"DarkRing$Search", "secondsOfTries", "(I)I"⟩, 11), (⟨"DarkRing$Search", "secondsFromAll", "(I)I"⟩, 11), (⟨"DarkRing$Search", "measured", "(I)I"⟩, 11), (⟨"DarkRing$Search", "stepsOnToNearest", "(II)I"⟩, 11), (⟨"DarkRing$Search", "keepFound", "([II)V"⟩, 11), (⟨"DarkRing$Search", "loadRings", "(I)I"⟩, 11), (⟨"DarkRing$Search", "hasRingThatOpens", "(I)Z"⟩, 11), (⟨"DarkRing$Search", "opensAsRing", "(I)Z"⟩, 11), (⟨"DarkRing$Search", "measureRings", "(I)V"⟩, 11), (⟨"DarkRing$Likeness", "alikeAhead", "(I)I"⟩, 3), (⟨"DarkRing$Likeness", "keyAt", "(I)I"⟩, 3)]
theorem lw_r3 : ∀ q ∈ lw_privs_3, lw_okq q := List.forall_mem_cons.mpr ⟨lw_p32, List.forall_mem_cons.mpr ⟨lw_p33, List.forall_mem_cons.mpr ⟨lw_p34, List.forall_mem_cons.mpr ⟨lw_p35, List.forall_mem_cons.mpr ⟨lw_p36, List.forall_mem_cons.mpr ⟨lw_p37, List.forall_mem_cons.mpr ⟨lw_p38, List.forall_mem_cons.mpr ⟨lw_p39, List.forall_mem_cons.mpr ⟨lw_p40, List.forall_mem_cons.mpr ⟨lw_p41, List.forall_mem_cons.mpr ⟨lw_p42, List.forall_mem_cons.mpr ⟨lw_p43, List.forall_mem_cons.mpr ⟨lw_p44, List.forall_mem_cons.mpr ⟨lw_p45, List.forall_mem_cons.mpr ⟨lw_p46, List.forall_mem_cons.mpr ⟨lw_p47, fun _ h => absurd h List.not_mem_nil⟩⟩⟩⟩⟩⟩⟩⟩⟩⟩⟩⟩⟩⟩⟩⟩
theorem lw_p48 : lw_okq (⟨"DarkRing$Likeness", "allFeatures", "()I"⟩, 3) := ⟨⟨by decide +kernel, by decide +kernel⟩, List.mem_of_getElem? (i := 352) (by decide +kernel), List.mem_of_getElem? (i := 1506) (by decide +kernel), List.mem_of_getElem? (i := 1507) (by decide +kernel)⟩
theorem lw_p49 : lw_okq (⟨"DarkRing$Likeness", "areAlike", "(IIII)Z"⟩, 3) := ⟨⟨by decide +kernel, by decide +kernel⟩, List.mem_of_getElem? (i := 352) (by decide +kernel), List.mem_of_getElem? (i := 1510) (by decide +kernel), List.mem_of_getElem? (i := 1511) (by decide +kernel)⟩
theorem lw_p50 : lw_okq (⟨"DarkRing$Likeness", "tellsAllApart", "(IZ)Z"⟩, 3) := ⟨⟨by decide +kernel, by decide +kernel⟩, List.mem_of_getElem? (i := 352) (by decide +kernel), List.mem_of_getElem? (i := 1529) (by decide +kernel), List.mem_of_getElem? (i := 1530) (by decide +kernel)⟩
theorem lw_p51 : lw_okq (⟨"DarkRing$Likeness", "tellWhereOneIs", "(IZ)Z"⟩, 3) := ⟨⟨by decide +kernel, by decide +kernel⟩, List.mem_of_getElem? (i := 352) (by decide +kernel), List.mem_of_getElem? (i := 1549) (by decide +kernel), List.mem_of_getElem? (i := 1550) (by decide +kernel)⟩
theorem lw_p52 : lw_okq (⟨"DarkRing$Likeness", "showTheSame", "(IIII)Z"⟩, 3) := ⟨⟨by decide +kernel, by decide +kernel⟩, List.mem_of_getElem? (i := 352) (by decide +kernel), List.mem_of_getElem? (i := 1553) (by decide +kernel), List.mem_of_getElem? (i := 1554) (by decide +kernel)⟩
theorem lw_p53 : lw_okq (⟨"DarkRing$Search", "loadWith", "(III)V"⟩, 11) := ⟨⟨by decide +kernel, by decide +kernel⟩, List.mem_of_getElem? (i := 307) (by decide +kernel), List.mem_of_getElem? (i := 1581) (by decide +kernel), List.mem_of_getElem? (i := 1582) (by decide +kernel)⟩
theorem lw_p54 : lw_okq (⟨"DarkRing$Search", "addToRow", "(I)V"⟩, 11) := ⟨⟨by decide +kernel, by decide +kernel⟩, List.mem_of_getElem? (i := 307) (by decide +kernel), List.mem_of_getElem? (i := 1585) (by decide +kernel), List.mem_of_getElem? (i := 1586) (by decide +kernel)⟩
theorem lw_p55 : lw_okq (⟨"DarkRing$Game", "dropped", "()V"⟩, 20) := ⟨⟨by decide +kernel, by decide +kernel⟩, List.mem_of_getElem? (i := 398) (by decide +kernel), List.mem_of_getElem? (i := 1600) (by decide +kernel), List.mem_of_getElem? (i := 1601) (by decide +kernel)⟩
theorem lw_p56 : lw_okq (⟨"DarkRing$Game", "drawBy", "(I)I"⟩, 20) := ⟨⟨by decide +kernel, by decide +kernel⟩, List.mem_of_getElem? (i := 398) (by decide +kernel), List.mem_of_getElem? (i := 1604) (by decide +kernel), List.mem_of_getElem? (i := 1605) (by decide +kernel)⟩
theorem lw_p57 : lw_okq (⟨"DarkRing$Game", "forgetHere", "()V"⟩, 20) := ⟨⟨by decide +kernel, by decide +kernel⟩, List.mem_of_getElem? (i := 398) (by decide +kernel), List.mem_of_getElem? (i := 1610) (by decide +kernel), List.mem_of_getElem? (i := 1611) (by decide +kernel)⟩
theorem lw_p58 : lw_okq (⟨"DarkRing$Game", "playEnd", "()V"⟩, 20) := ⟨⟨by decide +kernel, by decide +kernel⟩, List.mem_of_getElem? (i := 398) (by decide +kernel), List.mem_of_getElem? (i := 1622) (by decide +kernel), List.mem_of_getElem? (i := 1623) (by decide +kernel)⟩
theorem lw_p59 : lw_okq (⟨"DarkRing$Game", "playStep", "(I)V"⟩, 20) := ⟨⟨by decide +kernel, by decide +kernel⟩, List.mem_of_getElem? (i := 398) (by decide +kernel), List.mem_of_getElem? (i := 1632) (by decide +kernel), List.mem_of_getElem? (i := 1633) (by decide +kernel)⟩
theorem lw_p60 : lw_okq (⟨"DarkRing$Game", "playFeel", "(I)V"⟩, 20) := ⟨⟨by decide +kernel, by decide +kernel⟩, List.mem_of_getElem? (i := 398) (by decide +kernel), List.mem_of_getElem? (i := 1640) (by decide +kernel), List.mem_of_getElem? (i := 1641) (by decide +kernel)⟩
theorem lw_p61 : lw_okq (⟨"DarkRing$Game", "playTry", "()V"⟩, 20) := ⟨⟨by decide +kernel, by decide +kernel⟩, List.mem_of_getElem? (i := 398) (by decide +kernel), List.mem_of_getElem? (i := 1650) (by decide +kernel), List.mem_of_getElem? (i := 1651) (by decide +kernel)⟩
theorem lw_p62 : lw_okq (⟨"DarkRing$Game", "playGo", "()V"⟩, 20) := ⟨⟨by decide +kernel, by decide +kernel⟩, List.mem_of_getElem? (i := 398) (by decide +kernel), List.mem_of_getElem? (i := 1656) (by decide +kernel), List.mem_of_getElem? (i := 1657) (by decide +kernel)⟩
theorem lw_p63 : lw_okq (⟨"DarkRing$Game", "isSo", "(II)Z"⟩, 20) := ⟨⟨by decide +kernel, by decide +kernel⟩, List.mem_of_getElem? (i := 398) (by decide +kernel), List.mem_of_getElem? (i := 1667) (by decide +kernel), List.mem_of_getElem? (i := 1668) (by decide +kernel)⟩
def lw_privs_4 : List (MethodName × Nat) := [(⟨"DarkRing$Likeness", "allFeatures", "()I"⟩, 3), (⟨"DarkRing$Likeness", "areAlike", "(IIII)Z"⟩, 3), (⟨"DarkRing$Likeness", "tellsAllApart", "(IZ)Z"⟩, 3), (⟨"DarkRing$Likeness", "tellWhereOneIs", "(IZ)Z"⟩, 3), (⟨"DarkRing$Likeness", "showTheSame", "(IIII)Z"⟩, 3), (⟨"DarkRing$Search", "loadWith", "(III)V"⟩, 11), (⟨"DarkRing$Search", "addToRow", "(I)V"⟩, 11), (⟨"DarkRing$Game", "dropped", "()V"⟩, 20), (⟨"DarkRing$Game", "drawBy", "(I)I"⟩, 20), (⟨"DarkRing$Game", "forgetHere", "()V"⟩, 20), (⟨"DarkRing$Game", "playEnd", "()V"⟩, 20), (⟨"DarkRing$Game", "playStep", "(I)V"⟩, 20), (⟨"DarkRing$Game", "playFeel", "(I)V"⟩, 20), (⟨"DarkRing$Game", "playTry", "()V"⟩, 20), (⟨"DarkRing$Game", "playGo", "()V"⟩, 20), (⟨"DarkRing$Game", "isSo", "(II)Z"⟩, 20)]
theorem lw_r4 : ∀ q ∈ lw_privs_4, lw_okq q := List.forall_mem_cons.mpr ⟨lw_p48, List.forall_mem_cons.mpr ⟨lw_p49, List.forall_mem_cons.mpr ⟨lw_p50, List.forall_mem_cons.mpr ⟨lw_p51, List.forall_mem_cons.mpr ⟨lw_p52, List.forall_mem_cons.mpr ⟨lw_p53, List.forall_mem_cons.mpr ⟨lw_p54, List.forall_mem_cons.mpr ⟨lw_p55, List.forall_mem_cons.mpr ⟨lw_p56, List.forall_mem_cons.mpr ⟨lw_p57, List.forall_mem_cons.mpr ⟨lw_p58, List.forall_mem_cons.mpr ⟨lw_p59, List.forall_mem_cons.mpr ⟨lw_p60, List.forall_mem_cons.mpr ⟨lw_p61, List.forall_mem_cons.mpr ⟨lw_p62, List.forall_mem_cons.mpr ⟨lw_p63, fun _ h => absurd h List.not_mem_nil⟩⟩⟩⟩⟩⟩⟩⟩⟩⟩⟩⟩⟩⟩⟩⟩
theorem lw_p64 : lw_okq (⟨"DarkRingModel", "empty", "(I)V"⟩, 65) := ⟨⟨by decide +kernel, by decide +kernel⟩, List.mem_of_getElem? (i := 1709) (by decide +kernel), List.mem_of_getElem? (i := 1715) (by decide +kernel), List.mem_of_getElem? (i := 1716) (by decide +kernel)⟩
theorem lw_p65 : lw_okq (⟨"DarkRingModel", "no", "(I)Z"⟩, 65) := ⟨⟨by decide +kernel, by decide +kernel⟩, List.mem_of_getElem? (i := 1709) (by decide +kernel), List.mem_of_getElem? (i := 1929) (by decide +kernel), List.mem_of_getElem? (i := 1930) (by decide +kernel)⟩
theorem lw_p66 : lw_okq (⟨"DarkRingModel", "placed", "(II)I"⟩, 65) := ⟨⟨by decide +kernel, by decide +kernel⟩, List.mem_of_getElem? (i := 1709) (by decide +kernel), List.mem_of_getElem? (i := 1937) (by decide +kernel), List.mem_of_getElem? (i := 1938) (by decide +kernel)⟩
theorem lw_p67 : lw_okq (⟨"DarkRingModel", "trayed", "(I)I"⟩, 65) := ⟨⟨by decide +kernel, by decide +kernel⟩, List.mem_of_getElem? (i := 1709) (by decide +kernel), List.mem_of_getElem? (i := 1941) (by decide +kernel), List.mem_of_getElem? (i := 1942) (by decide +kernel)⟩
theorem lw_p68 : lw_okq (⟨"DarkRingModel", "layByte", "(I)V"⟩, 65) := ⟨⟨by decide +kernel, by decide +kernel⟩, List.mem_of_getElem? (i := 1709) (by decide +kernel), List.mem_of_getElem? (i := 1961) (by decide +kernel), List.mem_of_getElem? (i := 1962) (by decide +kernel)⟩
theorem lw_p69 : lw_okq (⟨"DarkRingModel", "begins", "(II)Z"⟩, 65) := ⟨⟨by decide +kernel, by decide +kernel⟩, List.mem_of_getElem? (i := 1709) (by decide +kernel), List.mem_of_getElem? (i := 1973) (by decide +kernel), List.mem_of_getElem? (i := 1974) (by decide +kernel)⟩
theorem lw_p70 : lw_okq (⟨"DarkRingModel", "next2", "()V"⟩, 65) := ⟨⟨by decide +kernel, by decide +kernel⟩, List.mem_of_getElem? (i := 1709) (by decide +kernel), List.mem_of_getElem? (i := 1977) (by decide +kernel), List.mem_of_getElem? (i := 1978) (by decide +kernel)⟩
theorem lw_p71 : lw_okq (⟨"DarkRingModel", "look2", "(I)I"⟩, 65) := ⟨⟨by decide +kernel, by decide +kernel⟩, List.mem_of_getElem? (i := 1709) (by decide +kernel), List.mem_of_getElem? (i := 1981) (by decide +kernel), List.mem_of_getElem? (i := 1982) (by decide +kernel)⟩
theorem lw_p72 : lw_okq (⟨"DarkRingModel", "isSignByte", "(I)Z"⟩, 65) := ⟨⟨by decide +kernel, by decide +kernel⟩, List.mem_of_getElem? (i := 1709) (by decide +kernel), List.mem_of_getElem? (i := 1993) (by decide +kernel), List.mem_of_getElem? (i := 1994) (by decide +kernel)⟩
theorem lw_p73 : lw_okq (⟨"DarkRingModel", "houseWord", "()I"⟩, 65) := ⟨⟨by decide +kernel, by decide +kernel⟩, List.mem_of_getElem? (i := 1709) (by decide +kernel), List.mem_of_getElem? (i := 1997) (by decide +kernel), List.mem_of_getElem? (i := 1998) (by decide +kernel)⟩
theorem lw_p74 : lw_okq (⟨"DarkRingModel", "isWord", "(J)Z"⟩, 65) := ⟨⟨by decide +kernel, by decide +kernel⟩, List.mem_of_getElem? (i := 1709) (by decide +kernel), List.mem_of_getElem? (i := 2005) (by decide +kernel), List.mem_of_getElem? (i := 2006) (by decide +kernel)⟩
theorem lw_p75 : lw_okq (⟨"DarkRingModel", "readFeature", "()V"⟩, 65) := ⟨⟨by decide +kernel, by decide +kernel⟩, List.mem_of_getElem? (i := 1709) (by decide +kernel), List.mem_of_getElem? (i := 2010) (by decide +kernel), List.mem_of_getElem? (i := 2011) (by decide +kernel)⟩
theorem lw_p76 : lw_okq (⟨"DarkRingModel", "fail", "(II)V"⟩, 65) := ⟨⟨by decide +kernel, by decide +kernel⟩, List.mem_of_getElem? (i := 1709) (by decide +kernel), List.mem_of_getElem? (i := 2014) (by decide +kernel), List.mem_of_getElem? (i := 2015) (by decide +kernel)⟩
theorem lw_p77 : lw_okq (⟨"DarkRingModel", "readNew", "(III)I"⟩, 65) := ⟨⟨by decide +kernel, by decide +kernel⟩, List.mem_of_getElem? (i := 1709) (by decide +kernel), List.mem_of_getElem? (i := 2018) (by decide +kernel), List.mem_of_getElem? (i := 2019) (by decide +kernel)⟩
theorem lw_p78 : lw_okq (⟨"DarkRingModel", "isHouseName", "()Z"⟩, 65) := ⟨⟨by decide +kernel, by decide +kernel⟩, List.mem_of_getElem? (i := 1709) (by decide +kernel), List.mem_of_getElem? (i := 2022) (by decide +kernel), List.mem_of_getElem? (i := 2023) (by decide +kernel)⟩
theorem lw_p79 : lw_okq (⟨"DarkRingModel", "wrong", "()V"⟩, 65) := ⟨⟨by decide +kernel, by decide +kernel⟩, List.mem_of_getElem? (i := 1709) (by decide +kernel), List.mem_of_getElem? (i := 2026) (by decide +kernel), List.mem_of_getElem? (i := 2027) (by decide +kernel)⟩
def lw_privs_5 : List (MethodName × Nat) := [(⟨"DarkRingModel", "empty", "(I)V"⟩, 65), (⟨"DarkRingModel", "no", "(I)Z"⟩, 65), (⟨"DarkRingModel", "placed", "(II)I"⟩, 65), (⟨"DarkRingModel", "trayed", "(I)I"⟩, 65), (⟨"DarkRingModel", "layByte", "(I)V"⟩, 65), (⟨"DarkRingModel", "begins", "(II)Z"⟩, 65), (⟨"DarkRingModel", "next2", "()V"⟩, 65), (⟨"DarkRingModel", "look2", "(I)I"⟩, 65), (⟨"DarkRingModel", "isSignByte", "(I)Z"⟩, 65), (⟨"DarkRingModel", "houseWord", "()I"⟩, 65), (⟨"DarkRingModel", "isWord", "(J)Z"⟩, 65), (⟨"DarkRingModel", "readFeature", "()V"⟩, 65), (⟨"DarkRingModel", "fail", "(II)V"⟩, 65), (⟨"DarkRingModel", "readNew", "(III)I"⟩, 65), (⟨"DarkRingModel", "isHouseName", "()Z"⟩, 65), (⟨"DarkRingModel", "wrong", "()V"⟩, 65)]
theorem lw_r5 : ∀ q ∈ lw_privs_5, lw_okq q := List.forall_mem_cons.mpr ⟨lw_p64, List.forall_mem_cons.mpr ⟨lw_p65, List.forall_mem_cons.mpr ⟨lw_p66, List.forall_mem_cons.mpr ⟨lw_p67, List.forall_mem_cons.mpr ⟨lw_p68, List.forall_mem_cons.mpr ⟨lw_p69, List.forall_mem_cons.mpr ⟨lw_p70, List.forall_mem_cons.mpr ⟨lw_p71, List.forall_mem_cons.mpr ⟨lw_p72, List.forall_mem_cons.mpr ⟨lw_p73, List.forall_mem_cons.mpr ⟨lw_p74, List.forall_mem_cons.mpr ⟨lw_p75, List.forall_mem_cons.mpr ⟨lw_p76, List.forall_mem_cons.mpr ⟨lw_p77, List.forall_mem_cons.mpr ⟨lw_p78, List.forall_mem_cons.mpr ⟨lw_p79, fun _ h => absurd h List.not_mem_nil⟩⟩⟩⟩⟩⟩⟩⟩⟩⟩⟩⟩⟩⟩⟩⟩
theorem lw_p80 : lw_okq (⟨"DarkRingModel", "isTaken", "()Z"⟩, 65) := ⟨⟨by decide +kernel, by decide +kernel⟩, List.mem_of_getElem? (i := 1709) (by decide +kernel), List.mem_of_getElem? (i := 2030) (by decide +kernel), List.mem_of_getElem? (i := 2031) (by decide +kernel)⟩
theorem lw_p81 : lw_okq (⟨"DarkRingModel", "named", "(III)I"⟩, 65) := ⟨⟨by decide +kernel, by decide +kernel⟩, List.mem_of_getElem? (i := 1709) (by decide +kernel), List.mem_of_getElem? (i := 2034) (by decide +kernel), List.mem_of_getElem? (i := 2035) (by decide +kernel)⟩
theorem lw_p82 : lw_okq (⟨"DarkRingModel", "must", "(Z)V"⟩, 65) := ⟨⟨by decide +kernel, by decide +kernel⟩, List.mem_of_getElem? (i := 1709) (by decide +kernel), List.mem_of_getElem? (i := 2038) (by decide +kernel), List.mem_of_getElem? (i := 2039) (by decide +kernel)⟩
theorem lw_p83 : lw_okq (⟨"DarkRingModel", "count", "(II)I"⟩, 65) := ⟨⟨by decide +kernel, by decide +kernel⟩, List.mem_of_getElem? (i := 1709) (by decide +kernel), List.mem_of_getElem? (i := 2042) (by decide +kernel), List.mem_of_getElem? (i := 2043) (by decide +kernel)⟩
theorem lw_p84 : lw_okq (⟨"DarkRingModel", "readFeels", "()V"⟩, 65) := ⟨⟨by decide +kernel, by decide +kernel⟩, List.mem_of_getElem? (i := 1709) (by decide +kernel), List.mem_of_getElem? (i := 2049) (by decide +kernel), List.mem_of_getElem? (i := 2050) (by decide +kernel)⟩
theorem lw_p85 : lw_okq (⟨"DarkRingModel", "readOld", "(II)I"⟩, 65) := ⟨⟨by decide +kernel, by decide +kernel⟩, List.mem_of_getElem? (i := 1709) (by decide +kernel), List.mem_of_getElem? (i := 2053) (by decide +kernel), List.mem_of_getElem? (i := 2054) (by decide +kernel)⟩
theorem lw_p86 : lw_okq (⟨"DarkRingModel", "isSign", "(I)Z"⟩, 65) := ⟨⟨by decide +kernel, by decide +kernel⟩, List.mem_of_getElem? (i := 1709) (by decide +kernel), List.mem_of_getElem? (i := 2057) (by decide +kernel), List.mem_of_getElem? (i := 2058) (by decide +kernel)⟩
theorem lw_p87 : lw_okq (⟨"DarkRingModel", "readKey", "()V"⟩, 65) := ⟨⟨by decide +kernel, by decide +kernel⟩, List.mem_of_getElem? (i := 1709) (by decide +kernel), List.mem_of_getElem? (i := 2061) (by decide +kernel), List.mem_of_getElem? (i := 2062) (by decide +kernel)⟩
theorem lw_p88 : lw_okq (⟨"DarkRingModel", "readRing", "()V"⟩, 65) := ⟨⟨by decide +kernel, by decide +kernel⟩, List.mem_of_getElem? (i := 1709) (by decide +kernel), List.mem_of_getElem? (i := 2065) (by decide +kernel), List.mem_of_getElem? (i := 2066) (by decide +kernel)⟩
theorem lw_p89 : lw_okq (⟨"DarkRingModel", "readDoor", "()V"⟩, 65) := ⟨⟨by decide +kernel, by decide +kernel⟩, List.mem_of_getElem? (i := 1709) (by decide +kernel), List.mem_of_getElem? (i := 2069) (by decide +kernel), List.mem_of_getElem? (i := 2070) (by decide +kernel)⟩
theorem lw_p90 : lw_okq (⟨"DarkRingModel", "readSeconds", "()V"⟩, 65) := ⟨⟨by decide +kernel, by decide +kernel⟩, List.mem_of_getElem? (i := 1709) (by decide +kernel), List.mem_of_getElem? (i := 2073) (by decide +kernel), List.mem_of_getElem? (i := 2074) (by decide +kernel)⟩
theorem lw_p91 : lw_okq (⟨"DarkRingModel", "readTurned", "()V"⟩, 65) := ⟨⟨by decide +kernel, by decide +kernel⟩, List.mem_of_getElem? (i := 1709) (by decide +kernel), List.mem_of_getElem? (i := 2077) (by decide +kernel), List.mem_of_getElem? (i := 2078) (by decide +kernel)⟩
theorem lw_p92 : lw_okq (⟨"DarkRingModel", "readRound", "()V"⟩, 65) := ⟨⟨by decide +kernel, by decide +kernel⟩, List.mem_of_getElem? (i := 1709) (by decide +kernel), List.mem_of_getElem? (i := 2081) (by decide +kernel), List.mem_of_getElem? (i := 2082) (by decide +kernel)⟩
theorem lw_p93 : lw_okq (⟨"DarkRingModel", "isWell", "()Z"⟩, 65) := ⟨⟨by decide +kernel, by decide +kernel⟩, List.mem_of_getElem? (i := 1709) (by decide +kernel), List.mem_of_getElem? (i := 2085) (by decide +kernel), List.mem_of_getElem? (i := 2086) (by decide +kernel)⟩
theorem lw_p94 : lw_okq (⟨"DarkRingModel", "refuse", "(I)I"⟩, 65) := ⟨⟨by decide +kernel, by decide +kernel⟩, List.mem_of_getElem? (i := 1709) (by decide +kernel), List.mem_of_getElem? (i := 2094) (by decide +kernel), List.mem_of_getElem? (i := 2095) (by decide +kernel)⟩
theorem lw_p95 : lw_okq (⟨"DarkRingModel", "isFeature", "(I)Z"⟩, 65) := ⟨⟨by decide +kernel, by decide +kernel⟩, List.mem_of_getElem? (i := 1709) (by decide +kernel), List.mem_of_getElem? (i := 2102) (by decide +kernel), List.mem_of_getElem? (i := 2103) (by decide +kernel)⟩
def lw_privs_6 : List (MethodName × Nat) := [(⟨"DarkRingModel", "isTaken", "()Z"⟩, 65), (⟨"DarkRingModel", "named", "(III)I"⟩, 65), (⟨"DarkRingModel", "must", "(Z)V"⟩, 65), (⟨"DarkRingModel", "count", "(II)I"⟩, 65), (⟨"DarkRingModel", "readFeels", "()V"⟩, 65), (⟨"DarkRingModel", "readOld", "(II)I"⟩, 65), (⟨"DarkRingModel", "isSign", "(I)Z"⟩, 65), (⟨"DarkRingModel", "readKey", "()V"⟩, 65), (⟨"DarkRingModel", "readRing", "()V"⟩, 65), (⟨"DarkRingModel", "readDoor", "()V"⟩, 65), (⟨"DarkRingModel", "readSeconds", "()V"⟩, 65), (⟨"DarkRingModel", "readTurned", "()V"⟩, 65), (⟨"DarkRingModel", "readRound", "()V"⟩, 65), (⟨"DarkRingModel", "isWell", "()Z"⟩, 65), (⟨"DarkRingModel", "refuse", "(I)I"⟩, 65), (⟨"DarkRingModel", "isFeature", "(I)Z"⟩, 65)]
theorem lw_r6 : ∀ q ∈ lw_privs_6, lw_okq q := List.forall_mem_cons.mpr ⟨lw_p80, List.forall_mem_cons.mpr ⟨lw_p81, List.forall_mem_cons.mpr ⟨lw_p82, List.forall_mem_cons.mpr ⟨lw_p83, List.forall_mem_cons.mpr ⟨lw_p84, List.forall_mem_cons.mpr ⟨lw_p85, List.forall_mem_cons.mpr ⟨lw_p86, List.forall_mem_cons.mpr ⟨lw_p87, List.forall_mem_cons.mpr ⟨lw_p88, List.forall_mem_cons.mpr ⟨lw_p89, List.forall_mem_cons.mpr ⟨lw_p90, List.forall_mem_cons.mpr ⟨lw_p91, List.forall_mem_cons.mpr ⟨lw_p92, List.forall_mem_cons.mpr ⟨lw_p93, List.forall_mem_cons.mpr ⟨lw_p94, List.forall_mem_cons.mpr ⟨lw_p95, fun _ h => absurd h List.not_mem_nil⟩⟩⟩⟩⟩⟩⟩⟩⟩⟩⟩⟩⟩⟩⟩⟩
theorem lw_p96 : lw_okq (⟨"DarkRingModel", "isStep", "(II)Z"⟩, 65) := ⟨⟨by decide +kernel, by decide +kernel⟩, List.mem_of_getElem? (i := 1709) (by decide +kernel), List.mem_of_getElem? (i := 2110) (by decide +kernel), List.mem_of_getElem? (i := 2111) (by decide +kernel)⟩
theorem lw_p97 : lw_okq (⟨"DarkRingModel", "isKey", "(J)Z"⟩, 65) := ⟨⟨by decide +kernel, by decide +kernel⟩, List.mem_of_getElem? (i := 1709) (by decide +kernel), List.mem_of_getElem? (i := 2118) (by decide +kernel), List.mem_of_getElem? (i := 2119) (by decide +kernel)⟩
theorem lw_p98 : lw_okq (⟨"DarkRingModel", "ringOf", "(I)I"⟩, 65) := ⟨⟨by decide +kernel, by decide +kernel⟩, List.mem_of_getElem? (i := 1709) (by decide +kernel), List.mem_of_getElem? (i := 2127) (by decide +kernel), List.mem_of_getElem? (i := 2128) (by decide +kernel)⟩
theorem lw_p99 : lw_okq (⟨"DarkRingModel", "placeOf", "(I)I"⟩, 65) := ⟨⟨by decide +kernel, by decide +kernel⟩, List.mem_of_getElem? (i := 1709) (by decide +kernel), List.mem_of_getElem? (i := 2131) (by decide +kernel), List.mem_of_getElem? (i := 2132) (by decide +kernel)⟩
theorem lw_p100 : lw_okq (⟨"DarkRingModel", "isRing", "(I)Z"⟩, 65) := ⟨⟨by decide +kernel, by decide +kernel⟩, List.mem_of_getElem? (i := 1709) (by decide +kernel), List.mem_of_getElem? (i := 2139) (by decide +kernel), List.mem_of_getElem? (i := 2140) (by decide +kernel)⟩
theorem lw_p101 : lw_okq (⟨"DarkRingModel", "gather", "(I)V"⟩, 65) := ⟨⟨by decide +kernel, by decide +kernel⟩, List.mem_of_getElem? (i := 1709) (by decide +kernel), List.mem_of_getElem? (i := 2143) (by decide +kernel), List.mem_of_getElem? (i := 2144) (by decide +kernel)⟩
theorem lw_p102 : lw_okq (⟨"DarkRingModel", "isDoor", "(I)Z"⟩, 65) := ⟨⟨by decide +kernel, by decide +kernel⟩, List.mem_of_getElem? (i := 1709) (by decide +kernel), List.mem_of_getElem? (i := 2151) (by decide +kernel), List.mem_of_getElem? (i := 2152) (by decide +kernel)⟩
theorem lw_p103 : lw_okq (⟨"DarkRingModel", "isTray", "(I)Z"⟩, 65) := ⟨⟨by decide +kernel, by decide +kernel⟩, List.mem_of_getElem? (i := 1709) (by decide +kernel), List.mem_of_getElem? (i := 2163) (by decide +kernel), List.mem_of_getElem? (i := 2164) (by decide +kernel)⟩
theorem lw_p104 : lw_okq (⟨"DarkRingModel", "numberOf", "(II)J"⟩, 65) := ⟨⟨by decide +kernel, by decide +kernel⟩, List.mem_of_getElem? (i := 1709) (by decide +kernel), List.mem_of_getElem? (i := 2168) (by decide +kernel), List.mem_of_getElem? (i := 2169) (by decide +kernel)⟩
theorem lw_p105 : lw_okq (⟨"DarkRingModel", "letGo", "(I)V"⟩, 65) := ⟨⟨by decide +kernel, by decide +kernel⟩, List.mem_of_getElem? (i := 1709) (by decide +kernel), List.mem_of_getElem? (i := 2172) (by decide +kernel), List.mem_of_getElem? (i := 2173) (by decide +kernel)⟩
theorem lw_p106 : lw_okq (⟨"DarkRingModel", "insert", "(III)V"⟩, 65) := ⟨⟨by decide +kernel, by decide +kernel⟩, List.mem_of_getElem? (i := 1709) (by decide +kernel), List.mem_of_getElem? (i := 2184) (by decide +kernel), List.mem_of_getElem? (i := 2185) (by decide +kernel)⟩
theorem lw_p107 : lw_okq (⟨"DarkRingModel", "take2", "(I)V"⟩, 65) := ⟨⟨by decide +kernel, by decide +kernel⟩, List.mem_of_getElem? (i := 1709) (by decide +kernel), List.mem_of_getElem? (i := 2192) (by decide +kernel), List.mem_of_getElem? (i := 2193) (by decide +kernel)⟩
theorem lw_p108 : lw_okq (⟨"DarkRingModel", "beginThought", "()V"⟩, 65) := ⟨⟨by decide +kernel, by decide +kernel⟩, List.mem_of_getElem? (i := 1709) (by decide +kernel), List.mem_of_getElem? (i := 2200) (by decide +kernel), List.mem_of_getElem? (i := 2201) (by decide +kernel)⟩
theorem lw_p109 : lw_okq (⟨"DarkRingModel", "shareOut", "()Z"⟩, 65) := ⟨⟨by decide +kernel, by decide +kernel⟩, List.mem_of_getElem? (i := 1709) (by decide +kernel), List.mem_of_getElem? (i := 2204) (by decide +kernel), List.mem_of_getElem? (i := 2205) (by decide +kernel)⟩
theorem lw_p110 : lw_okq (⟨"DarkRingModel", "isHeld", "()Z"⟩, 65) := ⟨⟨by decide +kernel, by decide +kernel⟩, List.mem_of_getElem? (i := 1709) (by decide +kernel), List.mem_of_getElem? (i := 2213) (by decide +kernel), List.mem_of_getElem? (i := 2214) (by decide +kernel)⟩
theorem lw_p111 : lw_okq (⟨"DarkRingModel", "feelAs", "(II)Z"⟩, 65) := ⟨⟨by decide +kernel, by decide +kernel⟩, List.mem_of_getElem? (i := 1709) (by decide +kernel), List.mem_of_getElem? (i := 2221) (by decide +kernel), List.mem_of_getElem? (i := 2222) (by decide +kernel)⟩
def lw_privs_7 : List (MethodName × Nat) := [(⟨"DarkRingModel", "isStep", "(II)Z"⟩, 65), (⟨"DarkRingModel", "isKey", "(J)Z"⟩, 65), (⟨"DarkRingModel", "ringOf", "(I)I"⟩, 65), (⟨"DarkRingModel", "placeOf", "(I)I"⟩, 65), (⟨"DarkRingModel", "isRing", "(I)Z"⟩, 65), (⟨"DarkRingModel", "gather", "(I)V"⟩, 65), (⟨"DarkRingModel", "isDoor", "(I)Z"⟩, 65), (⟨"DarkRingModel", "isTray", "(I)Z"⟩, 65), (⟨"DarkRingModel", "numberOf", "(II)J"⟩, 65), (⟨"DarkRingModel", "letGo", "(I)V"⟩, 65), (⟨"DarkRingModel", "insert", "(III)V"⟩, 65), (⟨"DarkRingModel", "take2", "(I)V"⟩, 65), (⟨"DarkRingModel", "beginThought", "()V"⟩, 65), (⟨"DarkRingModel", "shareOut", "()Z"⟩, 65), (⟨"DarkRingModel", "isHeld", "()Z"⟩, 65), (⟨"DarkRingModel", "feelAs", "(II)Z"⟩, 65)]
theorem lw_r7 : ∀ q ∈ lw_privs_7, lw_okq q := List.forall_mem_cons.mpr ⟨lw_p96, List.forall_mem_cons.mpr ⟨lw_p97, List.forall_mem_cons.mpr ⟨lw_p98, List.forall_mem_cons.mpr ⟨lw_p99, List.forall_mem_cons.mpr ⟨lw_p100, List.forall_mem_cons.mpr ⟨lw_p101, List.forall_mem_cons.mpr ⟨lw_p102, List.forall_mem_cons.mpr ⟨lw_p103, List.forall_mem_cons.mpr ⟨lw_p104, List.forall_mem_cons.mpr ⟨lw_p105, List.forall_mem_cons.mpr ⟨lw_p106, List.forall_mem_cons.mpr ⟨lw_p107, List.forall_mem_cons.mpr ⟨lw_p108, List.forall_mem_cons.mpr ⟨lw_p109, List.forall_mem_cons.mpr ⟨lw_p110, List.forall_mem_cons.mpr ⟨lw_p111, fun _ h => absurd h List.not_mem_nil⟩⟩⟩⟩⟩⟩⟩⟩⟩⟩⟩⟩⟩⟩⟩⟩
theorem lw_p112 : lw_okq (⟨"DarkRingModel", "felt", "(IIII)I"⟩, 65) := ⟨⟨by decide +kernel, by decide +kernel⟩, List.mem_of_getElem? (i := 1709) (by decide +kernel), List.mem_of_getElem? (i := 2225) (by decide +kernel), List.mem_of_getElem? (i := 2226) (by decide +kernel)⟩
theorem lw_p113 : lw_okq (⟨"DarkRingModel", "stepAs", "(III)I"⟩, 65) := ⟨⟨by decide +kernel, by decide +kernel⟩, List.mem_of_getElem? (i := 1709) (by decide +kernel), List.mem_of_getElem? (i := 2229) (by decide +kernel), List.mem_of_getElem? (i := 2230) (by decide +kernel)⟩
theorem lw_p114 : lw_okq (⟨"DarkRingModel", "goAs", "()V"⟩, 65) := ⟨⟨by decide +kernel, by decide +kernel⟩, List.mem_of_getElem? (i := 1709) (by decide +kernel), List.mem_of_getElem? (i := 2237) (by decide +kernel), List.mem_of_getElem? (i := 2238) (by decide +kernel)⟩
theorem lw_p115 : lw_okq (⟨"DarkRingModel", "onward", "(I)I"⟩, 65) := ⟨⟨by decide +kernel, by decide +kernel⟩, List.mem_of_getElem? (i := 1709) (by decide +kernel), List.mem_of_getElem? (i := 2241) (by decide +kernel), List.mem_of_getElem? (i := 2242) (by decide +kernel)⟩
theorem lw_p116 : lw_okq (⟨"DarkRingModel", "turnAs", "()V"⟩, 65) := ⟨⟨by decide +kernel, by decide +kernel⟩, List.mem_of_getElem? (i := 1709) (by decide +kernel), List.mem_of_getElem? (i := 2249) (by decide +kernel), List.mem_of_getElem? (i := 2250) (by decide +kernel)⟩
theorem lw_p117 : lw_okq (⟨"DarkRingModel", "tryAs", "(IZ)Z"⟩, 65) := ⟨⟨by decide +kernel, by decide +kernel⟩, List.mem_of_getElem? (i := 1709) (by decide +kernel), List.mem_of_getElem? (i := 2257) (by decide +kernel), List.mem_of_getElem? (i := 2258) (by decide +kernel)⟩
theorem lw_p118 : lw_okq (⟨"DarkRingModel", "canOpen", "(II)Z"⟩, 65) := ⟨⟨by decide +kernel, by decide +kernel⟩, List.mem_of_getElem? (i := 1709) (by decide +kernel), List.mem_of_getElem? (i := 2261) (by decide +kernel), List.mem_of_getElem? (i := 2262) (by decide +kernel)⟩
theorem lw_p119 : lw_okq (⟨"DarkRingModel", "fraction", "(JJ)Z"⟩, 65) := ⟨⟨by decide +kernel, by decide +kernel⟩, List.mem_of_getElem? (i := 1709) (by decide +kernel), List.mem_of_getElem? (i := 2269) (by decide +kernel), List.mem_of_getElem? (i := 2270) (by decide +kernel)⟩
theorem lw_p120 : lw_okq (⟨"DarkRingModel", "opensOf", "(I)J"⟩, 65) := ⟨⟨by decide +kernel, by decide +kernel⟩, List.mem_of_getElem? (i := 1709) (by decide +kernel), List.mem_of_getElem? (i := 2280) (by decide +kernel), List.mem_of_getElem? (i := 2281) (by decide +kernel)⟩
theorem lw_p121 : lw_okq (⟨"DarkRingModel", "findWorth", "(II)J"⟩, 65) := ⟨⟨by decide +kernel, by decide +kernel⟩, List.mem_of_getElem? (i := 1709) (by decide +kernel), List.mem_of_getElem? (i := 2289) (by decide +kernel), List.mem_of_getElem? (i := 2290) (by decide +kernel)⟩
theorem lw_p122 : lw_okq (⟨"DarkRingModel", "worthOf", "(III)J"⟩, 65) := ⟨⟨by decide +kernel, by decide +kernel⟩, List.mem_of_getElem? (i := 1709) (by decide +kernel), List.mem_of_getElem? (i := 2293) (by decide +kernel), List.mem_of_getElem? (i := 2294) (by decide +kernel)⟩
theorem lw_p123 : lw_okq (⟨"DarkRingModel", "triedWorth", "(III)J"⟩, 65) := ⟨⟨by decide +kernel, by decide +kernel⟩, List.mem_of_getElem? (i := 1709) (by decide +kernel), List.mem_of_getElem? (i := 2297) (by decide +kernel), List.mem_of_getElem? (i := 2298) (by decide +kernel)⟩
theorem lw_p124 : lw_okq (⟨"DarkRingModel", "goneWorth", "(III)J"⟩, 65) := ⟨⟨by decide +kernel, by decide +kernel⟩, List.mem_of_getElem? (i := 1709) (by decide +kernel), List.mem_of_getElem? (i := 2305) (by decide +kernel), List.mem_of_getElem? (i := 2306) (by decide +kernel)⟩
theorem lw_p125 : lw_okq (⟨"DarkRingModel", "feltWorth", "(IIII)J"⟩, 65) := ⟨⟨by decide +kernel, by decide +kernel⟩, List.mem_of_getElem? (i := 1709) (by decide +kernel), List.mem_of_getElem? (i := 2309) (by decide +kernel), List.mem_of_getElem? (i := 2310) (by decide +kernel)⟩
theorem lw_p126 : lw_okq (⟨"DarkRingModel", "search", "(III)I"⟩, 65) := ⟨⟨by decide +kernel, by decide +kernel⟩, List.mem_of_getElem? (i := 1709) (by decide +kernel), List.mem_of_getElem? (i := 2321) (by decide +kernel), List.mem_of_getElem? (i := 2322) (by decide +kernel)⟩
theorem lw_p127 : lw_okq (⟨"DarkRingModel", "meanFrom", "(II)V"⟩, 65) := ⟨⟨by decide +kernel, by decide +kernel⟩, List.mem_of_getElem? (i := 1709) (by decide +kernel), List.mem_of_getElem? (i := 2329) (by decide +kernel), List.mem_of_getElem? (i := 2330) (by decide +kernel)⟩
def lw_privs_8 : List (MethodName × Nat) := [(⟨"DarkRingModel", "felt", "(IIII)I"⟩, 65), (⟨"DarkRingModel", "stepAs", "(III)I"⟩, 65), (⟨"DarkRingModel", "goAs", "()V"⟩, 65), (⟨"DarkRingModel", "onward", "(I)I"⟩, 65), (⟨"DarkRingModel", "turnAs", "()V"⟩, 65), (⟨"DarkRingModel", "tryAs", "(IZ)Z"⟩, 65), (⟨"DarkRingModel", "canOpen", "(II)Z"⟩, 65), (⟨"DarkRingModel", "fraction", "(JJ)Z"⟩, 65), (⟨"DarkRingModel", "opensOf", "(I)J"⟩, 65), (⟨"DarkRingModel", "findWorth", "(II)J"⟩, 65), (⟨"DarkRingModel", "worthOf", "(III)J"⟩, 65), (⟨"DarkRingModel", "triedWorth", "(III)J"⟩, 65), (⟨"DarkRingModel", "goneWorth", "(III)J"⟩, 65), (⟨"DarkRingModel", "feltWorth", "(IIII)J"⟩, 65), (⟨"DarkRingModel", "search", "(III)I"⟩, 65), (⟨"DarkRingModel", "meanFrom", "(II)V"⟩, 65)]
theorem lw_r8 : ∀ q ∈ lw_privs_8, lw_okq q := List.forall_mem_cons.mpr ⟨lw_p112, List.forall_mem_cons.mpr ⟨lw_p113, List.forall_mem_cons.mpr ⟨lw_p114, List.forall_mem_cons.mpr ⟨lw_p115, List.forall_mem_cons.mpr ⟨lw_p116, List.forall_mem_cons.mpr ⟨lw_p117, List.forall_mem_cons.mpr ⟨lw_p118, List.forall_mem_cons.mpr ⟨lw_p119, List.forall_mem_cons.mpr ⟨lw_p120, List.forall_mem_cons.mpr ⟨lw_p121, List.forall_mem_cons.mpr ⟨lw_p122, List.forall_mem_cons.mpr ⟨lw_p123, List.forall_mem_cons.mpr ⟨lw_p124, List.forall_mem_cons.mpr ⟨lw_p125, List.forall_mem_cons.mpr ⟨lw_p126, List.forall_mem_cons.mpr ⟨lw_p127, fun _ h => absurd h List.not_mem_nil⟩⟩⟩⟩⟩⟩⟩⟩⟩⟩⟩⟩⟩⟩⟩⟩
theorem lw_p128 : lw_okq (⟨"DarkRingModel", "meanAnywhere", "()V"⟩, 65) := ⟨⟨by decide +kernel, by decide +kernel⟩, List.mem_of_getElem? (i := 1709) (by decide +kernel), List.mem_of_getElem? (i := 2337) (by decide +kernel), List.mem_of_getElem? (i := 2338) (by decide +kernel)⟩
theorem lw_p129 : lw_okq (⟨"DarkRingModel", "findOrder", "(I)V"⟩, 65) := ⟨⟨by decide +kernel, by decide +kernel⟩, List.mem_of_getElem? (i := 1709) (by decide +kernel), List.mem_of_getElem? (i := 2345) (by decide +kernel), List.mem_of_getElem? (i := 2346) (by decide +kernel)⟩
theorem lw_p130 : lw_okq (⟨"DarkRingModel", "orderFrom", "(I)V"⟩, 65) := ⟨⟨by decide +kernel, by decide +kernel⟩, List.mem_of_getElem? (i := 1709) (by decide +kernel), List.mem_of_getElem? (i := 2349) (by decide +kernel), List.mem_of_getElem? (i := 2350) (by decide +kernel)⟩
theorem lw_p131 : lw_okq (⟨"DarkRingModel", "judge", "()V"⟩, 65) := ⟨⟨by decide +kernel, by decide +kernel⟩, List.mem_of_getElem? (i := 1709) (by decide +kernel), List.mem_of_getElem? (i := 2353) (by decide +kernel), List.mem_of_getElem? (i := 2354) (by decide +kernel)⟩
theorem lw_p132 : lw_okq (⟨"DarkRingModel", "walk", "()I"⟩, 65) := ⟨⟨by decide +kernel, by decide +kernel⟩, List.mem_of_getElem? (i := 1709) (by decide +kernel), List.mem_of_getElem? (i := 2357) (by decide +kernel), List.mem_of_getElem? (i := 2358) (by decide +kernel)⟩
theorem lw_p133 : lw_okq (⟨"DarkRingModel", "isOrdered", "(I)Z"⟩, 65) := ⟨⟨by decide +kernel, by decide +kernel⟩, List.mem_of_getElem? (i := 1709) (by decide +kernel), List.mem_of_getElem? (i := 2362) (by decide +kernel), List.mem_of_getElem? (i := 2363) (by decide +kernel)⟩
theorem lw_p134 : lw_okq (⟨"DarkRingModel", "isUsed", "(II)Z"⟩, 65) := ⟨⟨by decide +kernel, by decide +kernel⟩, List.mem_of_getElem? (i := 1709) (by decide +kernel), List.mem_of_getElem? (i := 2366) (by decide +kernel), List.mem_of_getElem? (i := 2367) (by decide +kernel)⟩
theorem lw_p135 : lw_okq (⟨"DarkRingModel", "rowFrom", "(II)V"⟩, 65) := ⟨⟨by decide +kernel, by decide +kernel⟩, List.mem_of_getElem? (i := 1709) (by decide +kernel), List.mem_of_getElem? (i := 2374) (by decide +kernel), List.mem_of_getElem? (i := 2375) (by decide +kernel)⟩
theorem lw_p136 : lw_okq (⟨"DarkRingModel", "judgeRow", "(II)V"⟩, 65) := ⟨⟨by decide +kernel, by decide +kernel⟩, List.mem_of_getElem? (i := 1709) (by decide +kernel), List.mem_of_getElem? (i := 2378) (by decide +kernel), List.mem_of_getElem? (i := 2379) (by decide +kernel)⟩
theorem lw_p137 : lw_okq (⟨"DarkRingModel", "hasOpener", "(I)Z"⟩, 65) := ⟨⟨by decide +kernel, by decide +kernel⟩, List.mem_of_getElem? (i := 1709) (by decide +kernel), List.mem_of_getElem? (i := 2382) (by decide +kernel), List.mem_of_getElem? (i := 2383) (by decide +kernel)⟩
theorem lw_p138 : lw_okq (⟨"DarkRingModel", "all", "()I"⟩, 65) := ⟨⟨by decide +kernel, by decide +kernel⟩, List.mem_of_getElem? (i := 1709) (by decide +kernel), List.mem_of_getElem? (i := 2402) (by decide +kernel), List.mem_of_getElem? (i := 2403) (by decide +kernel)⟩
theorem lw_p139 : lw_okq (⟨"DarkRingModel", "differ", "(IIIII)Z"⟩, 65) := ⟨⟨by decide +kernel, by decide +kernel⟩, List.mem_of_getElem? (i := 1709) (by decide +kernel), List.mem_of_getElem? (i := 2406) (by decide +kernel), List.mem_of_getElem? (i := 2407) (by decide +kernel)⟩
theorem lw_p140 : lw_okq (⟨"DarkRingModel", "tellsAll", "(IZ)Z"⟩, 65) := ⟨⟨by decide +kernel, by decide +kernel⟩, List.mem_of_getElem? (i := 1709) (by decide +kernel), List.mem_of_getElem? (i := 2417) (by decide +kernel), List.mem_of_getElem? (i := 2418) (by decide +kernel)⟩
theorem lw_p141 : lw_okq (⟨"DarkRingModel", "isKnown", "(IZ)Z"⟩, 65) := ⟨⟨by decide +kernel, by decide +kernel⟩, List.mem_of_getElem? (i := 1709) (by decide +kernel), List.mem_of_getElem? (i := 2430) (by decide +kernel), List.mem_of_getElem? (i := 2431) (by decide +kernel)⟩
theorem lw_p142 : lw_okq (⟨"DarkRingModel", "areSame", "(IIII)Z"⟩, 65) := ⟨⟨by decide +kernel, by decide +kernel⟩, List.mem_of_getElem? (i := 1709) (by decide +kernel), List.mem_of_getElem? (i := 2434) (by decide +kernel), List.mem_of_getElem? (i := 2435) (by decide +kernel)⟩
theorem lw_p143 : lw_okq (⟨"DarkRingModel", "besides", "(I)I"⟩, 65) := ⟨⟨by decide +kernel, by decide +kernel⟩, List.mem_of_getElem? (i := 1709) (by decide +kernel), List.mem_of_getElem? (i := 2442) (by decide +kernel), List.mem_of_getElem? (i := 2443) (by decide +kernel)⟩
def lw_privs_9 : List (MethodName × Nat) := [(⟨"DarkRingModel", "meanAnywhere", "()V"⟩, 65), (⟨"DarkRingModel", "findOrder", "(I)V"⟩, 65), (⟨"DarkRingModel", "orderFrom", "(I)V"⟩, 65), (⟨"DarkRingModel", "judge", "()V"⟩, 65), (⟨"DarkRingModel", "walk", "()I"⟩, 65), (⟨"DarkRingModel", "isOrdered", "(I)Z"⟩, 65), (⟨"DarkRingModel", "isUsed", "(II)Z"⟩, 65), (⟨"DarkRingModel", "rowFrom", "(II)V"⟩, 65), (⟨"DarkRingModel", "judgeRow", "(II)V"⟩, 65), (⟨"DarkRingModel", "hasOpener", "(I)Z"⟩, 65), (⟨"DarkRingModel", "all", "()I"⟩, 65), (⟨"DarkRingModel", "differ", "(IIIII)Z"⟩, 65), (⟨"DarkRingModel", "tellsAll", "(IZ)Z"⟩, 65), (⟨"DarkRingModel", "isKnown", "(IZ)Z"⟩, 65), (⟨"DarkRingModel", "areSame", "(IIII)Z"⟩, 65), (⟨"DarkRingModel", "besides", "(I)I"⟩, 65)]
theorem lw_r9 : ∀ q ∈ lw_privs_9, lw_okq q := List.forall_mem_cons.mpr ⟨lw_p128, List.forall_mem_cons.mpr ⟨lw_p129, List.forall_mem_cons.mpr ⟨lw_p130, List.forall_mem_cons.mpr ⟨lw_p131, List.forall_mem_cons.mpr ⟨lw_p132, List.forall_mem_cons.mpr ⟨lw_p133, List.forall_mem_cons.mpr ⟨lw_p134, List.forall_mem_cons.mpr ⟨lw_p135, List.forall_mem_cons.mpr ⟨lw_p136, List.forall_mem_cons.mpr ⟨lw_p137, List.forall_mem_cons.mpr ⟨lw_p138, List.forall_mem_cons.mpr ⟨lw_p139, List.forall_mem_cons.mpr ⟨lw_p140, List.forall_mem_cons.mpr ⟨lw_p141, List.forall_mem_cons.mpr ⟨lw_p142, List.forall_mem_cons.mpr ⟨lw_p143, fun _ h => absurd h List.not_mem_nil⟩⟩⟩⟩⟩⟩⟩⟩⟩⟩⟩⟩⟩⟩⟩⟩
theorem lw_p144 : lw_okq (⟨"DarkRingModel", "isOnly", "(II)Z"⟩, 65) := ⟨⟨by decide +kernel, by decide +kernel⟩, List.mem_of_getElem? (i := 1709) (by decide +kernel), List.mem_of_getElem? (i := 2447) (by decide +kernel), List.mem_of_getElem? (i := 2448) (by decide +kernel)⟩
theorem lw_p145 : lw_okq (⟨"DarkRingModel", "readStep", "(I)V"⟩, 65) := ⟨⟨by decide +kernel, by decide +kernel⟩, List.mem_of_getElem? (i := 1709) (by decide +kernel), List.mem_of_getElem? (i := 2463) (by decide +kernel), List.mem_of_getElem? (i := 2464) (by decide +kernel)⟩
theorem lw_p146 : lw_okq (⟨"DarkRingModel", "isWhen", "()Z"⟩, 65) := ⟨⟨by decide +kernel, by decide +kernel⟩, List.mem_of_getElem? (i := 1709) (by decide +kernel), List.mem_of_getElem? (i := 2467) (by decide +kernel), List.mem_of_getElem? (i := 2468) (by decide +kernel)⟩
theorem lw_p147 : lw_okq (⟨"DarkRingModel", "isLoop", "()Z"⟩, 65) := ⟨⟨by decide +kernel, by decide +kernel⟩, List.mem_of_getElem? (i := 1709) (by decide +kernel), List.mem_of_getElem? (i := 2471) (by decide +kernel), List.mem_of_getElem? (i := 2472) (by decide +kernel)⟩
theorem lw_p148 : lw_okq (⟨"DarkRingModel", "plainStep", "()I"⟩, 65) := ⟨⟨by decide +kernel, by decide +kernel⟩, List.mem_of_getElem? (i := 1709) (by decide +kernel), List.mem_of_getElem? (i := 2475) (by decide +kernel), List.mem_of_getElem? (i := 2476) (by decide +kernel)⟩
theorem lw_p149 : lw_okq (⟨"DarkRingModel", "isTurn", "()Z"⟩, 65) := ⟨⟨by decide +kernel, by decide +kernel⟩, List.mem_of_getElem? (i := 1709) (by decide +kernel), List.mem_of_getElem? (i := 2479) (by decide +kernel), List.mem_of_getElem? (i := 2480) (by decide +kernel)⟩
theorem lw_p150 : lw_okq (⟨"DarkRingModel", "isStop", "()Z"⟩, 65) := ⟨⟨by decide +kernel, by decide +kernel⟩, List.mem_of_getElem? (i := 1709) (by decide +kernel), List.mem_of_getElem? (i := 2483) (by decide +kernel), List.mem_of_getElem? (i := 2484) (by decide +kernel)⟩
theorem lw_p151 : lw_okq (⟨"DarkRingModel", "readWhen", "(I)V"⟩, 65) := ⟨⟨by decide +kernel, by decide +kernel⟩, List.mem_of_getElem? (i := 1709) (by decide +kernel), List.mem_of_getElem? (i := 2487) (by decide +kernel), List.mem_of_getElem? (i := 2488) (by decide +kernel)⟩
theorem lw_p152 : lw_okq (⟨"DarkRingModel", "isFelt", "()Z"⟩, 65) := ⟨⟨by decide +kernel, by decide +kernel⟩, List.mem_of_getElem? (i := 1709) (by decide +kernel), List.mem_of_getElem? (i := 2491) (by decide +kernel), List.mem_of_getElem? (i := 2492) (by decide +kernel)⟩
theorem lw_p153 : lw_okq (⟨"DarkRingModel", "readFeatureName", "()I"⟩, 65) := ⟨⟨by decide +kernel, by decide +kernel⟩, List.mem_of_getElem? (i := 1709) (by decide +kernel), List.mem_of_getElem? (i := 2495) (by decide +kernel), List.mem_of_getElem? (i := 2496) (by decide +kernel)⟩
theorem lw_p154 : lw_okq (⟨"DarkRingModel", "isSure", "()Z"⟩, 65) := ⟨⟨by decide +kernel, by decide +kernel⟩, List.mem_of_getElem? (i := 1709) (by decide +kernel), List.mem_of_getElem? (i := 2499) (by decide +kernel), List.mem_of_getElem? (i := 2500) (by decide +kernel)⟩
theorem lw_p155 : lw_okq (⟨"DarkRingModel", "isTried", "()Z"⟩, 65) := ⟨⟨by decide +kernel, by decide +kernel⟩, List.mem_of_getElem? (i := 1709) (by decide +kernel), List.mem_of_getElem? (i := 2503) (by decide +kernel), List.mem_of_getElem? (i := 2504) (by decide +kernel)⟩
theorem lw_p156 : lw_okq (⟨"DarkRingModel", "isEnd", "()Z"⟩, 65) := ⟨⟨by decide +kernel, by decide +kernel⟩, List.mem_of_getElem? (i := 1709) (by decide +kernel), List.mem_of_getElem? (i := 2507) (by decide +kernel), List.mem_of_getElem? (i := 2508) (by decide +kernel)⟩
theorem lw_p157 : lw_okq (⟨"DarkRingModel", "playOnce", "(III)V"⟩, 65) := ⟨⟨by decide +kernel, by decide +kernel⟩, List.mem_of_getElem? (i := 1709) (by decide +kernel), List.mem_of_getElem? (i := 2516) (by decide +kernel), List.mem_of_getElem? (i := 2517) (by decide +kernel)⟩
theorem lw_p158 : lw_okq (⟨"DarkRingModel", "pickUp", "()V"⟩, 65) := ⟨⟨by decide +kernel, by decide +kernel⟩, List.mem_of_getElem? (i := 1709) (by decide +kernel), List.mem_of_getElem? (i := 2520) (by decide +kernel), List.mem_of_getElem? (i := 2521) (by decide +kernel)⟩
theorem lw_p159 : lw_okq (⟨"DarkRingModel", "draw", "(I)I"⟩, 65) := ⟨⟨by decide +kernel, by decide +kernel⟩, List.mem_of_getElem? (i := 1709) (by decide +kernel), List.mem_of_getElem? (i := 2524) (by decide +kernel), List.mem_of_getElem? (i := 2525) (by decide +kernel)⟩
def lw_privs_10 : List (MethodName × Nat) := [(⟨"DarkRingModel", "isOnly", "(II)Z"⟩, 65), (⟨"DarkRingModel", "readStep", "(I)V"⟩, 65), (⟨"DarkRingModel", "isWhen", "()Z"⟩, 65), (⟨"DarkRingModel", "isLoop", "()Z"⟩, 65), (⟨"DarkRingModel", "plainStep", "()I"⟩, 65), (⟨"DarkRingModel", "isTurn", "()Z"⟩, 65), (⟨"DarkRingModel", "isStop", "()Z"⟩, 65), (⟨"DarkRingModel", "readWhen", "(I)V"⟩, 65), (⟨"DarkRingModel", "isFelt", "()Z"⟩, 65), (⟨"DarkRingModel", "readFeatureName", "()I"⟩, 65), (⟨"DarkRingModel", "isSure", "()Z"⟩, 65), (⟨"DarkRingModel", "isTried", "()Z"⟩, 65), (⟨"DarkRingModel", "isEnd", "()Z"⟩, 65), (⟨"DarkRingModel", "playOnce", "(III)V"⟩, 65), (⟨"DarkRingModel", "pickUp", "()V"⟩, 65), (⟨"DarkRingModel", "draw", "(I)I"⟩, 65)]
theorem lw_r10 : ∀ q ∈ lw_privs_10, lw_okq q := List.forall_mem_cons.mpr ⟨lw_p144, List.forall_mem_cons.mpr ⟨lw_p145, List.forall_mem_cons.mpr ⟨lw_p146, List.forall_mem_cons.mpr ⟨lw_p147, List.forall_mem_cons.mpr ⟨lw_p148, List.forall_mem_cons.mpr ⟨lw_p149, List.forall_mem_cons.mpr ⟨lw_p150, List.forall_mem_cons.mpr ⟨lw_p151, List.forall_mem_cons.mpr ⟨lw_p152, List.forall_mem_cons.mpr ⟨lw_p153, List.forall_mem_cons.mpr ⟨lw_p154, List.forall_mem_cons.mpr ⟨lw_p155, List.forall_mem_cons.mpr ⟨lw_p156, List.forall_mem_cons.mpr ⟨lw_p157, List.forall_mem_cons.mpr ⟨lw_p158, List.forall_mem_cons.mpr ⟨lw_p159, fun _ h => absurd h List.not_mem_nil⟩⟩⟩⟩⟩⟩⟩⟩⟩⟩⟩⟩⟩⟩⟩⟩
theorem lw_p160 : lw_okq (⟨"DarkRingModel", "forgetHere", "()V"⟩, 65) := ⟨⟨by decide +kernel, by decide +kernel⟩, List.mem_of_getElem? (i := 1709) (by decide +kernel), List.mem_of_getElem? (i := 2529) (by decide +kernel), List.mem_of_getElem? (i := 2530) (by decide +kernel)⟩
theorem lw_p161 : lw_okq (⟨"DarkRingModel", "doAll", "(II)V"⟩, 65) := ⟨⟨by decide +kernel, by decide +kernel⟩, List.mem_of_getElem? (i := 1709) (by decide +kernel), List.mem_of_getElem? (i := 2533) (by decide +kernel), List.mem_of_getElem? (i := 2534) (by decide +kernel)⟩
theorem lw_p162 : lw_okq (⟨"DarkRingModel", "doOne", "(I)V"⟩, 65) := ⟨⟨by decide +kernel, by decide +kernel⟩, List.mem_of_getElem? (i := 1709) (by decide +kernel), List.mem_of_getElem? (i := 2537) (by decide +kernel), List.mem_of_getElem? (i := 2538) (by decide +kernel)⟩
theorem lw_p163 : lw_okq (⟨"DarkRingModel", "doFeel", "(I)V"⟩, 65) := ⟨⟨by decide +kernel, by decide +kernel⟩, List.mem_of_getElem? (i := 1709) (by decide +kernel), List.mem_of_getElem? (i := 2541) (by decide +kernel), List.mem_of_getElem? (i := 2542) (by decide +kernel)⟩
theorem lw_p164 : lw_okq (⟨"DarkRingModel", "doTry", "()V"⟩, 65) := ⟨⟨by decide +kernel, by decide +kernel⟩, List.mem_of_getElem? (i := 1709) (by decide +kernel), List.mem_of_getElem? (i := 2545) (by decide +kernel), List.mem_of_getElem? (i := 2546) (by decide +kernel)⟩
theorem lw_p165 : lw_okq (⟨"DarkRingModel", "isSo", "(I)Z"⟩, 65) := ⟨⟨by decide +kernel, by decide +kernel⟩, List.mem_of_getElem? (i := 1709) (by decide +kernel), List.mem_of_getElem? (i := 2549) (by decide +kernel), List.mem_of_getElem? (i := 2550) (by decide +kernel)⟩
theorem lw_p166 : lw_okq (⟨"DarkRingModel", "copy", "(II)V"⟩, 65) := ⟨⟨by decide +kernel, by decide +kernel⟩, List.mem_of_getElem? (i := 1709) (by decide +kernel), List.mem_of_getElem? (i := 2567) (by decide +kernel), List.mem_of_getElem? (i := 2568) (by decide +kernel)⟩
def lw_privs_11 : List (MethodName × Nat) := [(⟨"DarkRingModel", "forgetHere", "()V"⟩, 65), (⟨"DarkRingModel", "doAll", "(II)V"⟩, 65), (⟨"DarkRingModel", "doOne", "(I)V"⟩, 65), (⟨"DarkRingModel", "doFeel", "(I)V"⟩, 65), (⟨"DarkRingModel", "doTry", "()V"⟩, 65), (⟨"DarkRingModel", "isSo", "(I)Z"⟩, 65), (⟨"DarkRingModel", "copy", "(II)V"⟩, 65)]
theorem lw_r11 : ∀ q ∈ lw_privs_11, lw_okq q := List.forall_mem_cons.mpr ⟨lw_p160, List.forall_mem_cons.mpr ⟨lw_p161, List.forall_mem_cons.mpr ⟨lw_p162, List.forall_mem_cons.mpr ⟨lw_p163, List.forall_mem_cons.mpr ⟨lw_p164, List.forall_mem_cons.mpr ⟨lw_p165, List.forall_mem_cons.mpr ⟨lw_p166, fun _ h => absurd h List.not_mem_nil⟩⟩⟩⟩⟩⟩⟩
def lw_privs : List (MethodName × Nat) := lw_privs_1 ++ (lw_privs_2 ++ (lw_privs_3 ++ (lw_privs_4 ++ (lw_privs_5 ++ (lw_privs_6 ++ (lw_privs_7 ++ (lw_privs_8 ++ (lw_privs_9 ++ (lw_privs_10 ++ (lw_privs_11))))))))))
def lw_tbl : List Cond := k2_sels lw_privs ++ tables_1
theorem lw_privs_ok : ∀ q ∈ lw_privs, lw_okq q := by
  show ∀ q ∈ lw_privs_1 ++ (lw_privs_2 ++ (lw_privs_3 ++ (lw_privs_4 ++ (lw_privs_5 ++ (lw_privs_6 ++ (lw_privs_7 ++ (lw_privs_8 ++ (lw_privs_9 ++ (lw_privs_10 ++ (lw_privs_11)))))))))), lw_okq q
  exact List.forall_mem_append.mpr ⟨lw_r1, List.forall_mem_append.mpr ⟨lw_r2, List.forall_mem_append.mpr ⟨lw_r3, List.forall_mem_append.mpr ⟨lw_r4, List.forall_mem_append.mpr ⟨lw_r5, List.forall_mem_append.mpr ⟨lw_r6, List.forall_mem_append.mpr ⟨lw_r7, List.forall_mem_append.mpr ⟨lw_r8, List.forall_mem_append.mpr ⟨lw_r9, List.forall_mem_append.mpr ⟨lw_r10, lw_r11⟩⟩⟩⟩⟩⟩⟩⟩⟩⟩
/-! ===== BEGIN words of one list among another's, by their places ===== -/
theorem goodIn_r {big : List Cond} (ws : List Cond) (ps : List Nat) (hp : ws = ps.filterMap (fun i => big[i]?)) (h : ws.all goodWord = true) : GoodIn big ws := by
  intro w hw
  have h1 := List.all_eq_true.mp h w hw
  rw [hp] at hw
  obtain ⟨i, -, hi⟩ := List.mem_filterMap.mp hw
  have hm : w ∈ big := by first | exact List.mem_of_getElem? hi | exact List.getElem?_mem hi
  exact ⟨hm, good_of_word h1⟩
theorem goodIn_app {big a b : List Cond} (ha : GoodIn big a) (hb : GoodIn big b) : GoodIn big (a ++ b) := fun w h => (List.mem_append.mp h).elim (ha w) (hb w)
theorem goodIn_ca {big a b : List Cond} {c : Cond} (ha : GoodIn big (c :: a)) (hb : GoodIn big b) : GoodIn big (c :: (a ++ b)) := fun w h => (List.mem_cons.mp h).elim (fun e => ha w (List.mem_cons.mpr (Or.inl e))) (fun h => (List.mem_append.mp h).elim (fun h => ha w (List.mem_cons.mpr (Or.inr h))) (hb w))
theorem goodIn_sub {big ws : List Cond} (hm : ∀ w ∈ ws, w ∈ big) (h : ws.all goodWord = true) : GoodIn big ws := fun w hw => ⟨hm w hw, good_of_word (List.all_eq_true.mp h w hw)⟩
/-! ===== END ===== -/
def RX0 : String := "DarkRing$Acts"
def TX0 : u_T := fun k => match k with
  | 0 => ("DarkRing$Acts", "house", "LDarkRing$House;", true)
  | 1 => ("DarkRing$Acts", "thought", "LDarkRing$Thought;", true)
  | 2 => ("DarkRing$Acts", "weights", "[J", true)
  | 3 => ("DarkRing$Acts", "many", "I", false)
  | 4 => ("DarkRing$Acts", "door", "I", false)
  | 5 => ("DarkRing$Acts", "mostWorth", "J", false)
  | _ => ("DarkRing$Acts", "firstAct", "I", false)
def tyX0 : Nat → FieldType := fun k => match k with
  | 0 => .object "DarkRing$House"
  | 1 => .object "DarkRing$Thought"
  | 2 => .array .long
  | 3 => .int
  | 4 => .int
  | 5 => .long
  | _ => .int
abbrev wsX00 : List Cond := u_ws RX0 TX0 7
theorem nmX0 : ∀ a, a < 7 → ∀ b, b < 7 → a ≠ b → (TX0 a).2.1 ≠ (TX0 b).2.1 := by decide +kernel
theorem tyX0_ok : ∀ k, k < 7 → parseFieldDescriptor (TX0 k).2.2.1 = some (tyX0 k) := by decide +kernel
abbrev cX0_init : ByteArray := prog_2_method_1_code
def yX0_init : MethodName := ⟨RX0, "<init>", "(LDarkRing$House;LDarkRing$Thought;)V"⟩
abbrev cX0_weigh : ByteArray := prog_2_method_2_code
def yX0_weigh : MethodName := ⟨RX0, "weigh", "(II)V"⟩
abbrev cX0_worthOf : ByteArray := prog_2_method_3_code
def yX0_worthOf : MethodName := ⟨RX0, "worthOf", "(II)J"⟩
abbrev cX0_worthAfter : ByteArray := prog_2_method_4_code
def yX0_worthAfter : MethodName := ⟨RX0, "worthAfter", "(III)J"⟩
abbrev cX0_first : ByteArray := prog_2_method_5_code
def yX0_first : MethodName := ⟨RX0, "first", "(I)I"⟩
abbrev cX0_tryInto : ByteArray := prog_2_method_6_code
def yX0_tryInto : MethodName := ⟨RX0, "tryInto", "(I)J"⟩
abbrev cX0_feelInto : ByteArray := prog_2_method_7_code
def yX0_feelInto : MethodName := ⟨RX0, "feelInto", "(III)Z"⟩
def RX1 : String := "DarkRing$Game"
def TX1 : u_T := fun k => match k with
  | 0 => ("DarkRing$Game", "house", "LDarkRing$House;", true)
  | 1 => ("DarkRing$Game", "rule", "LDarkRing$Rule;", true)
  | 2 => ("DarkRing$Game", "thought", "LDarkRing$Thought;", true)
  | 3 => ("DarkRing$Game", "rounds", "[I", true)
  | 4 => ("DarkRing$Game", "feltHere", "[I", true)
  | 5 => ("DarkRing$Game", "triedHere", "Z", false)
  | 6 => ("DarkRing$Game", "draws", "I", false)
  | 7 => ("DarkRing$Game", "door", "I", false)
  | 8 => ("DarkRing$Game", "place", "I", false)
  | 9 => ("DarkRing$Game", "way", "I", false)
  | 10 => ("DarkRing$Game", "line", "I", false)
  | 11 => ("DarkRing$Game", "isOver", "Z", false)
  | 12 => ("DarkRing$Game", "open", "Z", false)
  | 13 => ("DarkRing$Game", "seconds", "J", false)
  | 14 => ("DarkRing$Game", "steps", "I", false)
  | 15 => ("DarkRing$Game", "feelings", "I", false)
  | 16 => ("DarkRing$Game", "tries", "I", false)
  | 17 => ("DarkRing$Game", "cutOff", "Z", false)
  | 18 => ("DarkRing$Game", "kept", "[I", true)
  | _ => ("DarkRing$Game", "isKept", "Z", false)
def tyX1 : Nat → FieldType := fun k => match k with
  | 0 => .object "DarkRing$House"
  | 1 => .object "DarkRing$Rule"
  | 2 => .object "DarkRing$Thought"
  | 3 => .array .int
  | 4 => .array .int
  | 5 => .boolean
  | 6 => .int
  | 7 => .int
  | 8 => .int
  | 9 => .int
  | 10 => .int
  | 11 => .boolean
  | 12 => .boolean
  | 13 => .long
  | 14 => .int
  | 15 => .int
  | 16 => .int
  | 17 => .boolean
  | 18 => .array .int
  | _ => .boolean
abbrev wsX10 : List Cond := u_ws RX1 TX1 20
theorem nmX1 : ∀ a, a < 20 → ∀ b, b < 20 → a ≠ b → (TX1 a).2.1 ≠ (TX1 b).2.1 := by decide +kernel
theorem tyX1_ok : ∀ k, k < 20 → parseFieldDescriptor (TX1 k).2.2.1 = some (tyX1 k) := by decide +kernel
abbrev cX1_init : ByteArray := prog_3_method_1_code
def yX1_init : MethodName := ⟨RX1, "<init>", "(LDarkRing$House;LDarkRing$Rule;)V"⟩
abbrev cX1_run : ByteArray := prog_3_method_2_code
def yX1_run : MethodName := ⟨RX1, "run", "(III)V"⟩
abbrev cX1_keep : ByteArray := prog_3_method_3_code
def yX1_keep : MethodName := ⟨RX1, "keep", "()V"⟩
abbrev cX1_hasKept : ByteArray := prog_3_method_4_code
def yX1_hasKept : MethodName := ⟨RX1, "hasKept", "(I)Z"⟩
abbrev cX1_keptOf : ByteArray := prog_3_method_5_code
def yX1_keptOf : MethodName := ⟨RX1, "keptOf", "(I)I"⟩
abbrev cX1_drawBy : ByteArray := prog_3_method_6_code
def yX1_drawBy : MethodName := ⟨RX1, "drawBy", "(I)I"⟩
abbrev cX1_dropped : ByteArray := prog_3_method_7_code
def yX1_dropped : MethodName := ⟨RX1, "dropped", "()V"⟩
abbrev cX1_forgetHere : ByteArray := prog_3_method_8_code
def yX1_forgetHere : MethodName := ⟨RX1, "forgetHere", "()V"⟩
abbrev cX1_playEnd : ByteArray := prog_3_method_9_code
def yX1_playEnd : MethodName := ⟨RX1, "playEnd", "()V"⟩
abbrev cX1_playStep : ByteArray := prog_3_method_10_code
def yX1_playStep : MethodName := ⟨RX1, "playStep", "(I)V"⟩
abbrev cX1_playFeel : ByteArray := prog_3_method_11_code
def yX1_playFeel : MethodName := ⟨RX1, "playFeel", "(I)V"⟩
abbrev cX1_playTry : ByteArray := prog_3_method_12_code
def yX1_playTry : MethodName := ⟨RX1, "playTry", "()V"⟩
abbrev cX1_playGo : ByteArray := prog_3_method_13_code
def yX1_playGo : MethodName := ⟨RX1, "playGo", "()V"⟩
abbrev cX1_isSo : ByteArray := prog_3_method_14_code
def yX1_isSo : MethodName := ⟨RX1, "isSo", "(II)Z"⟩
def RX2 : String := "DarkRing$House"
def TX2 : u_T := fun k => match k with
  | 0 => ("DarkRing$House", "features", "I", false)
  | 1 => ("DarkRing$House", "featureNames", "[J", true)
  | 2 => ("DarkRing$House", "steps", "[I", true)
  | 3 => ("DarkRing$House", "turnedFeatures", "[I", true)
  | 4 => ("DarkRing$House", "sixteenths", "[I", true)
  | 5 => ("DarkRing$House", "keys", "I", false)
  | 6 => ("DarkRing$House", "keySteps", "[I", true)
  | 7 => ("DarkRing$House", "lent", "I", false)
  | 8 => ("DarkRing$House", "rings", "I", false)
  | 9 => ("DarkRing$House", "on", "[I", true)
  | 10 => ("DarkRing$House", "onMany", "[I", true)
  | 11 => ("DarkRing$House", "doors", "I", false)
  | 12 => ("DarkRing$House", "wanted", "[I", true)
  | 13 => ("DarkRing$House", "openers", "[I", true)
  | 14 => ("DarkRing$House", "seconds", "[I", true)
  | 15 => ("DarkRing$House", "turned", "I", false)
  | 16 => ("DarkRing$House", "roundMany", "I", false)
  | _ => ("DarkRing$House", "roundDoors", "[I", true)
def tyX2 : Nat → FieldType := fun k => match k with
  | 0 => .int
  | 1 => .array .long
  | 2 => .array .int
  | 3 => .array .int
  | 4 => .array .int
  | 5 => .int
  | 6 => .array .int
  | 7 => .int
  | 8 => .int
  | 9 => .array .int
  | 10 => .array .int
  | 11 => .int
  | 12 => .array .int
  | 13 => .array .int
  | 14 => .array .int
  | 15 => .int
  | 16 => .int
  | _ => .array .int
abbrev wsX20 : List Cond := u_ws RX2 TX2 18
theorem nmX2 : ∀ a, a < 18 → ∀ b, b < 18 → a ≠ b → (TX2 a).2.1 ≠ (TX2 b).2.1 := by decide +kernel
theorem tyX2_ok : ∀ k, k < 18 → parseFieldDescriptor (TX2 k).2.2.1 = some (tyX2 k) := by decide +kernel
abbrev cX2_init : ByteArray := prog_4_method_1_code
def yX2_init : MethodName := ⟨RX2, "<init>", "()V"⟩
abbrev cX2_clear : ByteArray := prog_4_method_2_code
def yX2_clear : MethodName := ⟨RX2, "clear", "()V"⟩
abbrev cX2_copy : ByteArray := prog_4_method_3_code
def yX2_copy : MethodName := ⟨RX2, "copy", "(LDarkRing$House;LDarkRing$House;)V"⟩
abbrev cX2_hasFeature : ByteArray := prog_4_method_4_code
def yX2_hasFeature : MethodName := ⟨RX2, "hasFeature", "(I)Z"⟩
abbrev cX2_hasStep : ByteArray := prog_4_method_5_code
def yX2_hasStep : MethodName := ⟨RX2, "hasStep", "(II)Z"⟩
abbrev cX2_hasKey : ByteArray := prog_4_method_6_code
def yX2_hasKey : MethodName := ⟨RX2, "hasKey", "(I)Z"⟩
abbrev cX2_hasRing : ByteArray := prog_4_method_7_code
def yX2_hasRing : MethodName := ⟨RX2, "hasRing", "(I)Z"⟩
abbrev cX2_hasDoor : ByteArray := prog_4_method_8_code
def yX2_hasDoor : MethodName := ⟨RX2, "hasDoor", "(I)Z"⟩
abbrev cX2_stepsOf : ByteArray := prog_4_method_9_code
def yX2_stepsOf : MethodName := ⟨RX2, "stepsOf", "(I)I"⟩
abbrev cX2_isTurned : ByteArray := prog_4_method_10_code
def yX2_isTurned : MethodName := ⟨RX2, "isTurned", "(I)Z"⟩
abbrev cX2_featureNamed : ByteArray := prog_4_method_11_code
def yX2_featureNamed : MethodName := ⟨RX2, "featureNamed", "(J)I"⟩
abbrev cX2_feltAs : ByteArray := prog_4_method_12_code
def yX2_feltAs : MethodName := ⟨RX2, "feltAs", "(III)I"⟩
abbrev cX2_stepAt : ByteArray := prog_4_method_13_code
def yX2_stepAt : MethodName := ⟨RX2, "stepAt", "(III)I"⟩
abbrev cX2_feltAsAt : ByteArray := prog_4_method_14_code
def yX2_feltAsAt : MethodName := ⟨RX2, "feltAsAt", "(IIII)I"⟩
abbrev cX2_unlocks : ByteArray := prog_4_method_15_code
def yX2_unlocks : MethodName := ⟨RX2, "unlocks", "(II)Z"⟩
abbrev cX2_openersOf : ByteArray := prog_4_method_16_code
def yX2_openersOf : MethodName := ⟨RX2, "openersOf", "(I)I"⟩
abbrev cX2_wantedOf : ByteArray := prog_4_method_17_code
def yX2_wantedOf : MethodName := ⟨RX2, "wantedOf", "(I)I"⟩
abbrev cX2_secondsOf : ByteArray := prog_4_method_18_code
def yX2_secondsOf : MethodName := ⟨RX2, "secondsOf", "(I)I"⟩
abbrev cX2_isLent : ByteArray := prog_4_method_19_code
def yX2_isLent : MethodName := ⟨RX2, "isLent", "(I)Z"⟩
abbrev cX2_manyOn : ByteArray := prog_4_method_20_code
def yX2_manyOn : MethodName := ⟨RX2, "manyOn", "(I)I"⟩
abbrev cX2_keyOn : ByteArray := prog_4_method_21_code
def yX2_keyOn : MethodName := ⟨RX2, "keyOn", "(II)I"⟩
abbrev cX2_setOn : ByteArray := prog_4_method_22_code
def yX2_setOn : MethodName := ⟨RX2, "setOn", "(I)I"⟩
abbrev cX2_placeOn : ByteArray := prog_4_method_23_code
def yX2_placeOn : MethodName := ⟨RX2, "placeOn", "(II)I"⟩
abbrev cX2_ringOf : ByteArray := prog_4_method_24_code
def yX2_ringOf : MethodName := ⟨RX2, "ringOf", "(I)I"⟩
abbrev cX2_rowThere : ByteArray := prog_4_method_25_code
def yX2_rowThere : MethodName := ⟨RX2, "rowThere", "(I[I)I"⟩
abbrev cX2_manyThere : ByteArray := prog_4_method_26_code
def yX2_manyThere : MethodName := ⟨RX2, "manyThere", "(I)I"⟩
abbrev cX2_keyThere : ByteArray := prog_4_method_27_code
def yX2_keyThere : MethodName := ⟨RX2, "keyThere", "(II)I"⟩
abbrev cX2_isOnlyOpener : ByteArray := prog_4_method_28_code
def yX2_isOnlyOpener : MethodName := ⟨RX2, "isOnlyOpener", "(II)Z"⟩
abbrev cX2_addFeature : ByteArray := prog_4_method_29_code
def yX2_addFeature : MethodName := ⟨RX2, "addFeature", "(JIZ)V"⟩
abbrev cX2_setFeltAs : ByteArray := prog_4_method_30_code
def yX2_setFeltAs : MethodName := ⟨RX2, "setFeltAs", "(IIII)V"⟩
abbrev cX2_setStep : ByteArray := prog_4_method_31_code
def yX2_setStep : MethodName := ⟨RX2, "setStep", "(III)V"⟩
abbrev cX2_setSeconds : ByteArray := prog_4_method_32_code
def yX2_setSeconds : MethodName := ⟨RX2, "setSeconds", "(II)V"⟩
abbrev cX2_setLent : ByteArray := prog_4_method_33_code
def yX2_setLent : MethodName := ⟨RX2, "setLent", "(IZ)V"⟩
abbrev cX2_addRing : ByteArray := prog_4_method_34_code
def yX2_addRing : MethodName := ⟨RX2, "addRing", "()V"⟩
abbrev cX2_addDoor : ByteArray := prog_4_method_35_code
def yX2_addDoor : MethodName := ⟨RX2, "addDoor", "(I)V"⟩
abbrev cX2_addOpener : ByteArray := prog_4_method_36_code
def yX2_addOpener : MethodName := ⟨RX2, "addOpener", "(II)V"⟩
abbrev cX2_addToRound : ByteArray := prog_4_method_37_code
def yX2_addToRound : MethodName := ⟨RX2, "addToRound", "(I)V"⟩
abbrev cX2_layAt : ByteArray := prog_4_method_38_code
def yX2_layAt : MethodName := ⟨RX2, "layAt", "(III)V"⟩
abbrev cX2_putOn : ByteArray := prog_4_method_39_code
def yX2_putOn : MethodName := ⟨RX2, "putOn", "(III)V"⟩
abbrev cX2_takeOff : ByteArray := prog_4_method_40_code
def yX2_takeOff : MethodName := ⟨RX2, "takeOff", "(II)V"⟩
def RX3 : String := "DarkRing$HouseReader"
def TX3 : u_T := fun k => match k with
  | 0 => ("DarkRing$HouseReader", "text", "LDarkRing$Text;", true)
  | 1 => ("DarkRing$HouseReader", "fresh", "LDarkRing$House;", true)
  | 2 => ("DarkRing$HouseReader", "featureNames", "[J", true)
  | 3 => ("DarkRing$HouseReader", "keyNames", "[J", true)
  | 4 => ("DarkRing$HouseReader", "ringNames", "[J", true)
  | 5 => ("DarkRing$HouseReader", "doorNames", "[J", true)
  | 6 => ("DarkRing$HouseReader", "keysOnRings", "I", false)
  | 7 => ("DarkRing$HouseReader", "feelsTold", "I", false)
  | 8 => ("DarkRing$HouseReader", "secondsTold", "Z", false)
  | _ => ("DarkRing$HouseReader", "turnedTold", "Z", false)
def tyX3 : Nat → FieldType := fun k => match k with
  | 0 => .object "DarkRing$Text"
  | 1 => .object "DarkRing$House"
  | 2 => .array .long
  | 3 => .array .long
  | 4 => .array .long
  | 5 => .array .long
  | 6 => .int
  | 7 => .int
  | 8 => .boolean
  | _ => .boolean
abbrev wsX30 : List Cond := u_ws RX3 TX3 10
theorem nmX3 : ∀ a, a < 10 → ∀ b, b < 10 → a ≠ b → (TX3 a).2.1 ≠ (TX3 b).2.1 := by decide +kernel
theorem tyX3_ok : ∀ k, k < 10 → parseFieldDescriptor (TX3 k).2.2.1 = some (tyX3 k) := by decide +kernel
abbrev cX3_init : ByteArray := prog_5_method_1_code
def yX3_init : MethodName := ⟨RX3, "<init>", "(LDarkRing$Text;)V"⟩
abbrev cX3_readAll : ByteArray := prog_5_method_2_code
def yX3_readAll : MethodName := ⟨RX3, "readAll", "()Z"⟩
abbrev cX3_readPart : ByteArray := prog_5_method_3_code
def yX3_readPart : MethodName := ⟨RX3, "readPart", "()Z"⟩
abbrev cX3_placeOf : ByteArray := prog_5_method_4_code
def yX3_placeOf : MethodName := ⟨RX3, "placeOf", "(J[JI)I"⟩
abbrev cX3_isTaken : ByteArray := prog_5_method_5_code
def yX3_isTaken : MethodName := ⟨RX3, "isTaken", "(J)Z"⟩
abbrev cX3_takeNewName : ByteArray := prog_5_method_6_code
def yX3_takeNewName : MethodName := ⟨RX3, "takeNewName", "()J"⟩
abbrev cX3_thingHere : ByteArray := prog_5_method_7_code
def yX3_thingHere : MethodName := ⟨RX3, "thingHere", "([JI)I"⟩
abbrev cX3_readFeature : ByteArray := prog_5_method_8_code
def yX3_readFeature : MethodName := ⟨RX3, "readFeature", "()Z"⟩
abbrev cX3_readFeels : ByteArray := prog_5_method_9_code
def yX3_readFeels : MethodName := ⟨RX3, "readFeels", "()Z"⟩
abbrev cX3_readKey : ByteArray := prog_5_method_10_code
def yX3_readKey : MethodName := ⟨RX3, "readKey", "()Z"⟩
abbrev cX3_readRing : ByteArray := prog_5_method_11_code
def yX3_readRing : MethodName := ⟨RX3, "readRing", "()Z"⟩
abbrev cX3_readDoor : ByteArray := prog_5_method_12_code
def yX3_readDoor : MethodName := ⟨RX3, "readDoor", "()Z"⟩
abbrev cX3_readSeconds : ByteArray := prog_5_method_13_code
def yX3_readSeconds : MethodName := ⟨RX3, "readSeconds", "()Z"⟩
abbrev cX3_wordOf : ByteArray := prog_5_method_14_code
def yX3_wordOf : MethodName := ⟨RX3, "wordOf", "(I)Ljava/lang/String;"⟩
abbrev cX3_readTurned : ByteArray := prog_5_method_15_code
def yX3_readTurned : MethodName := ⟨RX3, "readTurned", "()Z"⟩
abbrev cX3_readRound : ByteArray := prog_5_method_16_code
def yX3_readRound : MethodName := ⟨RX3, "readRound", "()Z"⟩
def RX4 : String := "DarkRing$Likeness"
def TX4 : u_T := fun k => match k with
  | 0 => ("DarkRing$Likeness", "house", "LDarkRing$House;", true)
  | 1 => ("DarkRing$Likeness", "row", "[I", true)
  | _ => ("DarkRing$Likeness", "places", "I", false)
def tyX4 : Nat → FieldType := fun k => match k with
  | 0 => .object "DarkRing$House"
  | 1 => .array .int
  | _ => .int
abbrev wsX40 : List Cond := u_ws RX4 TX4 3
theorem nmX4 : ∀ a, a < 3 → ∀ b, b < 3 → a ≠ b → (TX4 a).2.1 ≠ (TX4 b).2.1 := by decide +kernel
theorem tyX4_ok : ∀ k, k < 3 → parseFieldDescriptor (TX4 k).2.2.1 = some (tyX4 k) := by decide +kernel
abbrev cX4_init : ByteArray := prog_6_method_1_code
def yX4_init : MethodName := ⟨RX4, "<init>", "(LDarkRing$House;)V"⟩
abbrev cX4_load : ByteArray := prog_6_method_2_code
def yX4_load : MethodName := ⟨RX4, "load", "(I)V"⟩
abbrev cX4_keyAt : ByteArray := prog_6_method_3_code
def yX4_keyAt : MethodName := ⟨RX4, "keyAt", "(I)I"⟩
abbrev cX4_areAlike : ByteArray := prog_6_method_4_code
def yX4_areAlike : MethodName := ⟨RX4, "areAlike", "(IIII)Z"⟩
abbrev cX4_allFeatures : ByteArray := prog_6_method_5_code
def yX4_allFeatures : MethodName := ⟨RX4, "allFeatures", "()I"⟩
abbrev cX4_couplesAlike : ByteArray := prog_6_method_6_code
def yX4_couplesAlike : MethodName := ⟨RX4, "couplesAlike", "()I"⟩
abbrev cX4_alikeAhead : ByteArray := prog_6_method_7_code
def yX4_alikeAhead : MethodName := ⟨RX4, "alikeAhead", "(I)I"⟩
abbrev cX4_fewestFeatures : ByteArray := prog_6_method_8_code
def yX4_fewestFeatures : MethodName := ⟨RX4, "fewestFeatures", "(Z)I"⟩
abbrev cX4_tellsAllApart : ByteArray := prog_6_method_9_code
def yX4_tellsAllApart : MethodName := ⟨RX4, "tellsAllApart", "(IZ)Z"⟩
abbrev cX4_fewestFiled : ByteArray := prog_6_method_10_code
def yX4_fewestFiled : MethodName := ⟨RX4, "fewestFiled", "(I)I"⟩
abbrev cX4_leastInRow : ByteArray := prog_6_method_11_code
def yX4_leastInRow : MethodName := ⟨RX4, "leastInRow", "(Z)I"⟩
abbrev cX4_tellWhereOneIs : ByteArray := prog_6_method_12_code
def yX4_tellWhereOneIs : MethodName := ⟨RX4, "tellWhereOneIs", "(IZ)Z"⟩
abbrev cX4_showTheSame : ByteArray := prog_6_method_13_code
def yX4_showTheSame : MethodName := ⟨RX4, "showTheSame", "(IIII)Z"⟩
def RX5 : String := "DarkRing$Rule"
def TX5 : u_T := fun k => match k with
  | 0 => ("DarkRing$Rule", "lines", "I", false)
  | 1 => ("DarkRing$Rule", "steps", "I", false)
  | 2 => ("DarkRing$Rule", "asksSure", "Z", false)
  | 3 => ("DarkRing$Rule", "kinds", "[I", true)
  | 4 => ("DarkRing$Rule", "features", "[I", true)
  | 5 => ("DarkRing$Rule", "compares", "[I", true)
  | 6 => ("DarkRing$Rule", "numbers", "[I", true)
  | _ => ("DarkRing$Rule", "partners", "[I", true)
def tyX5 : Nat → FieldType := fun k => match k with
  | 0 => .int
  | 1 => .int
  | 2 => .boolean
  | 3 => .array .int
  | 4 => .array .int
  | 5 => .array .int
  | 6 => .array .int
  | _ => .array .int
abbrev wsX50 : List Cond := u_ws RX5 TX5 8
theorem nmX5 : ∀ a, a < 8 → ∀ b, b < 8 → a ≠ b → (TX5 a).2.1 ≠ (TX5 b).2.1 := by decide +kernel
theorem tyX5_ok : ∀ k, k < 8 → parseFieldDescriptor (TX5 k).2.2.1 = some (tyX5 k) := by decide +kernel
abbrev cX5_init : ByteArray := prog_7_method_1_code
def yX5_init : MethodName := ⟨RX5, "<init>", "()V"⟩
abbrev cX5_clear : ByteArray := prog_7_method_2_code
def yX5_clear : MethodName := ⟨RX5, "clear", "()V"⟩
abbrev cX5_copy : ByteArray := prog_7_method_3_code
def yX5_copy : MethodName := ⟨RX5, "copy", "(LDarkRing$Rule;LDarkRing$Rule;)V"⟩
abbrev cX5_kindAt : ByteArray := prog_7_method_4_code
def yX5_kindAt : MethodName := ⟨RX5, "kindAt", "(I)I"⟩
abbrev cX5_featureAt : ByteArray := prog_7_method_5_code
def yX5_featureAt : MethodName := ⟨RX5, "featureAt", "(I)I"⟩
abbrev cX5_compareAt : ByteArray := prog_7_method_6_code
def yX5_compareAt : MethodName := ⟨RX5, "compareAt", "(I)I"⟩
abbrev cX5_numberAt : ByteArray := prog_7_method_7_code
def yX5_numberAt : MethodName := ⟨RX5, "numberAt", "(I)I"⟩
abbrev cX5_partnerAt : ByteArray := prog_7_method_8_code
def yX5_partnerAt : MethodName := ⟨RX5, "partnerAt", "(I)I"⟩
abbrev cX5_add : ByteArray := prog_7_method_9_code
def yX5_add : MethodName := ⟨RX5, "add", "(IIII)V"⟩
abbrev cX5_pair : ByteArray := prog_7_method_10_code
def yX5_pair : MethodName := ⟨RX5, "pair", "(II)V"⟩
def RX6 : String := "DarkRing$RuleReader"
def TX6 : u_T := fun k => match k with
  | 0 => ("DarkRing$RuleReader", "text", "LDarkRing$Text;", true)
  | 1 => ("DarkRing$RuleReader", "house", "LDarkRing$House;", true)
  | 2 => ("DarkRing$RuleReader", "fresh", "LDarkRing$Rule;", true)
  | 3 => ("DarkRing$RuleReader", "begun", "[I", true)
  | _ => ("DarkRing$RuleReader", "depth", "I", false)
def tyX6 : Nat → FieldType := fun k => match k with
  | 0 => .object "DarkRing$Text"
  | 1 => .object "DarkRing$House"
  | 2 => .object "DarkRing$Rule"
  | 3 => .array .int
  | _ => .int
abbrev wsX60 : List Cond := u_ws RX6 TX6 5
theorem nmX6 : ∀ a, a < 5 → ∀ b, b < 5 → a ≠ b → (TX6 a).2.1 ≠ (TX6 b).2.1 := by decide +kernel
theorem tyX6_ok : ∀ k, k < 5 → parseFieldDescriptor (TX6 k).2.2.1 = some (tyX6 k) := by decide +kernel
abbrev cX6_init : ByteArray := prog_8_method_1_code
def yX6_init : MethodName := ⟨RX6, "<init>", "(LDarkRing$Text;LDarkRing$House;)V"⟩
abbrev cX6_readAll : ByteArray := prog_8_method_2_code
def yX6_readAll : MethodName := ⟨RX6, "readAll", "()Z"⟩
abbrev cX6_readStep : ByteArray := prog_8_method_3_code
def yX6_readStep : MethodName := ⟨RX6, "readStep", "()Z"⟩
abbrev cX6_readPlain : ByteArray := prog_8_method_4_code
def yX6_readPlain : MethodName := ⟨RX6, "readPlain", "(I)Z"⟩
abbrev cX6_beginBlock : ByteArray := prog_8_method_5_code
def yX6_beginBlock : MethodName := ⟨RX6, "beginBlock", "()Z"⟩
abbrev cX6_plainKind : ByteArray := prog_8_method_6_code
def yX6_plainKind : MethodName := ⟨RX6, "plainKind", "()I"⟩
abbrev cX6_readLoop : ByteArray := prog_8_method_7_code
def yX6_readLoop : MethodName := ⟨RX6, "readLoop", "()Z"⟩
abbrev cX6_readWhen : ByteArray := prog_8_method_8_code
def yX6_readWhen : MethodName := ⟨RX6, "readWhen", "()Z"⟩
abbrev cX6_takeFeature : ByteArray := prog_8_method_9_code
def yX6_takeFeature : MethodName := ⟨RX6, "takeFeature", "()I"⟩
abbrev cX6_readEnd : ByteArray := prog_8_method_10_code
def yX6_readEnd : MethodName := ⟨RX6, "readEnd", "()Z"⟩
def RX7 : String := "DarkRing$Search"
def TX7 : u_T := fun k => match k with
  | 0 => ("DarkRing$Search", "house", "LDarkRing$House;", true)
  | 1 => ("DarkRing$Search", "row", "[I", true)
  | 2 => ("DarkRing$Search", "places", "I", false)
  | 3 => ("DarkRing$Search", "found", "[I", true)
  | 4 => ("DarkRing$Search", "foundMany", "I", false)
  | 5 => ("DarkRing$Search", "ringRow", "[I", true)
  | 6 => ("DarkRing$Search", "ringPlaces", "[I", true)
  | 7 => ("DarkRing$Search", "ringSeconds", "[I", true)
  | 8 => ("DarkRing$Search", "ringOpens", "[Z", true)
  | 9 => ("DarkRing$Search", "meanTop", "J", false)
  | _ => ("DarkRing$Search", "meanBottom", "J", false)
def tyX7 : Nat → FieldType := fun k => match k with
  | 0 => .object "DarkRing$House"
  | 1 => .array .int
  | 2 => .int
  | 3 => .array .int
  | 4 => .int
  | 5 => .array .int
  | 6 => .array .int
  | 7 => .array .int
  | 8 => .array .boolean
  | 9 => .long
  | _ => .long
abbrev wsX70 : List Cond := u_ws RX7 TX7 11
theorem nmX7 : ∀ a, a < 11 → ∀ b, b < 11 → a ≠ b → (TX7 a).2.1 ≠ (TX7 b).2.1 := by decide +kernel
theorem tyX7_ok : ∀ k, k < 11 → parseFieldDescriptor (TX7 k).2.2.1 = some (tyX7 k) := by decide +kernel
abbrev cX7_init : ByteArray := prog_9_method_1_code
def yX7_init : MethodName := ⟨RX7, "<init>", "(LDarkRing$House;)V"⟩
abbrev cX7_load : ByteArray := prog_9_method_2_code
def yX7_load : MethodName := ⟨RX7, "load", "(I)V"⟩
abbrev cX7_hasPlace : ByteArray := prog_9_method_3_code
def yX7_hasPlace : MethodName := ⟨RX7, "hasPlace", "(I)Z"⟩
abbrev cX7_isOf : ByteArray := prog_9_method_4_code
def yX7_isOf : MethodName := ⟨RX7, "isOf", "(II)Z"⟩
abbrev cX7_someOpens : ByteArray := prog_9_method_5_code
def yX7_someOpens : MethodName := ⟨RX7, "someOpens", "(I)Z"⟩
abbrev cX7_secondsOfTries : ByteArray := prog_9_method_6_code
def yX7_secondsOfTries : MethodName := ⟨RX7, "secondsOfTries", "(I)I"⟩
abbrev cX7_secondsFrom : ByteArray := prog_9_method_7_code
def yX7_secondsFrom : MethodName := ⟨RX7, "secondsFrom", "(III)I"⟩
abbrev cX7_secondsFromAll : ByteArray := prog_9_method_8_code
def yX7_secondsFromAll : MethodName := ⟨RX7, "secondsFromAll", "(I)I"⟩
abbrev cX7_wantedTogether : ByteArray := prog_9_method_9_code
def yX7_wantedTogether : MethodName := ⟨RX7, "wantedTogether", "()I"⟩
abbrev cX7_wantedSecondsFrom : ByteArray := prog_9_method_10_code
def yX7_wantedSecondsFrom : MethodName := ⟨RX7, "wantedSecondsFrom", "(II)I"⟩
abbrev cX7_wantedSecondsAnywhere : ByteArray := prog_9_method_11_code
def yX7_wantedSecondsAnywhere : MethodName := ⟨RX7, "wantedSecondsAnywhere", "()I"⟩
abbrev cX7_canWalk : ByteArray := prog_9_method_12_code
def yX7_canWalk : MethodName := ⟨RX7, "canWalk", "()Z"⟩
abbrev cX7_secondsOfRound : ByteArray := prog_9_method_13_code
def yX7_secondsOfRound : MethodName := ⟨RX7, "secondsOfRound", "()I"⟩
abbrev cX7_stepsOnToNearest : ByteArray := prog_9_method_14_code
def yX7_stepsOnToNearest : MethodName := ⟨RX7, "stepsOnToNearest", "(II)I"⟩
abbrev cX7_measured : ByteArray := prog_9_method_15_code
def yX7_measured : MethodName := ⟨RX7, "measured", "(I)I"⟩
abbrev cX7_findOrder : ByteArray := prog_9_method_16_code
def yX7_findOrder : MethodName := ⟨RX7, "findOrder", "(I)I"⟩
abbrev cX7_keepFound : ByteArray := prog_9_method_17_code
def yX7_keepFound : MethodName := ⟨RX7, "keepFound", "([II)V"⟩
abbrev cX7_foundAt : ByteArray := prog_9_method_18_code
def yX7_foundAt : MethodName := ⟨RX7, "foundAt", "(I)I"⟩
abbrev cX7_sortUp : ByteArray := prog_9_method_19_code
def yX7_sortUp : MethodName := ⟨RX7, "sortUp", "([II)V"⟩
abbrev cX7_swap : ByteArray := prog_9_method_20_code
def yX7_swap : MethodName := ⟨RX7, "swap", "([III)V"⟩
abbrev cX7_nextOrder : ByteArray := prog_9_method_21_code
def yX7_nextOrder : MethodName := ⟨RX7, "nextOrder", "([II)Z"⟩
abbrev cX7_findRings : ByteArray := prog_9_method_22_code
def yX7_findRings : MethodName := ⟨RX7, "findRings", "(I)Z"⟩
abbrev cX7_loadRings : ByteArray := prog_9_method_23_code
def yX7_loadRings : MethodName := ⟨RX7, "loadRings", "(I)I"⟩
abbrev cX7_opensAsRing : ByteArray := prog_9_method_24_code
def yX7_opensAsRing : MethodName := ⟨RX7, "opensAsRing", "(I)Z"⟩
abbrev cX7_hasRingThatOpens : ByteArray := prog_9_method_25_code
def yX7_hasRingThatOpens : MethodName := ⟨RX7, "hasRingThatOpens", "(I)Z"⟩
abbrev cX7_measureRings : ByteArray := prog_9_method_26_code
def yX7_measureRings : MethodName := ⟨RX7, "measureRings", "(I)V"⟩
abbrev cX7_findPlace : ByteArray := prog_9_method_27_code
def yX7_findPlace : MethodName := ⟨RX7, "findPlace", "(III)I"⟩
abbrev cX7_loadWith : ByteArray := prog_9_method_28_code
def yX7_loadWith : MethodName := ⟨RX7, "loadWith", "(III)V"⟩
abbrev cX7_addToRow : ByteArray := prog_9_method_29_code
def yX7_addToRow : MethodName := ⟨RX7, "addToRow", "(I)V"⟩
def RX8 : String := "DarkRing$Text"
def TX8 : u_T := fun k => match k with
  | 0 => ("DarkRing$Text", "tape", "[B", true)
  | 1 => ("DarkRing$Text", "fed", "I", false)
  | 2 => ("DarkRing$Text", "length", "I", false)
  | 3 => ("DarkRing$Text", "kind", "I", false)
  | 4 => ("DarkRing$Text", "start", "I", false)
  | 5 => ("DarkRing$Text", "end", "I", false)
  | 6 => ("DarkRing$Text", "number", "I", false)
  | 7 => ("DarkRing$Text", "sign", "I", false)
  | 8 => ("DarkRing$Text", "letters", "J", false)
  | 9 => ("DarkRing$Text", "fault", "I", false)
  | _ => ("DarkRing$Text", "faultPlace", "I", false)
def tyX8 : Nat → FieldType := fun k => match k with
  | 0 => .array .byte
  | 1 => .int
  | 2 => .int
  | 3 => .int
  | 4 => .int
  | 5 => .int
  | 6 => .int
  | 7 => .int
  | 8 => .long
  | 9 => .int
  | _ => .int
abbrev wsX80 : List Cond := u_ws RX8 TX8 11
theorem nmX8 : ∀ a, a < 11 → ∀ b, b < 11 → a ≠ b → (TX8 a).2.1 ≠ (TX8 b).2.1 := by decide +kernel
theorem tyX8_ok : ∀ k, k < 11 → parseFieldDescriptor (TX8 k).2.2.1 = some (tyX8 k) := by decide +kernel
abbrev cX8_init : ByteArray := prog_10_method_1_code
def yX8_init : MethodName := ⟨RX8, "<init>", "()V"⟩
abbrev cX8_hasRoom : ByteArray := prog_10_method_2_code
def yX8_hasRoom : MethodName := ⟨RX8, "hasRoom", "(I)Z"⟩
abbrev cX8_append : ByteArray := prog_10_method_3_code
def yX8_append : MethodName := ⟨RX8, "append", "(I)V"⟩
abbrev cX8_begin : ByteArray := prog_10_method_4_code
def yX8_begin : MethodName := ⟨RX8, "begin", "(I)V"⟩
abbrev cX8_goesOn : ByteArray := prog_10_method_5_code
def yX8_goesOn : MethodName := ⟨RX8, "goesOn", "()Z"⟩
abbrev cX8_byteAt : ByteArray := prog_10_method_6_code
def yX8_byteAt : MethodName := ⟨RX8, "byteAt", "(I)I"⟩
abbrev cX8_isBlank : ByteArray := prog_10_method_7_code
def yX8_isBlank : MethodName := ⟨RX8, "isBlank", "(I)Z"⟩
abbrev cX8_isLetter : ByteArray := prog_10_method_8_code
def yX8_isLetter : MethodName := ⟨RX8, "isLetter", "(I)Z"⟩
abbrev cX8_isDigit : ByteArray := prog_10_method_9_code
def yX8_isDigit : MethodName := ⟨RX8, "isDigit", "(I)Z"⟩
abbrev cX8_isSignOf : ByteArray := prog_10_method_10_code
def yX8_isSignOf : MethodName := ⟨RX8, "isSignOf", "(I)Z"⟩
abbrev cX8_advance : ByteArray := prog_10_method_11_code
def yX8_advance : MethodName := ⟨RX8, "advance", "()V"⟩
abbrev cX8_readLetters : ByteArray := prog_10_method_12_code
def yX8_readLetters : MethodName := ⟨RX8, "readLetters", "()V"⟩
abbrev cX8_readDigits : ByteArray := prog_10_method_13_code
def yX8_readDigits : MethodName := ⟨RX8, "readDigits", "()V"⟩
abbrev cX8_is : ByteArray := prog_10_method_14_code
def yX8_is : MethodName := ⟨RX8, "is", "(Ljava/lang/String;)Z"⟩
abbrev cX8_isSign : ByteArray := prog_10_method_15_code
def yX8_isSign : MethodName := ⟨RX8, "isSign", "(C)Z"⟩
abbrev cX8_isNumber : ByteArray := prog_10_method_16_code
def yX8_isNumber : MethodName := ⟨RX8, "isNumber", "()Z"⟩
abbrev cX8_isName : ByteArray := prog_10_method_17_code
def yX8_isName : MethodName := ⟨RX8, "isName", "()Z"⟩
abbrev cX8_refuse : ByteArray := prog_10_method_18_code
def yX8_refuse : MethodName := ⟨RX8, "refuse", "(I)Z"⟩
abbrev cX8_takeWord : ByteArray := prog_10_method_19_code
def yX8_takeWord : MethodName := ⟨RX8, "takeWord", "(Ljava/lang/String;)Z"⟩
abbrev cX8_takeSign : ByteArray := prog_10_method_20_code
def yX8_takeSign : MethodName := ⟨RX8, "takeSign", "(C)Z"⟩
abbrev cX8_takeNumber : ByteArray := prog_10_method_21_code
def yX8_takeNumber : MethodName := ⟨RX8, "takeNumber", "(II)I"⟩
abbrev cX8_takeCompare : ByteArray := prog_10_method_22_code
def yX8_takeCompare : MethodName := ⟨RX8, "takeCompare", "()I"⟩
def RX9 : String := "DarkRing$Thought"
def TX9 : u_T := fun k => match k with
  | 0 => ("DarkRing$Thought", "house", "LDarkRing$House;", true)
  | 1 => ("DarkRing$Thought", "held", "I", false)
  | 2 => ("DarkRing$Thought", "places", "I", false)
  | 3 => ("DarkRing$Thought", "row", "[I", true)
  | 4 => ("DarkRing$Thought", "parts", "[J", true)
  | _ => ("DarkRing$Thought", "weights", "[J", true)
def tyX9 : Nat → FieldType := fun k => match k with
  | 0 => .object "DarkRing$House"
  | 1 => .int
  | 2 => .int
  | 3 => .array .int
  | 4 => .array .long
  | _ => .array .long
abbrev wsX90 : List Cond := u_ws RX9 TX9 6
theorem nmX9 : ∀ a, a < 6 → ∀ b, b < 6 → a ≠ b → (TX9 a).2.1 ≠ (TX9 b).2.1 := by decide +kernel
theorem tyX9_ok : ∀ k, k < 6 → parseFieldDescriptor (TX9 k).2.2.1 = some (tyX9 k) := by decide +kernel
abbrev cX9_init : ByteArray := prog_11_method_1_code
def yX9_init : MethodName := ⟨RX9, "<init>", "(LDarkRing$House;)V"⟩
abbrev cX9_copy : ByteArray := prog_11_method_2_code
def yX9_copy : MethodName := ⟨RX9, "copy", "(LDarkRing$Thought;LDarkRing$Thought;)V"⟩
abbrev cX9_isHeld : ByteArray := prog_11_method_3_code
def yX9_isHeld : MethodName := ⟨RX9, "isHeld", "()Z"⟩
abbrev cX9_letGo : ByteArray := prog_11_method_4_code
def yX9_letGo : MethodName := ⟨RX9, "letGo", "()V"⟩
abbrev cX9_letGoOf : ByteArray := prog_11_method_5_code
def yX9_letGoOf : MethodName := ⟨RX9, "letGoOf", "(I)V"⟩
abbrev cX9_begin : ByteArray := prog_11_method_6_code
def yX9_begin : MethodName := ⟨RX9, "begin", "(I)V"⟩
abbrev cX9_beginAgain : ByteArray := prog_11_method_7_code
def yX9_beginAgain : MethodName := ⟨RX9, "beginAgain", "()V"⟩
abbrev cX9_keyAt : ByteArray := prog_11_method_8_code
def yX9_keyAt : MethodName := ⟨RX9, "keyAt", "(I)I"⟩
abbrev cX9_placesAndWays : ByteArray := prog_11_method_9_code
def yX9_placesAndWays : MethodName := ⟨RX9, "placesAndWays", "()I"⟩
abbrev cX9_partOf : ByteArray := prog_11_method_10_code
def yX9_partOf : MethodName := ⟨RX9, "partOf", "(II)J"⟩
abbrev cX9_shareOut : ByteArray := prog_11_method_11_code
def yX9_shareOut : MethodName := ⟨RX9, "shareOut", "()Z"⟩
abbrev cX9_learnFelt : ByteArray := prog_11_method_12_code
def yX9_learnFelt : MethodName := ⟨RX9, "learnFelt", "(II)Z"⟩
abbrev cX9_learnTried : ByteArray := prog_11_method_13_code
def yX9_learnTried : MethodName := ⟨RX9, "learnTried", "(IZ)Z"⟩
abbrev cX9_moveOn : ByteArray := prog_11_method_14_code
def yX9_moveOn : MethodName := ⟨RX9, "moveOn", "()V"⟩
abbrev cX9_moved : ByteArray := prog_11_method_15_code
def yX9_moved : MethodName := ⟨RX9, "moved", "([JI[JII)V"⟩
abbrev cX9_swapWays : ByteArray := prog_11_method_16_code
def yX9_swapWays : MethodName := ⟨RX9, "swapWays", "()V"⟩
abbrev cX9_partsOfKey : ByteArray := prog_11_method_17_code
def yX9_partsOfKey : MethodName := ⟨RX9, "partsOfKey", "(I)J"⟩
abbrev cX9_partsThatOpen : ByteArray := prog_11_method_18_code
def yX9_partsThatOpen : MethodName := ⟨RX9, "partsThatOpen", "(I)J"⟩
def RX10 : String := "DarkRing$Tray"
def TX10 : u_T := fun k => match k with
  | 0 => ("DarkRing$Tray", "sort", "I", false)
  | 1 => ("DarkRing$Tray", "many", "I", false)
  | _ => ("DarkRing$Tray", "row", "[J", true)
def tyX10 : Nat → FieldType := fun k => match k with
  | 0 => .int
  | 1 => .int
  | _ => .array .long
abbrev wsX100 : List Cond := u_ws RX10 TX10 3
theorem nmX10 : ∀ a, a < 3 → ∀ b, b < 3 → a ≠ b → (TX10 a).2.1 ≠ (TX10 b).2.1 := by decide +kernel
theorem tyX10_ok : ∀ k, k < 3 → parseFieldDescriptor (TX10 k).2.2.1 = some (tyX10 k) := by decide +kernel
abbrev cX10_init : ByteArray := prog_12_method_1_code
def yX10_init : MethodName := ⟨RX10, "<init>", "()V"⟩
abbrev cX10_isMissing : ByteArray := prog_12_method_2_code
def yX10_isMissing : MethodName := ⟨RX10, "isMissing", "()Z"⟩
abbrev cX10_fresh : ByteArray := prog_12_method_3_code
def yX10_fresh : MethodName := ⟨RX10, "fresh", "(II)V"⟩
abbrev cX10_hasPlace : ByteArray := prog_12_method_4_code
def yX10_hasPlace : MethodName := ⟨RX10, "hasPlace", "(I)Z"⟩
abbrev cX10_hasPlaces : ByteArray := prog_12_method_5_code
def yX10_hasPlaces : MethodName := ⟨RX10, "hasPlaces", "(II)Z"⟩
abbrev cX10_numberAt : ByteArray := prog_12_method_6_code
def yX10_numberAt : MethodName := ⟨RX10, "numberAt", "(I)J"⟩
abbrev cX10_keep : ByteArray := prog_12_method_7_code
def yX10_keep : MethodName := ⟨RX10, "keep", "(IJ)V"⟩
abbrev cX10_cut : ByteArray := prog_12_method_8_code
def yX10_cut : MethodName := ⟨RX10, "cut", "(J)J"⟩
abbrev cX10_copyFrom : ByteArray := prog_12_method_9_code
def yX10_copyFrom : MethodName := ⟨RX10, "copyFrom", "(LDarkRing$Tray;III)V"⟩
def RX11 : String := "DarkRing"
def TX11 : u_T := fun k => match k with
  | 0 => ("DarkRing", "status", "I", false)
  | 1 => ("DarkRing", "top", "J", false)
  | 2 => ("DarkRing", "bottom", "J", false)
  | 3 => ("DarkRing", "trays", "[LDarkRing$Tray;", true)
  | 4 => ("DarkRing", "text", "LDarkRing$Text;", true)
  | 5 => ("DarkRing", "house", "LDarkRing$House;", true)
  | 6 => ("DarkRing", "thought", "LDarkRing$Thought;", true)
  | 7 => ("DarkRing", "rule", "LDarkRing$Rule;", true)
  | 8 => ("DarkRing", "houseReader", "LDarkRing$HouseReader;", true)
  | 9 => ("DarkRing", "ruleReader", "LDarkRing$RuleReader;", true)
  | 10 => ("DarkRing", "search", "LDarkRing$Search;", true)
  | 11 => ("DarkRing", "likeness", "LDarkRing$Likeness;", true)
  | 12 => ("DarkRing", "acts", "LDarkRing$Acts;", true)
  | 13 => ("DarkRing", "game", "LDarkRing$Game;", true)
  | 14 => ("DarkRing", "marks", "I", false)
  | 15 => ("DarkRing", "keptHouses", "[LDarkRing$House;", true)
  | 16 => ("DarkRing", "keptThoughts", "[LDarkRing$Thought;", true)
  | _ => ("DarkRing", "keptRules", "[LDarkRing$Rule;", true)
def tyX11 : Nat → FieldType := fun k => match k with
  | 0 => .int
  | 1 => .long
  | 2 => .long
  | 3 => .array (.object "DarkRing$Tray")
  | 4 => .object "DarkRing$Text"
  | 5 => .object "DarkRing$House"
  | 6 => .object "DarkRing$Thought"
  | 7 => .object "DarkRing$Rule"
  | 8 => .object "DarkRing$HouseReader"
  | 9 => .object "DarkRing$RuleReader"
  | 10 => .object "DarkRing$Search"
  | 11 => .object "DarkRing$Likeness"
  | 12 => .object "DarkRing$Acts"
  | 13 => .object "DarkRing$Game"
  | 14 => .int
  | 15 => .array (.object "DarkRing$House")
  | 16 => .array (.object "DarkRing$Thought")
  | _ => .array (.object "DarkRing$Rule")
abbrev wsX110 : List Cond := u_ws RX11 TX11 18
theorem nmX11 : ∀ a, a < 18 → ∀ b, b < 18 → a ≠ b → (TX11 a).2.1 ≠ (TX11 b).2.1 := by decide +kernel
theorem tyX11_ok : ∀ k, k < 18 → parseFieldDescriptor (TX11 k).2.2.1 = some (tyX11 k) := by decide +kernel
abbrev cX11_init : ByteArray := prog_1_method_1_code
def yX11_init : MethodName := ⟨RX11, "<init>", "()V"⟩
abbrev cX11_status : ByteArray := prog_1_method_2_code
def yX11_status : MethodName := ⟨RX11, "status", "()I"⟩
abbrev cX11_top : ByteArray := prog_1_method_3_code
def yX11_top : MethodName := ⟨RX11, "top", "()J"⟩
abbrev cX11_bottom : ByteArray := prog_1_method_4_code
def yX11_bottom : MethodName := ⟨RX11, "bottom", "()J"⟩
abbrev cX11_tray : ByteArray := prog_1_method_5_code
def yX11_tray : MethodName := ⟨RX11, "tray", "(III)Z"⟩
abbrev cX11_write : ByteArray := prog_1_method_6_code
def yX11_write : MethodName := ⟨RX11, "write", "(IIJ)Z"⟩
abbrev cX11_read : ByteArray := prog_1_method_7_code
def yX11_read : MethodName := ⟨RX11, "read", "(II)J"⟩
abbrev cX11_pour : ByteArray := prog_1_method_8_code
def yX11_pour : MethodName := ⟨RX11, "pour", "(IIIII)Z"⟩
abbrev cX11_feed : ByteArray := prog_1_method_9_code
def yX11_feed : MethodName := ⟨RX11, "feed", "(IIIII)I"⟩
abbrev cX11_house : ByteArray := prog_1_method_10_code
def yX11_house : MethodName := ⟨RX11, "house", "(I)I"⟩
abbrev cX11_rule : ByteArray := prog_1_method_11_code
def yX11_rule : MethodName := ⟨RX11, "rule", "(I)I"⟩
abbrev cX11_fault : ByteArray := prog_1_method_12_code
def yX11_fault : MethodName := ⟨RX11, "fault", "(I)I"⟩
abbrev cX11_many : ByteArray := prog_1_method_13_code
def yX11_many : MethodName := ⟨RX11, "many", "(I)I"⟩
abbrev cX11_feature : ByteArray := prog_1_method_14_code
def yX11_feature : MethodName := ⟨RX11, "feature", "(II)I"⟩
abbrev cX11_feels : ByteArray := prog_1_method_15_code
def yX11_feels : MethodName := ⟨RX11, "feels", "(III)I"⟩
abbrev cX11_stepOf : ByteArray := prog_1_method_16_code
def yX11_stepOf : MethodName := ⟨RX11, "stepOf", "(II)I"⟩
abbrev cX11_key : ByteArray := prog_1_method_17_code
def yX11_key : MethodName := ⟨RX11, "key", "(II)I"⟩
abbrev cX11_ring : ByteArray := prog_1_method_18_code
def yX11_ring : MethodName := ⟨RX11, "ring", "(II)I"⟩
abbrev cX11_door : ByteArray := prog_1_method_19_code
def yX11_door : MethodName := ⟨RX11, "door", "(II)I"⟩
abbrev cX11_round : ByteArray := prog_1_method_20_code
def yX11_round : MethodName := ⟨RX11, "round", "(I)I"⟩
abbrev cX11_lay : ByteArray := prog_1_method_21_code
def yX11_lay : MethodName := ⟨RX11, "lay", "(II)Z"⟩
abbrev cX11_lend : ByteArray := prog_1_method_22_code
def yX11_lend : MethodName := ⟨RX11, "lend", "(IZ)Z"⟩
abbrev cX11_put : ByteArray := prog_1_method_23_code
def yX11_put : MethodName := ⟨RX11, "put", "(III)Z"⟩
abbrev cX11_off : ByteArray := prog_1_method_24_code
def yX11_off : MethodName := ⟨RX11, "off", "(I)Z"⟩
abbrev cX11_take : ByteArray := prog_1_method_25_code
def yX11_take : MethodName := ⟨RX11, "take", "(I)Z"⟩
abbrev cX11_part : ByteArray := prog_1_method_26_code
def yX11_part : MethodName := ⟨RX11, "part", "(II)I"⟩
abbrev cX11_feel : ByteArray := prog_1_method_27_code
def yX11_feel : MethodName := ⟨RX11, "feel", "(II)Z"⟩
abbrev cX11_goOn : ByteArray := prog_1_method_28_code
def yX11_goOn : MethodName := ⟨RX11, "goOn", "()Z"⟩
abbrev cX11_turn : ByteArray := prog_1_method_29_code
def yX11_turn : MethodName := ⟨RX11, "turn", "()Z"⟩
abbrev cX11_tried : ByteArray := prog_1_method_30_code
def yX11_tried : MethodName := ⟨RX11, "tried", "(IZ)Z"⟩
abbrev cX11_here : ByteArray := prog_1_method_31_code
def yX11_here : MethodName := ⟨RX11, "here", "(I)Z"⟩
abbrev cX11_opens : ByteArray := prog_1_method_32_code
def yX11_opens : MethodName := ⟨RX11, "opens", "(I)Z"⟩
abbrev cX11_worth : ByteArray := prog_1_method_33_code
def yX11_worth : MethodName := ⟨RX11, "worth", "(II)Z"⟩
abbrev cX11_next : ByteArray := prog_1_method_34_code
def yX11_next : MethodName := ⟨RX11, "next", "(II)I"⟩
abbrev cX11_searched : ByteArray := prog_1_method_35_code
def yX11_searched : MethodName := ⟨RX11, "searched", "(IIII)I"⟩
abbrev cX11_from : ByteArray := prog_1_method_36_code
def yX11_from : MethodName := ⟨RX11, "from", "(III)Z"⟩
abbrev cX11_anywhere : ByteArray := prog_1_method_37_code
def yX11_anywhere : MethodName := ⟨RX11, "anywhere", "(I)Z"⟩
abbrev cX11_laid : ByteArray := prog_1_method_38_code
def yX11_laid : MethodName := ⟨RX11, "laid", "(IZ)I"⟩
abbrev cX11_inRow : ByteArray := prog_1_method_39_code
def yX11_inRow : MethodName := ⟨RX11, "inRow", "(I)I"⟩
abbrev cX11_walked : ByteArray := prog_1_method_40_code
def yX11_walked : MethodName := ⟨RX11, "walked", "(I)I"⟩
abbrev cX11_laidForRound : ByteArray := prog_1_method_41_code
def yX11_laidForRound : MethodName := ⟨RX11, "laidForRound", "(I)I"⟩
abbrev cX11_found : ByteArray := prog_1_method_42_code
def yX11_found : MethodName := ⟨RX11, "found", "(I)I"⟩
abbrev cX11_alike : ByteArray := prog_1_method_43_code
def yX11_alike : MethodName := ⟨RX11, "alike", "(I)I"⟩
abbrev cX11_apart : ByteArray := prog_1_method_44_code
def yX11_apart : MethodName := ⟨RX11, "apart", "(IZ)I"⟩
abbrev cX11_filed : ByteArray := prog_1_method_45_code
def yX11_filed : MethodName := ⟨RX11, "filed", "(II)I"⟩
abbrev cX11_known : ByteArray := prog_1_method_46_code
def yX11_known : MethodName := ⟨RX11, "known", "(IZ)I"⟩
abbrev cX11_missing : ByteArray := prog_1_method_47_code
def yX11_missing : MethodName := ⟨RX11, "missing", "(IIII)Z"⟩
abbrev cX11_soon : ByteArray := prog_1_method_48_code
def yX11_soon : MethodName := ⟨RX11, "soon", "(IIII)I"⟩
abbrev cX11_newly : ByteArray := prog_1_method_49_code
def yX11_newly : MethodName := ⟨RX11, "newly", "(III)I"⟩
abbrev cX11_play : ByteArray := prog_1_method_50_code
def yX11_play : MethodName := ⟨RX11, "play", "(III)I"⟩
abbrev cX11_played : ByteArray := prog_1_method_51_code
def yX11_played : MethodName := ⟨RX11, "played", "(I)I"⟩
abbrev cX11_tally : ByteArray := prog_1_method_52_code
def yX11_tally : MethodName := ⟨RX11, "tally", "(IIII)I"⟩
abbrev cX11_mark : ByteArray := prog_1_method_53_code
def yX11_mark : MethodName := ⟨RX11, "mark", "()I"⟩
abbrev cX11_back : ByteArray := prog_1_method_54_code
def yX11_back : MethodName := ⟨RX11, "back", "()I"⟩
abbrev cX11_done : ByteArray := prog_1_method_55_code
def yX11_done : MethodName := ⟨RX11, "done", "()Z"⟩
abbrev cX11_told : ByteArray := prog_1_method_56_code
def yX11_told : MethodName := ⟨RX11, "told", "(I)I"⟩
abbrev cX11_refused : ByteArray := prog_1_method_57_code
def yX11_refused : MethodName := ⟨RX11, "refused", "(I)Z"⟩
abbrev cX11_none : ByteArray := prog_1_method_58_code
def yX11_none : MethodName := ⟨RX11, "none", "(I)I"⟩
abbrev cX11_toldFraction : ByteArray := prog_1_method_59_code
def yX11_toldFraction : MethodName := ⟨RX11, "toldFraction", "(JJ)Z"⟩
abbrev cX11_commonDivisor : ByteArray := prog_1_method_60_code
def yX11_commonDivisor : MethodName := ⟨RX11, "commonDivisor", "(JJ)J"⟩
abbrev cX11_trayAt : ByteArray := prog_1_method_61_code
def yX11_trayAt : MethodName := ⟨RX11, "trayAt", "(I)LDarkRing$Tray;"⟩
abbrev cX11_isWay : ByteArray := prog_1_method_62_code
def yX11_isWay : MethodName := ⟨RX11, "isWay", "(I)Z"⟩
abbrev cX11_isOrderOf : ByteArray := prog_1_method_63_code
def yX11_isOrderOf : MethodName := ⟨RX11, "isOrderOf", "(LDarkRing$Tray;I)Z"⟩
abbrev cX11_at : ByteArray := prog_1_method_64_code
def yX11_at : MethodName := ⟨RX11, "at", "([II)I"⟩
abbrev cX11_keepAt : ByteArray := prog_1_method_65_code
def yX11_keepAt : MethodName := ⟨RX11, "keepAt", "([III)V"⟩
abbrev cX11_longAt : ByteArray := prog_1_method_66_code
def yX11_longAt : MethodName := ⟨RX11, "longAt", "([JI)J"⟩
abbrev cX11_keepLongAt : ByteArray := prog_1_method_67_code
def yX11_keepLongAt : MethodName := ⟨RX11, "keepLongAt", "([JIJ)V"⟩
abbrev cX11_inRing : ByteArray := prog_1_method_68_code
def yX11_inRing : MethodName := ⟨RX11, "inRing", "(II)I"⟩
def RX12 : String := "DarkRingModel"
def TX12 : u_T := fun k => match k with
  | 0 => ("DarkRingModel", "status", "I", false)
  | 1 => ("DarkRingModel", "thrown", "I", false)
  | 2 => ("DarkRingModel", "above", "J", false)
  | 3 => ("DarkRingModel", "under", "J", false)
  | 4 => ("DarkRingModel", "traySort", "[I", true)
  | 5 => ("DarkRingModel", "trayMany", "[I", true)
  | 6 => ("DarkRingModel", "numbers", "[J", true)
  | 7 => ("DarkRingModel", "tape", "[B", true)
  | 8 => ("DarkRingModel", "taped", "I", false)
  | 9 => ("DarkRingModel", "textEnd", "I", false)
  | 10 => ("DarkRingModel", "faultKind", "I", false)
  | 11 => ("DarkRingModel", "faultAt", "I", false)
  | 12 => ("DarkRingModel", "bad", "I", false)
  | 13 => ("DarkRingModel", "badAt", "I", false)
  | 14 => ("DarkRingModel", "token", "I", false)
  | 15 => ("DarkRingModel", "at", "I", false)
  | 16 => ("DarkRingModel", "behind", "I", false)
  | 17 => ("DarkRingModel", "number", "I", false)
  | 18 => ("DarkRingModel", "letters", "I", false)
  | 19 => ("DarkRingModel", "word", "J", false)
  | 20 => ("DarkRingModel", "c", "[I", true)
  | 21 => ("DarkRingModel", "words", "[J", true)
  | 22 => ("DarkRingModel", "markMany", "I", false)
  | 23 => ("DarkRingModel", "there", "[I", true)
  | 24 => ("DarkRingModel", "tried", "[I", true)
  | 25 => ("DarkRingModel", "best", "[I", true)
  | 26 => ("DarkRingModel", "found", "[I", true)
  | 27 => ("DarkRingModel", "thereMany", "I", false)
  | 28 => ("DarkRingModel", "foundMany", "I", false)
  | 29 => ("DarkRingModel", "orderHow", "I", false)
  | 30 => ("DarkRingModel", "orderRing", "I", false)
  | 31 => ("DarkRingModel", "orderMany", "I", false)
  | 32 => ("DarkRingModel", "hasBest", "Z", false)
  | 33 => ("DarkRingModel", "bestTop", "J", false)
  | 34 => ("DarkRingModel", "bestBy", "J", false)
  | 35 => ("DarkRingModel", "weights", "[J", true)
  | 36 => ("DarkRingModel", "shared", "[J", true)
  | 37 => ("DarkRingModel", "random", "I", false)
  | 38 => ("DarkRingModel", "truePlace", "I", false)
  | 39 => ("DarkRingModel", "trueWay", "I", false)
  | 40 => ("DarkRingModel", "seconds", "I", false)
  | 41 => ("DarkRingModel", "done", "I", false)
  | 42 => ("DarkRingModel", "feelings", "I", false)
  | 43 => ("DarkRingModel", "tries", "I", false)
  | 44 => ("DarkRingModel", "leftOver", "I", false)
  | 45 => ("DarkRingModel", "playDoor", "I", false)
  | 46 => ("DarkRingModel", "playRing", "I", false)
  | 47 => ("DarkRingModel", "isOpen", "Z", false)
  | 48 => ("DarkRingModel", "isOver", "Z", false)
  | 49 => ("DarkRingModel", "wasTried", "Z", false)
  | 50 => ("DarkRingModel", "hasPlayed", "Z", false)
  | 51 => ("DarkRingModel", "feltNow", "[I", true)
  | 52 => ("DarkRingModel", "last", "[I", true)
  | 53 => ("DarkRingModel", "kept", "[I", true)
  | 54 => ("DarkRingModel", "hasSeconds", "Z", false)
  | 55 => ("DarkRingModel", "hasTurned", "Z", false)
  | 56 => ("DarkRingModel", "hasRound", "Z", false)
  | 57 => ("DarkRingModel", "hasFeels", "[Z", true)
  | 58 => ("DarkRingModel", "isOn", "[Z", true)
  | 59 => ("DarkRingModel", "firstAct", "I", false)
  | 60 => ("DarkRingModel", "meanTop", "J", false)
  | 61 => ("DarkRingModel", "meanBy", "J", false)
  | 62 => ("DarkRingModel", "order", "[I", true)
  | 63 => ("DarkRingModel", "rowMany", "I", false)
  | _ => ("DarkRingModel", "newSteps", "I", false)
def tyX12 : Nat → FieldType := fun k => match k with
  | 0 => .int
  | 1 => .int
  | 2 => .long
  | 3 => .long
  | 4 => .array .int
  | 5 => .array .int
  | 6 => .array .long
  | 7 => .array .byte
  | 8 => .int
  | 9 => .int
  | 10 => .int
  | 11 => .int
  | 12 => .int
  | 13 => .int
  | 14 => .int
  | 15 => .int
  | 16 => .int
  | 17 => .int
  | 18 => .int
  | 19 => .long
  | 20 => .array .int
  | 21 => .array .long
  | 22 => .int
  | 23 => .array .int
  | 24 => .array .int
  | 25 => .array .int
  | 26 => .array .int
  | 27 => .int
  | 28 => .int
  | 29 => .int
  | 30 => .int
  | 31 => .int
  | 32 => .boolean
  | 33 => .long
  | 34 => .long
  | 35 => .array .long
  | 36 => .array .long
  | 37 => .int
  | 38 => .int
  | 39 => .int
  | 40 => .int
  | 41 => .int
  | 42 => .int
  | 43 => .int
  | 44 => .int
  | 45 => .int
  | 46 => .int
  | 47 => .boolean
  | 48 => .boolean
  | 49 => .boolean
  | 50 => .boolean
  | 51 => .array .int
  | 52 => .array .int
  | 53 => .array .int
  | 54 => .boolean
  | 55 => .boolean
  | 56 => .boolean
  | 57 => .array .boolean
  | 58 => .array .boolean
  | 59 => .int
  | 60 => .long
  | 61 => .long
  | 62 => .array .int
  | 63 => .int
  | _ => .int
abbrev wsX120 : List Cond := u_ws RX12 TX12 65
theorem nmX12 : ∀ a, a < 65 → ∀ b, b < 65 → a ≠ b → (TX12 a).2.1 ≠ (TX12 b).2.1 := by decide +kernel
theorem tyX12_ok : ∀ k, k < 65 → parseFieldDescriptor (TX12 k).2.2.1 = some (tyX12 k) := by decide +kernel
abbrev cX12_init : ByteArray := prog_14_method_1_code
def yX12_init : MethodName := ⟨RX12, "<init>", "()V"⟩
abbrev cX12_empty : ByteArray := prog_14_method_2_code
def yX12_empty : MethodName := ⟨RX12, "empty", "(I)V"⟩
abbrev cX12_status : ByteArray := prog_14_method_4_code
def yX12_status : MethodName := ⟨RX12, "status", "()I"⟩
abbrev cX12_top : ByteArray := prog_14_method_5_code
def yX12_top : MethodName := ⟨RX12, "top", "()J"⟩
abbrev cX12_bottom : ByteArray := prog_14_method_6_code
def yX12_bottom : MethodName := ⟨RX12, "bottom", "()J"⟩
abbrev cX12_refuse : ByteArray := prog_14_method_7_code
def yX12_refuse : MethodName := ⟨RX12, "refuse", "(I)I"⟩
abbrev cX12_no : ByteArray := prog_14_method_8_code
def yX12_no : MethodName := ⟨RX12, "no", "(I)Z"⟩
abbrev cX12_isIn : ByteArray := prog_14_method_9_code
def yX12_isIn : MethodName := ⟨RX12, "isIn", "(JJJ)Z"⟩
abbrev cX12_fraction : ByteArray := prog_14_method_10_code
def yX12_fraction : MethodName := ⟨RX12, "fraction", "(JJ)Z"⟩
abbrev cX12_cut : ByteArray := prog_14_method_11_code
def yX12_cut : MethodName := ⟨RX12, "cut", "(IJ)J"⟩
abbrev cX12_tray : ByteArray := prog_14_method_12_code
def yX12_tray : MethodName := ⟨RX12, "tray", "(III)Z"⟩
abbrev cX12_trayed : ByteArray := prog_14_method_13_code
def yX12_trayed : MethodName := ⟨RX12, "trayed", "(I)I"⟩
abbrev cX12_placed : ByteArray := prog_14_method_14_code
def yX12_placed : MethodName := ⟨RX12, "placed", "(II)I"⟩
abbrev cX12_write : ByteArray := prog_14_method_15_code
def yX12_write : MethodName := ⟨RX12, "write", "(IIJ)Z"⟩
abbrev cX12_read : ByteArray := prog_14_method_16_code
def yX12_read : MethodName := ⟨RX12, "read", "(II)J"⟩
abbrev cX12_pour : ByteArray := prog_14_method_17_code
def yX12_pour : MethodName := ⟨RX12, "pour", "(IIIII)Z"⟩
abbrev cX12_numberOf : ByteArray := prog_14_method_18_code
def yX12_numberOf : MethodName := ⟨RX12, "numberOf", "(II)J"⟩
abbrev cX12_isTray : ByteArray := prog_14_method_19_code
def yX12_isTray : MethodName := ⟨RX12, "isTray", "(I)Z"⟩
abbrev cX12_look2 : ByteArray := prog_14_method_20_code
def yX12_look2 : MethodName := ⟨RX12, "look2", "(I)I"⟩
abbrev cX12_isLetter : ByteArray := prog_14_method_21_code
def yX12_isLetter : MethodName := ⟨RX12, "isLetter", "(I)Z"⟩
abbrev cX12_isDigit : ByteArray := prog_14_method_22_code
def yX12_isDigit : MethodName := ⟨RX12, "isDigit", "(I)Z"⟩
abbrev cX12_isSignByte : ByteArray := prog_14_method_23_code
def yX12_isSignByte : MethodName := ⟨RX12, "isSignByte", "(I)Z"⟩
abbrev cX12_next2 : ByteArray := prog_14_method_24_code
def yX12_next2 : MethodName := ⟨RX12, "next2", "()V"⟩
abbrev cX12_isSign : ByteArray := prog_14_method_25_code
def yX12_isSign : MethodName := ⟨RX12, "isSign", "(I)Z"⟩
abbrev cX12_spelled : ByteArray := prog_14_method_26_code
def yX12_spelled : MethodName := ⟨RX12, "spelled", "(IIIIII)J"⟩
abbrev cX12_isWord : ByteArray := prog_14_method_27_code
def yX12_isWord : MethodName := ⟨RX12, "isWord", "(J)Z"⟩
abbrev cX12_houseWord : ByteArray := prog_14_method_28_code
def yX12_houseWord : MethodName := ⟨RX12, "houseWord", "()I"⟩
abbrev cX12_isHouseName : ByteArray := prog_14_method_29_code
def yX12_isHouseName : MethodName := ⟨RX12, "isHouseName", "()Z"⟩
abbrev cX12_fail : ByteArray := prog_14_method_30_code
def yX12_fail : MethodName := ⟨RX12, "fail", "(II)V"⟩
abbrev cX12_wrong : ByteArray := prog_14_method_31_code
def yX12_wrong : MethodName := ⟨RX12, "wrong", "()V"⟩
abbrev cX12_must : ByteArray := prog_14_method_32_code
def yX12_must : MethodName := ⟨RX12, "must", "(Z)V"⟩
abbrev cX12_count : ByteArray := prog_14_method_33_code
def yX12_count : MethodName := ⟨RX12, "count", "(II)I"⟩
abbrev cX12_feed : ByteArray := prog_14_method_34_code
def yX12_feed : MethodName := ⟨RX12, "feed", "(IIIII)I"⟩
abbrev cX12_layByte : ByteArray := prog_14_method_35_code
def yX12_layByte : MethodName := ⟨RX12, "layByte", "(I)V"⟩
abbrev cX12_begins : ByteArray := prog_14_method_36_code
def yX12_begins : MethodName := ⟨RX12, "begins", "(II)Z"⟩
abbrev cX12_isWell : ByteArray := prog_14_method_37_code
def yX12_isWell : MethodName := ⟨RX12, "isWell", "()Z"⟩
abbrev cX12_fault : ByteArray := prog_14_method_38_code
def yX12_fault : MethodName := ⟨RX12, "fault", "(I)I"⟩
abbrev cX12_named : ByteArray := prog_14_method_39_code
def yX12_named : MethodName := ⟨RX12, "named", "(III)I"⟩
abbrev cX12_isTaken : ByteArray := prog_14_method_40_code
def yX12_isTaken : MethodName := ⟨RX12, "isTaken", "()Z"⟩
abbrev cX12_readNew : ByteArray := prog_14_method_41_code
def yX12_readNew : MethodName := ⟨RX12, "readNew", "(III)I"⟩
abbrev cX12_readOld : ByteArray := prog_14_method_42_code
def yX12_readOld : MethodName := ⟨RX12, "readOld", "(II)I"⟩
abbrev cX12_readFeature : ByteArray := prog_14_method_43_code
def yX12_readFeature : MethodName := ⟨RX12, "readFeature", "()V"⟩
abbrev cX12_readFeels : ByteArray := prog_14_method_44_code
def yX12_readFeels : MethodName := ⟨RX12, "readFeels", "()V"⟩
abbrev cX12_readKey : ByteArray := prog_14_method_45_code
def yX12_readKey : MethodName := ⟨RX12, "readKey", "()V"⟩
abbrev cX12_readRing : ByteArray := prog_14_method_46_code
def yX12_readRing : MethodName := ⟨RX12, "readRing", "()V"⟩
abbrev cX12_readDoor : ByteArray := prog_14_method_47_code
def yX12_readDoor : MethodName := ⟨RX12, "readDoor", "()V"⟩
abbrev cX12_readSeconds : ByteArray := prog_14_method_48_code
def yX12_readSeconds : MethodName := ⟨RX12, "readSeconds", "()V"⟩
abbrev cX12_readTurned : ByteArray := prog_14_method_49_code
def yX12_readTurned : MethodName := ⟨RX12, "readTurned", "()V"⟩
abbrev cX12_readRound : ByteArray := prog_14_method_50_code
def yX12_readRound : MethodName := ⟨RX12, "readRound", "()V"⟩
abbrev cX12_house : ByteArray := prog_14_method_51_code
def yX12_house : MethodName := ⟨RX12, "house", "(I)I"⟩
abbrev cX12_isFeature : ByteArray := prog_14_method_52_code
def yX12_isFeature : MethodName := ⟨RX12, "isFeature", "(I)Z"⟩
abbrev cX12_isStep : ByteArray := prog_14_method_53_code
def yX12_isStep : MethodName := ⟨RX12, "isStep", "(II)Z"⟩
abbrev cX12_isKey : ByteArray := prog_14_method_54_code
def yX12_isKey : MethodName := ⟨RX12, "isKey", "(J)Z"⟩
abbrev cX12_isRing : ByteArray := prog_14_method_55_code
def yX12_isRing : MethodName := ⟨RX12, "isRing", "(I)Z"⟩
abbrev cX12_isDoor : ByteArray := prog_14_method_56_code
def yX12_isDoor : MethodName := ⟨RX12, "isDoor", "(I)Z"⟩
abbrev cX12_canOpen : ByteArray := prog_14_method_57_code
def yX12_canOpen : MethodName := ⟨RX12, "canOpen", "(II)Z"⟩
abbrev cX12_many : ByteArray := prog_14_method_58_code
def yX12_many : MethodName := ⟨RX12, "many", "(I)I"⟩
abbrev cX12_feature : ByteArray := prog_14_method_59_code
def yX12_feature : MethodName := ⟨RX12, "feature", "(II)I"⟩
abbrev cX12_feels : ByteArray := prog_14_method_60_code
def yX12_feels : MethodName := ⟨RX12, "feels", "(III)I"⟩
abbrev cX12_stepOf : ByteArray := prog_14_method_61_code
def yX12_stepOf : MethodName := ⟨RX12, "stepOf", "(II)I"⟩
abbrev cX12_ringOf : ByteArray := prog_14_method_62_code
def yX12_ringOf : MethodName := ⟨RX12, "ringOf", "(I)I"⟩
abbrev cX12_placeOf : ByteArray := prog_14_method_63_code
def yX12_placeOf : MethodName := ⟨RX12, "placeOf", "(I)I"⟩
abbrev cX12_key : ByteArray := prog_14_method_64_code
def yX12_key : MethodName := ⟨RX12, "key", "(II)I"⟩
abbrev cX12_gather : ByteArray := prog_14_method_65_code
def yX12_gather : MethodName := ⟨RX12, "gather", "(I)V"⟩
abbrev cX12_ring : ByteArray := prog_14_method_66_code
def yX12_ring : MethodName := ⟨RX12, "ring", "(II)I"⟩
abbrev cX12_door : ByteArray := prog_14_method_67_code
def yX12_door : MethodName := ⟨RX12, "door", "(II)I"⟩
abbrev cX12_round : ByteArray := prog_14_method_68_code
def yX12_round : MethodName := ⟨RX12, "round", "(I)I"⟩
abbrev cX12_letGo : ByteArray := prog_14_method_69_code
def yX12_letGo : MethodName := ⟨RX12, "letGo", "(I)V"⟩
abbrev cX12_lay : ByteArray := prog_14_method_70_code
def yX12_lay : MethodName := ⟨RX12, "lay", "(II)Z"⟩
abbrev cX12_lend : ByteArray := prog_14_method_71_code
def yX12_lend : MethodName := ⟨RX12, "lend", "(IZ)Z"⟩
abbrev cX12_insert : ByteArray := prog_14_method_72_code
def yX12_insert : MethodName := ⟨RX12, "insert", "(III)V"⟩
abbrev cX12_take2 : ByteArray := prog_14_method_73_code
def yX12_take2 : MethodName := ⟨RX12, "take2", "(I)V"⟩
abbrev cX12_put : ByteArray := prog_14_method_74_code
def yX12_put : MethodName := ⟨RX12, "put", "(III)Z"⟩
abbrev cX12_off : ByteArray := prog_14_method_75_code
def yX12_off : MethodName := ⟨RX12, "off", "(I)Z"⟩
abbrev cX12_shareOut : ByteArray := prog_14_method_76_code
def yX12_shareOut : MethodName := ⟨RX12, "shareOut", "()Z"⟩
abbrev cX12_beginThought : ByteArray := prog_14_method_77_code
def yX12_beginThought : MethodName := ⟨RX12, "beginThought", "()V"⟩
abbrev cX12_take : ByteArray := prog_14_method_78_code
def yX12_take : MethodName := ⟨RX12, "take", "(I)Z"⟩
abbrev cX12_isHeld : ByteArray := prog_14_method_79_code
def yX12_isHeld : MethodName := ⟨RX12, "isHeld", "()Z"⟩
abbrev cX12_part : ByteArray := prog_14_method_80_code
def yX12_part : MethodName := ⟨RX12, "part", "(II)I"⟩
abbrev cX12_stepAs : ByteArray := prog_14_method_81_code
def yX12_stepAs : MethodName := ⟨RX12, "stepAs", "(III)I"⟩
abbrev cX12_felt : ByteArray := prog_14_method_82_code
def yX12_felt : MethodName := ⟨RX12, "felt", "(IIII)I"⟩
abbrev cX12_feelAs : ByteArray := prog_14_method_83_code
def yX12_feelAs : MethodName := ⟨RX12, "feelAs", "(II)Z"⟩
abbrev cX12_feel : ByteArray := prog_14_method_84_code
def yX12_feel : MethodName := ⟨RX12, "feel", "(II)Z"⟩
abbrev cX12_onward : ByteArray := prog_14_method_85_code
def yX12_onward : MethodName := ⟨RX12, "onward", "(I)I"⟩
abbrev cX12_goAs : ByteArray := prog_14_method_86_code
def yX12_goAs : MethodName := ⟨RX12, "goAs", "()V"⟩
abbrev cX12_goOn : ByteArray := prog_14_method_87_code
def yX12_goOn : MethodName := ⟨RX12, "goOn", "()Z"⟩
abbrev cX12_turnAs : ByteArray := prog_14_method_88_code
def yX12_turnAs : MethodName := ⟨RX12, "turnAs", "()V"⟩
abbrev cX12_turn : ByteArray := prog_14_method_89_code
def yX12_turn : MethodName := ⟨RX12, "turn", "()Z"⟩
abbrev cX12_tryAs : ByteArray := prog_14_method_90_code
def yX12_tryAs : MethodName := ⟨RX12, "tryAs", "(IZ)Z"⟩
abbrev cX12_tried : ByteArray := prog_14_method_91_code
def yX12_tried : MethodName := ⟨RX12, "tried", "(IZ)Z"⟩
abbrev cX12_here : ByteArray := prog_14_method_92_code
def yX12_here : MethodName := ⟨RX12, "here", "(I)Z"⟩
abbrev cX12_opensOf : ByteArray := prog_14_method_93_code
def yX12_opensOf : MethodName := ⟨RX12, "opensOf", "(I)J"⟩
abbrev cX12_opens : ByteArray := prog_14_method_94_code
def yX12_opens : MethodName := ⟨RX12, "opens", "(I)Z"⟩
abbrev cX12_power : ByteArray := prog_14_method_95_code
def yX12_power : MethodName := ⟨RX12, "power", "(I)J"⟩
abbrev cX12_worthOf : ByteArray := prog_14_method_96_code
def yX12_worthOf : MethodName := ⟨RX12, "worthOf", "(III)J"⟩
abbrev cX12_triedWorth : ByteArray := prog_14_method_97_code
def yX12_triedWorth : MethodName := ⟨RX12, "triedWorth", "(III)J"⟩
abbrev cX12_goneWorth : ByteArray := prog_14_method_98_code
def yX12_goneWorth : MethodName := ⟨RX12, "goneWorth", "(III)J"⟩
abbrev cX12_feltWorth : ByteArray := prog_14_method_99_code
def yX12_feltWorth : MethodName := ⟨RX12, "feltWorth", "(IIII)J"⟩
abbrev cX12_findWorth : ByteArray := prog_14_method_100_code
def yX12_findWorth : MethodName := ⟨RX12, "findWorth", "(II)J"⟩
abbrev cX12_worth : ByteArray := prog_14_method_101_code
def yX12_worth : MethodName := ⟨RX12, "worth", "(II)Z"⟩
abbrev cX12_next : ByteArray := prog_14_method_102_code
def yX12_next : MethodName := ⟨RX12, "next", "(II)I"⟩
abbrev cX12_search : ByteArray := prog_14_method_103_code
def yX12_search : MethodName := ⟨RX12, "search", "(III)I"⟩
abbrev cX12_searched : ByteArray := prog_14_method_104_code
def yX12_searched : MethodName := ⟨RX12, "searched", "(IIII)I"⟩
abbrev cX12_meanFrom : ByteArray := prog_14_method_105_code
def yX12_meanFrom : MethodName := ⟨RX12, "meanFrom", "(II)V"⟩
abbrev cX12_meanAnywhere : ByteArray := prog_14_method_106_code
def yX12_meanAnywhere : MethodName := ⟨RX12, "meanAnywhere", "()V"⟩
abbrev cX12_from : ByteArray := prog_14_method_107_code
def yX12_from : MethodName := ⟨RX12, "from", "(III)Z"⟩
abbrev cX12_anywhere : ByteArray := prog_14_method_108_code
def yX12_anywhere : MethodName := ⟨RX12, "anywhere", "(I)Z"⟩
abbrev cX12_isUsed : ByteArray := prog_14_method_109_code
def yX12_isUsed : MethodName := ⟨RX12, "isUsed", "(II)Z"⟩
abbrev cX12_isOrdered : ByteArray := prog_14_method_110_code
def yX12_isOrdered : MethodName := ⟨RX12, "isOrdered", "(I)Z"⟩
abbrev cX12_judge : ByteArray := prog_14_method_111_code
def yX12_judge : MethodName := ⟨RX12, "judge", "()V"⟩
abbrev cX12_orderFrom : ByteArray := prog_14_method_112_code
def yX12_orderFrom : MethodName := ⟨RX12, "orderFrom", "(I)V"⟩
abbrev cX12_findOrder : ByteArray := prog_14_method_113_code
def yX12_findOrder : MethodName := ⟨RX12, "findOrder", "(I)V"⟩
abbrev cX12_laid : ByteArray := prog_14_method_114_code
def yX12_laid : MethodName := ⟨RX12, "laid", "(IZ)I"⟩
abbrev cX12_hasOpener : ByteArray := prog_14_method_115_code
def yX12_hasOpener : MethodName := ⟨RX12, "hasOpener", "(I)Z"⟩
abbrev cX12_judgeRow : ByteArray := prog_14_method_116_code
def yX12_judgeRow : MethodName := ⟨RX12, "judgeRow", "(II)V"⟩
abbrev cX12_rowFrom : ByteArray := prog_14_method_117_code
def yX12_rowFrom : MethodName := ⟨RX12, "rowFrom", "(II)V"⟩
abbrev cX12_inRow : ByteArray := prog_14_method_118_code
def yX12_inRow : MethodName := ⟨RX12, "inRow", "(I)I"⟩
abbrev cX12_walk : ByteArray := prog_14_method_119_code
def yX12_walk : MethodName := ⟨RX12, "walk", "()I"⟩
abbrev cX12_walked : ByteArray := prog_14_method_120_code
def yX12_walked : MethodName := ⟨RX12, "walked", "(I)I"⟩
abbrev cX12_laidForRound : ByteArray := prog_14_method_121_code
def yX12_laidForRound : MethodName := ⟨RX12, "laidForRound", "(I)I"⟩
abbrev cX12_found : ByteArray := prog_14_method_122_code
def yX12_found : MethodName := ⟨RX12, "found", "(I)I"⟩
abbrev cX12_differ : ByteArray := prog_14_method_123_code
def yX12_differ : MethodName := ⟨RX12, "differ", "(IIIII)Z"⟩
abbrev cX12_tellsAll : ByteArray := prog_14_method_124_code
def yX12_tellsAll : MethodName := ⟨RX12, "tellsAll", "(IZ)Z"⟩
abbrev cX12_all : ByteArray := prog_14_method_125_code
def yX12_all : MethodName := ⟨RX12, "all", "()I"⟩
abbrev cX12_alike : ByteArray := prog_14_method_126_code
def yX12_alike : MethodName := ⟨RX12, "alike", "(I)I"⟩
abbrev cX12_bits : ByteArray := prog_14_method_127_code
def yX12_bits : MethodName := ⟨RX12, "bits", "(I)I"⟩
abbrev cX12_apart : ByteArray := prog_14_method_128_code
def yX12_apart : MethodName := ⟨RX12, "apart", "(IZ)I"⟩
abbrev cX12_filed : ByteArray := prog_14_method_129_code
def yX12_filed : MethodName := ⟨RX12, "filed", "(II)I"⟩
abbrev cX12_areSame : ByteArray := prog_14_method_130_code
def yX12_areSame : MethodName := ⟨RX12, "areSame", "(IIII)Z"⟩
abbrev cX12_isKnown : ByteArray := prog_14_method_131_code
def yX12_isKnown : MethodName := ⟨RX12, "isKnown", "(IZ)Z"⟩
abbrev cX12_known : ByteArray := prog_14_method_132_code
def yX12_known : MethodName := ⟨RX12, "known", "(IZ)I"⟩
abbrev cX12_isOnly : ByteArray := prog_14_method_133_code
def yX12_isOnly : MethodName := ⟨RX12, "isOnly", "(II)Z"⟩
abbrev cX12_besides : ByteArray := prog_14_method_134_code
def yX12_besides : MethodName := ⟨RX12, "besides", "(I)I"⟩
abbrev cX12_missing : ByteArray := prog_14_method_135_code
def yX12_missing : MethodName := ⟨RX12, "missing", "(IIII)Z"⟩
abbrev cX12_soon : ByteArray := prog_14_method_136_code
def yX12_soon : MethodName := ⟨RX12, "soon", "(IIII)I"⟩
abbrev cX12_newly : ByteArray := prog_14_method_137_code
def yX12_newly : MethodName := ⟨RX12, "newly", "(III)I"⟩
abbrev cX12_isTurn : ByteArray := prog_14_method_138_code
def yX12_isTurn : MethodName := ⟨RX12, "isTurn", "()Z"⟩
abbrev cX12_isStop : ByteArray := prog_14_method_139_code
def yX12_isStop : MethodName := ⟨RX12, "isStop", "()Z"⟩
abbrev cX12_isWhen : ByteArray := prog_14_method_140_code
def yX12_isWhen : MethodName := ⟨RX12, "isWhen", "()Z"⟩
abbrev cX12_isLoop : ByteArray := prog_14_method_141_code
def yX12_isLoop : MethodName := ⟨RX12, "isLoop", "()Z"⟩
abbrev cX12_isEnd : ByteArray := prog_14_method_142_code
def yX12_isEnd : MethodName := ⟨RX12, "isEnd", "()Z"⟩
abbrev cX12_isFelt : ByteArray := prog_14_method_143_code
def yX12_isFelt : MethodName := ⟨RX12, "isFelt", "()Z"⟩
abbrev cX12_isSure : ByteArray := prog_14_method_144_code
def yX12_isSure : MethodName := ⟨RX12, "isSure", "()Z"⟩
abbrev cX12_isTried : ByteArray := prog_14_method_145_code
def yX12_isTried : MethodName := ⟨RX12, "isTried", "()Z"⟩
abbrev cX12_plainStep : ByteArray := prog_14_method_146_code
def yX12_plainStep : MethodName := ⟨RX12, "plainStep", "()I"⟩
abbrev cX12_readFeatureName : ByteArray := prog_14_method_147_code
def yX12_readFeatureName : MethodName := ⟨RX12, "readFeatureName", "()I"⟩
abbrev cX12_readWhen : ByteArray := prog_14_method_148_code
def yX12_readWhen : MethodName := ⟨RX12, "readWhen", "(I)V"⟩
abbrev cX12_readStep : ByteArray := prog_14_method_149_code
def yX12_readStep : MethodName := ⟨RX12, "readStep", "(I)V"⟩
abbrev cX12_rule : ByteArray := prog_14_method_150_code
def yX12_rule : MethodName := ⟨RX12, "rule", "(I)I"⟩
abbrev cX12_draw : ByteArray := prog_14_method_151_code
def yX12_draw : MethodName := ⟨RX12, "draw", "(I)I"⟩
abbrev cX12_forgetHere : ByteArray := prog_14_method_152_code
def yX12_forgetHere : MethodName := ⟨RX12, "forgetHere", "()V"⟩
abbrev cX12_pickUp : ByteArray := prog_14_method_153_code
def yX12_pickUp : MethodName := ⟨RX12, "pickUp", "()V"⟩
abbrev cX12_doFeel : ByteArray := prog_14_method_154_code
def yX12_doFeel : MethodName := ⟨RX12, "doFeel", "(I)V"⟩
abbrev cX12_doTry : ByteArray := prog_14_method_155_code
def yX12_doTry : MethodName := ⟨RX12, "doTry", "()V"⟩
abbrev cX12_isSo : ByteArray := prog_14_method_156_code
def yX12_isSo : MethodName := ⟨RX12, "isSo", "(I)Z"⟩
abbrev cX12_doOne : ByteArray := prog_14_method_157_code
def yX12_doOne : MethodName := ⟨RX12, "doOne", "(I)V"⟩
abbrev cX12_doAll : ByteArray := prog_14_method_158_code
def yX12_doAll : MethodName := ⟨RX12, "doAll", "(II)V"⟩
abbrev cX12_playOnce : ByteArray := prog_14_method_159_code
def yX12_playOnce : MethodName := ⟨RX12, "playOnce", "(III)V"⟩
abbrev cX12_play : ByteArray := prog_14_method_160_code
def yX12_play : MethodName := ⟨RX12, "play", "(III)I"⟩
abbrev cX12_played : ByteArray := prog_14_method_161_code
def yX12_played : MethodName := ⟨RX12, "played", "(I)I"⟩
abbrev cX12_tally : ByteArray := prog_14_method_162_code
def yX12_tally : MethodName := ⟨RX12, "tally", "(IIII)I"⟩
abbrev cX12_copy : ByteArray := prog_14_method_163_code
def yX12_copy : MethodName := ⟨RX12, "copy", "(II)V"⟩
abbrev cX12_mark : ByteArray := prog_14_method_164_code
def yX12_mark : MethodName := ⟨RX12, "mark", "()I"⟩
abbrev cX12_back : ByteArray := prog_14_method_165_code
def yX12_back : MethodName := ⟨RX12, "back", "()I"⟩
def RJx145de : String := "java/io/Serializable"
def RJx9f9b0 : String := "java/lang/CharSequence"
def RJxb160c : String := "java/lang/Comparable"
def RJ6 : String := "java/lang/Integer"
abbrev cJ6_bitCount_0f7a4 : ByteArray := prog_15_method_49_code
def yJ6_bitCount_0f7a4 : MethodName := ⟨RJ6, "bitCount", "(I)I"⟩
def RJ9 : String := "java/lang/Math"
abbrev cJ9_floorMod_7cf53 : ByteArray := prog_16_method_50_code
def yJ9_floorMod_7cf53 : MethodName := ⟨RJ9, "floorMod", "(II)I"⟩
abbrev cJ9_abs_067f4 : ByteArray := prog_16_method_61_code
def yJ9_abs_067f4 : MethodName := ⟨RJ9, "abs", "(J)J"⟩
abbrev cJ9_max_f86c9 : ByteArray := prog_16_method_66_code
def yJ9_max_f86c9 : MethodName := ⟨RJ9, "max", "(JJ)J"⟩
abbrev cJ9_min_7cf53 : ByteArray := prog_16_method_69_code
def yJ9_min_7cf53 : MethodName := ⟨RJ9, "min", "(II)I"⟩
def RJ0 : String := "java/lang/String"
abbrev cJ0_length_8abf5 : ByteArray := prog_17_method_54_code
def yJ0_length_8abf5 : MethodName := ⟨RJ0, "length", "()I"⟩
abbrev cJ0_charAt_5068e : ByteArray := prog_17_method_56_code
def yJ0_charAt_5068e : MethodName := ⟨RJ0, "charAt", "(I)C"⟩
abbrev cJ0_coder_7d493 : ByteArray := prog_17_method_152_code
def yJ0_coder_7d493 : MethodName := ⟨RJ0, "coder", "()B"⟩
abbrev cJ0_isLatin1_aae02 : ByteArray := prog_17_method_154_code
def yJ0_isLatin1_aae02 : MethodName := ⟨RJ0, "isLatin1", "()Z"⟩
abbrev cJ0_checkIndex_df160 : ByteArray := prog_17_method_155_code
def yJ0_checkIndex_df160 : MethodName := ⟨RJ0, "checkIndex", "(II)V"⟩
def RJ1 : String := "java/lang/StringLatin1"
abbrev cJ1_charAt_3b067 : ByteArray := prog_18_method_2_code
def yJ1_charAt_3b067 : MethodName := ⟨RJ1, "charAt", "([BI)C"⟩
def RJ2 : String := "java/lang/StringUTF16"
abbrev cJ2_getChar_3b067 : ByteArray := prog_19_method_5_code
def yJ2_getChar_3b067 : MethodName := ⟨RJ2, "getChar", "([BI)C"⟩
abbrev cJ2_length_9d52b : ByteArray := prog_19_method_6_code
def yJ2_length_9d52b : MethodName := ⟨RJ2, "length", "([B)I"⟩
abbrev cJ2_charAt_3b067 : ByteArray := prog_19_method_83_code
def yJ2_charAt_3b067 : MethodName := ⟨RJ2, "charAt", "([BI)C"⟩
abbrev cJ2_checkIndex_2214a : ByteArray := prog_19_method_91_code
def yJ2_checkIndex_2214a : MethodName := ⟨RJ2, "checkIndex", "(I[B)V"⟩
def RJ10 : String := "java/lang/System"
def RJxfd54e : String := "java/lang/constant/Constable"
def RJx3cf43 : String := "java/lang/constant/ConstantDesc"
def RJ7 : String := "java/util/Arrays"
abbrev cJ7_fill_d0a16 : ByteArray := prog_21_method_101_code
def yJ7_fill_d0a16 : MethodName := ⟨RJ7, "fill", "([JJ)V"⟩
abbrev cJ7_fill_53178 : ByteArray := prog_21_method_103_code
def yJ7_fill_53178 : MethodName := ⟨RJ7, "fill", "([II)V"⟩
def RJ3 : String := "jdk/internal/util/Preconditions"
abbrev cJ3_checkIndex_8e157 : ByteArray := prog_22_method_11_code
def yJ3_checkIndex_8e157 : MethodName := ⟨RJ3, "checkIndex", "(IILjava/util/function/BiFunction;)I"⟩
def RL : String := "DarkRingLaw"
abbrev vwCl : List vw_C := [(RX0, TX0, 7), (RX1, TX1, 20), (RX2, TX2, 18), (RX3, TX3, 10), (RX4, TX4, 3), (RX5, TX5, 8), (RX6, TX6, 5), (RX7, TX7, 11), (RX8, TX8, 11), (RX9, TX9, 6), (RX10, TX10, 3), (RX11, TX11, 18), (RX12, TX12, 65)]

def TB : List Cond := lw_tbl.filter goodWord
theorem tb_mem {w : Cond} (i : Nat) (h : lw_tbl[i]? = some w) (hg : goodWord w = true) : w ∈ TB := List.mem_filter.mpr ⟨List.mem_of_getElem? h, hg⟩
theorem tb_good : ∀ w ∈ TB, w ∈ TB ∧ ((w.onTables && w.keeps) = true ∨ ∃ ty, w = .arrayClass ty) := fun w h => ⟨h, good_of_word (List.mem_filter.mp h).2⟩
theorem tb_in : ∀ w ∈ TB, w ∈ lw_tbl := fun w h => (List.mem_filter.mp h).1
def zz_nest : Cond → Bool
  | .methodLinkNest _ _ _ _ => true
  | .fieldLinkNest _ _ _ _ _ _ => true
  | _ => false
def NB : List Cond := lw_tbl.filter zz_nest
theorem nb_mem {w : Cond} (i : Nat) (h : lw_tbl[i]? = some w) (hg : zz_nest w = true) : w ∈ NB := List.mem_filter.mpr ⟨List.mem_of_getElem? h, hg⟩
theorem nb_in : ∀ w ∈ NB, w ∈ lw_tbl := fun w h => (List.mem_filter.mp h).1
theorem tb_mem_all {ws : List Cond} (ps : List Nat) (hp : ws = ps.filterMap (fun i => lw_tbl[i]?)) (h : ws.all goodWord = true) : ∀ w ∈ ws, w ∈ TB := by
  intro w hw
  have h1 := List.all_eq_true.mp h w hw
  rw [hp] at hw
  obtain ⟨i, -, hi⟩ := List.mem_filterMap.mp hw
  exact List.mem_filter.mpr ⟨List.mem_of_getElem? hi, h1⟩

theorem inT0 : ∀ w ∈ wsX00, w ∈ TB := tb_mem_all [549, 551, 553, 555, 557, 559, 561] (by decide +kernel) (by decide +kernel)
theorem inT1 : ∀ w ∈ wsX10, w ∈ TB := tb_mem_all [595, 597, 599, 601, 603, 605, 607, 609, 611, 613, 615, 617, 619, 621, 623, 625, 627, 629, 631, 633] (by decide +kernel) (by decide +kernel)
theorem inT2 : ∀ w ∈ wsX20, w ∈ TB := tb_mem_all [304, 306, 308, 310, 312, 314, 316, 318, 320, 322, 324, 326, 328, 330, 332, 334, 336, 338] (by decide +kernel) (by decide +kernel)
theorem inT3 : ∀ w ∈ wsX30, w ∈ TB := tb_mem_all [427, 429, 431, 433, 435, 437, 439, 441, 443, 445] (by decide +kernel) (by decide +kernel)
theorem inT4 : ∀ w ∈ wsX40, w ∈ TB := tb_mem_all [527, 529, 531] (by decide +kernel) (by decide +kernel)
theorem inT5 : ∀ w ∈ wsX50, w ∈ TB := tb_mem_all [391, 393, 395, 397, 399, 401, 403, 405] (by decide +kernel) (by decide +kernel)
theorem inT6 : ∀ w ∈ wsX60, w ∈ TB := tb_mem_all [462, 464, 466, 468, 470] (by decide +kernel) (by decide +kernel)
theorem inT7 : ∀ w ∈ wsX70, w ∈ TB := tb_mem_all [494, 496, 498, 500, 502, 504, 506, 508, 510, 512, 514] (by decide +kernel) (by decide +kernel)
theorem inT8 : ∀ w ∈ wsX80, w ∈ TB := tb_mem_all [224, 226, 228, 230, 232, 234, 236, 238, 240, 242, 244] (by decide +kernel) (by decide +kernel)
theorem inT9 : ∀ w ∈ wsX90, w ∈ TB := tb_mem_all [359, 361, 363, 365, 367, 369] (by decide +kernel) (by decide +kernel)
theorem inT10 : ∀ w ∈ wsX100, w ∈ TB := tb_mem_all [649, 651, 653] (by decide +kernel) (by decide +kernel)
theorem inT11 : ∀ w ∈ wsX110, w ∈ TB := tb_mem_all [674, 676, 678, 680, 682, 684, 686, 688, 690, 692, 694, 696, 698, 700, 702, 704, 706, 708] (by decide +kernel) (by decide +kernel)
theorem inT12 : ∀ w ∈ wsX120, w ∈ TB := tb_mem_all [1948, 1950, 1952, 1954, 1956, 1958, 1960, 1962, 1964, 1966, 1968, 1970, 1972, 1974, 1976, 1978, 1980, 1982, 1984, 1986, 1988, 1990, 1992, 1994, 1996, 1998, 2000, 2002, 2004, 2006, 2008, 2010, 2012, 2014, 2016, 2018, 2020, 2022, 2024, 2026, 2028, 2030, 2032, 2034, 2036, 2038, 2040, 2042, 2044, 2046, 2048, 2050, 2052, 2054, 2056, 2058, 2060, 2062, 2064, 2066, 2068, 2070, 2072, 2074, 2076] (by decide +kernel) (by decide +kernel)
