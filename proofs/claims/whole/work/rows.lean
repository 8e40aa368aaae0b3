section
-- ===== PART A: goes FIRST, ahead of the names: the tables' words, and 'selects' of the private methods out of them =====
/-- a private method of a class that the tables say can be made, by its rows of tables_1 -/
def lw_okq (q : MethodName × Nat) : Prop := (q.1.cls ≠ "java/lang/invoke/MethodHandle" ∧ q.1.cls ≠ "java/lang/invoke/VarHandle") ∧ Cond.instantiable q.1.cls q.2 ∈ tables_1 ∧ Cond.privateMethod q.1 ∈ tables_1 ∧ Cond.instanceMethod q.1 ∈ tables_1
theorem lw_p0 : lw_okq (⟨"DyerBells$Tape", "readRun", "(I)Z"⟩, 12) := ⟨⟨by decide +kernel, by decide +kernel⟩, List.mem_of_getElem? (i := 30) (by decide +kernel), List.mem_of_getElem? (i := 487) (by decide +kernel), List.mem_of_getElem? (i := 488) (by decide +kernel)⟩
theorem lw_p1 : lw_okq (⟨"DyerBells$Tape", "readSign", "(I)V"⟩, 12) := ⟨⟨by decide +kernel, by decide +kernel⟩, List.mem_of_getElem? (i := 30) (by decide +kernel), List.mem_of_getElem? (i := 491) (by decide +kernel), List.mem_of_getElem? (i := 492) (by decide +kernel)⟩
theorem lw_p2 : lw_okq (⟨"DyerBells$Tape", "refuseAt", "(II)V"⟩, 12) := ⟨⟨by decide +kernel, by decide +kernel⟩, List.mem_of_getElem? (i := 30) (by decide +kernel), List.mem_of_getElem? (i := 514) (by decide +kernel), List.mem_of_getElem? (i := 515) (by decide +kernel)⟩
theorem lw_p3 : lw_okq (⟨"DyerBells$Tape", "isRiverWord", "()Z"⟩, 12) := ⟨⟨by decide +kernel, by decide +kernel⟩, List.mem_of_getElem? (i := 30) (by decide +kernel), List.mem_of_getElem? (i := 527) (by decide +kernel), List.mem_of_getElem? (i := 528) (by decide +kernel)⟩
theorem lw_p4 : lw_okq (⟨"DyerBells$Tape", "isSentenceWord", "()Z"⟩, 12) := ⟨⟨by decide +kernel, by decide +kernel⟩, List.mem_of_getElem? (i := 30) (by decide +kernel), List.mem_of_getElem? (i := 539) (by decide +kernel), List.mem_of_getElem? (i := 540) (by decide +kernel)⟩
theorem lw_p5 : lw_okq (⟨"DyerBells$Names", "find", "(J)I"⟩, 4) := ⟨⟨by decide +kernel, by decide +kernel⟩, List.mem_of_getElem? (i := 93) (by decide +kernel), List.mem_of_getElem? (i := 553) (by decide +kernel), List.mem_of_getElem? (i := 554) (by decide +kernel)⟩
theorem lw_p6 : lw_okq (⟨"DyerBells", "isRefused", "()Z"⟩, 17) := ⟨⟨by decide +kernel, by decide +kernel⟩, List.mem_of_getElem? (i := 22) (by decide +kernel), List.mem_of_getElem? (i := 615) (by decide +kernel), List.mem_of_getElem? (i := 616) (by decide +kernel)⟩
theorem lw_p7 : lw_okq (⟨"DyerBells$Order", "readBell", "(LDyerBells$Tape;LDyerBells$Names;)V"⟩, 4) := ⟨⟨by decide +kernel, by decide +kernel⟩, List.mem_of_getElem? (i := 227) (by decide +kernel), List.mem_of_getElem? (i := 664) (by decide +kernel), List.mem_of_getElem? (i := 665) (by decide +kernel)⟩
theorem lw_p8 : lw_okq (⟨"DyerBells", "isHour", "(I)Z"⟩, 17) := ⟨⟨by decide +kernel, by decide +kernel⟩, List.mem_of_getElem? (i := 22) (by decide +kernel), List.mem_of_getElem? (i := 686) (by decide +kernel), List.mem_of_getElem? (i := 687) (by decide +kernel)⟩
theorem lw_p9 : lw_okq (⟨"DyerBells", "isGuild", "(I)Z"⟩, 17) := ⟨⟨by decide +kernel, by decide +kernel⟩, List.mem_of_getElem? (i := 22) (by decide +kernel), List.mem_of_getElem? (i := 690) (by decide +kernel), List.mem_of_getElem? (i := 691) (by decide +kernel)⟩
theorem lw_p10 : lw_okq (⟨"DyerBells", "isReach", "(I)Z"⟩, 17) := ⟨⟨by decide +kernel, by decide +kernel⟩, List.mem_of_getElem? (i := 22) (by decide +kernel), List.mem_of_getElem? (i := 703) (by decide +kernel), List.mem_of_getElem? (i := 704) (by decide +kernel)⟩
theorem lw_p11 : lw_okq (⟨"DyerBells", "isColour", "(I)Z"⟩, 17) := ⟨⟨by decide +kernel, by decide +kernel⟩, List.mem_of_getElem? (i := 22) (by decide +kernel), List.mem_of_getElem? (i := 707) (by decide +kernel), List.mem_of_getElem? (i := 708) (by decide +kernel)⟩
theorem lw_p12 : lw_okq (⟨"DyerBells", "past", "()LDyerBells$Past;"⟩, 17) := ⟨⟨by decide +kernel, by decide +kernel⟩, List.mem_of_getElem? (i := 22) (by decide +kernel), List.mem_of_getElem? (i := 711) (by decide +kernel), List.mem_of_getElem? (i := 712) (by decide +kernel)⟩
theorem lw_p13 : lw_okq (⟨"DyerBells$Week", "pour", "(LDyerBells$River;I)V"⟩, 6) := ⟨⟨by decide +kernel, by decide +kernel⟩, List.mem_of_getElem? (i := 322) (by decide +kernel), List.mem_of_getElem? (i := 747) (by decide +kernel), List.mem_of_getElem? (i := 748) (by decide +kernel)⟩
theorem lw_p14 : lw_okq (⟨"DyerBells$Week", "washUp", "(LDyerBells$River;)V"⟩, 6) := ⟨⟨by decide +kernel, by decide +kernel⟩, List.mem_of_getElem? (i := 322) (by decide +kernel), List.mem_of_getElem? (i := 755) (by decide +kernel), List.mem_of_getElem? (i := 756) (by decide +kernel)⟩
theorem lw_p15 : lw_okq (⟨"DyerBells$Week", "carry", "(LDyerBells$River;I)V"⟩, 6) := ⟨⟨by decide +kernel, by decide +kernel⟩, List.mem_of_getElem? (i := 322) (by decide +kernel), List.mem_of_getElem? (i := 759) (by decide +kernel), List.mem_of_getElem? (i := 760) (by decide +kernel)⟩
def lw_privs_1 : List (MethodName × Nat) := [(⟨"DyerBells$Tape", "readRun", "(I)Z"⟩, 12), (⟨"DyerBells$Tape", "readSign", "(I)V"⟩, 12), (⟨"DyerBells$Tape", "refuseAt", "(II)V"⟩, 12), (⟨"DyerBells$Tape", "isRiverWord", "()Z"⟩, 12), (⟨"DyerBells$Tape", "isSentenceWord", "()Z"⟩, 12), (⟨"DyerBells$Names", "find", "(J)I"⟩, 4), (⟨"DyerBells", "isRefused", "()Z"⟩, 17), (⟨"DyerBells$Order", "readBell", "(LDyerBells$Tape;LDyerBells$Names;)V"⟩, 4), (⟨"DyerBells", "isHour", "(I)Z"⟩, 17), (⟨"DyerBells", "isGuild", "(I)Z"⟩, 17), (⟨"DyerBells", "isReach", "(I)Z"⟩, 17), (⟨"DyerBells", "isColour", "(I)Z"⟩, 17), (⟨"DyerBells", "past", "()LDyerBells$Past;"⟩, 17), (⟨"DyerBells$Week", "pour", "(LDyerBells$River;I)V"⟩, 6), (⟨"DyerBells$Week", "washUp", "(LDyerBells$River;)V"⟩, 6), (⟨"DyerBells$Week", "carry", "(LDyerBells$River;I)V"⟩, 6)]
theorem lw_r1 : ∀ q ∈ lw_privs_1, lw_okq q := List.forall_mem_cons.mpr ⟨lw_p0, List.forall_mem_cons.mpr ⟨lw_p1, List.forall_mem_cons.mpr ⟨lw_p2, List.forall_mem_cons.mpr ⟨lw_p3, List.forall_mem_cons.mpr ⟨lw_p4, List.forall_mem_cons.mpr ⟨lw_p5, List.forall_mem_cons.mpr ⟨lw_p6, List.forall_mem_cons.mpr ⟨lw_p7, List.forall_mem_cons.mpr ⟨lw_p8, List.forall_mem_cons.mpr ⟨lw_p9, List.forall_mem_cons.mpr ⟨lw_p10, List.forall_mem_cons.mpr ⟨lw_p11, List.forall_mem_cons.mpr ⟨lw_p12, List.forall_mem_cons.mpr ⟨lw_p13, List.forall_mem_cons.mpr ⟨lw_p14, List.forall_mem_cons.mpr ⟨lw_p15, fun _ h => absurd h List.not_mem_nil⟩⟩⟩⟩⟩⟩⟩⟩⟩⟩⟩⟩⟩⟩⟩⟩
theorem lw_p16 : lw_okq (⟨"DyerBells$Week", "sink", "(LDyerBells$River;)V"⟩, 6) := ⟨⟨by decide +kernel, by decide +kernel⟩, List.mem_of_getElem? (i := 322) (by decide +kernel), List.mem_of_getElem? (i := 767) (by decide +kernel), List.mem_of_getElem? (i := 768) (by decide +kernel)⟩
theorem lw_p17 : lw_okq (⟨"DyerBells$Week", "suffers", "(LDyerBells$River;I)Z"⟩, 6) := ⟨⟨by decide +kernel, by decide +kernel⟩, List.mem_of_getElem? (i := 322) (by decide +kernel), List.mem_of_getElem? (i := 780) (by decide +kernel), List.mem_of_getElem? (i := 781) (by decide +kernel)⟩
theorem lw_p18 : lw_okq (⟨"DyerBells", "isUser", "(I)Z"⟩, 17) := ⟨⟨by decide +kernel, by decide +kernel⟩, List.mem_of_getElem? (i := 22) (by decide +kernel), List.mem_of_getElem? (i := 831) (by decide +kernel), List.mem_of_getElem? (i := 832) (by decide +kernel)⟩
theorem lw_p19 : lw_okq (⟨"DyerBells", "chooseGuilds", "(I)Z"⟩, 17) := ⟨⟨by decide +kernel, by decide +kernel⟩, List.mem_of_getElem? (i := 22) (by decide +kernel), List.mem_of_getElem? (i := 863) (by decide +kernel), List.mem_of_getElem? (i := 864) (by decide +kernel)⟩
theorem lw_p20 : lw_okq (⟨"DyerBells", "tryDays", "(IIII)I"⟩, 17) := ⟨⟨by decide +kernel, by decide +kernel⟩, List.mem_of_getElem? (i := 22) (by decide +kernel), List.mem_of_getElem? (i := 871) (by decide +kernel), List.mem_of_getElem? (i := 872) (by decide +kernel)⟩
theorem lw_p21 : lw_okq (⟨"DyerBells", "firstTried", "(II)I"⟩, 17) := ⟨⟨by decide +kernel, by decide +kernel⟩, List.mem_of_getElem? (i := 22) (by decide +kernel), List.mem_of_getElem? (i := 876) (by decide +kernel), List.mem_of_getElem? (i := 877) (by decide +kernel)⟩
theorem lw_p22 : lw_okq (⟨"DyerBells$Week", "beginBehind", "(LDyerBells$Past;I)V"⟩, 6) := ⟨⟨by decide +kernel, by decide +kernel⟩, List.mem_of_getElem? (i := 322) (by decide +kernel), List.mem_of_getElem? (i := 885) (by decide +kernel), List.mem_of_getElem? (i := 886) (by decide +kernel)⟩
theorem lw_p23 : lw_okq (⟨"DyerBells$Week", "addHarm", "(LDyerBells$River;III)I"⟩, 6) := ⟨⟨by decide +kernel, by decide +kernel⟩, List.mem_of_getElem? (i := 322) (by decide +kernel), List.mem_of_getElem? (i := 890) (by decide +kernel), List.mem_of_getElem? (i := 891) (by decide +kernel)⟩
theorem lw_p24 : lw_okq (⟨"DyerBells", "exchangeFirst", "(I)I"⟩, 17) := ⟨⟨by decide +kernel, by decide +kernel⟩, List.mem_of_getElem? (i := 22) (by decide +kernel), List.mem_of_getElem? (i := 910) (by decide +kernel), List.mem_of_getElem? (i := 911) (by decide +kernel)⟩
theorem lw_p25 : lw_okq (⟨"DyerBells", "isBell", "(I)Z"⟩, 17) := ⟨⟨by decide +kernel, by decide +kernel⟩, List.mem_of_getElem? (i := 22) (by decide +kernel), List.mem_of_getElem? (i := 926) (by decide +kernel), List.mem_of_getElem? (i := 927) (by decide +kernel)⟩
theorem lw_p26 : lw_okq (⟨"DyerBells", "tryNights", "(III)I"⟩, 17) := ⟨⟨by decide +kernel, by decide +kernel⟩, List.mem_of_getElem? (i := 22) (by decide +kernel), List.mem_of_getElem? (i := 947) (by decide +kernel), List.mem_of_getElem? (i := 948) (by decide +kernel)⟩
theorem lw_p27 : lw_okq (⟨"DyerBells$Sentence", "isSo", "(ILDyerBells$River;LDyerBells$Past;I)Z"⟩, 7) := ⟨⟨by decide +kernel, by decide +kernel⟩, List.mem_of_getElem? (i := 275) (by decide +kernel), List.mem_of_getElem? (i := 1043) (by decide +kernel), List.mem_of_getElem? (i := 1044) (by decide +kernel)⟩
theorem lw_p28 : lw_okq (⟨"DyerBells$Sentence", "compares", "(II)Z"⟩, 7) := ⟨⟨by decide +kernel, by decide +kernel⟩, List.mem_of_getElem? (i := 275) (by decide +kernel), List.mem_of_getElem? (i := 1049) (by decide +kernel), List.mem_of_getElem? (i := 1050) (by decide +kernel)⟩
theorem lw_p29 : lw_okq (⟨"java/lang/Throwable", "fillInStackTrace", "(I)Ljava/lang/Throwable;"⟩, 6) := ⟨⟨by decide +kernel, by decide +kernel⟩, List.mem_of_getElem? (i := 1113) (by decide +kernel), List.mem_of_getElem? (i := 1111) (by decide +kernel), List.mem_of_getElem? (i := 1112) (by decide +kernel)⟩
theorem lw_p30 : lw_okq (⟨"DyerBellsModel", "come", "(I)V"⟩, 54) := ⟨⟨by decide +kernel, by decide +kernel⟩, List.mem_of_getElem? (i := 1166) (by decide +kernel), List.mem_of_getElem? (i := 1344) (by decide +kernel), List.mem_of_getElem? (i := 1345) (by decide +kernel)⟩
theorem lw_p31 : lw_okq (⟨"DyerBellsModel", "begin", "(I)V"⟩, 54) := ⟨⟨by decide +kernel, by decide +kernel⟩, List.mem_of_getElem? (i := 1166) (by decide +kernel), List.mem_of_getElem? (i := 1356) (by decide +kernel), List.mem_of_getElem? (i := 1357) (by decide +kernel)⟩
def lw_privs_2 : List (MethodName × Nat) := [(⟨"DyerBells$Week", "sink", "(LDyerBells$River;)V"⟩, 6), (⟨"DyerBells$Week", "suffers", "(LDyerBells$River;I)Z"⟩, 6), (⟨"DyerBells", "isUser", "(I)Z"⟩, 17), (⟨"DyerBells", "chooseGuilds", "(I)Z"⟩, 17), (⟨"DyerBells", "tryDays", "(IIII)I"⟩, 17), (⟨"DyerBells", "firstTried", "(II)I"⟩, 17), (⟨"DyerBells$Week", "beginBehind", "(LDyerBells$Past;I)V"⟩, 6), (⟨"DyerBells$Week", "addHarm", "(LDyerBells$River;III)I"⟩, 6), (⟨"DyerBells", "exchangeFirst", "(I)I"⟩, 17), (⟨"DyerBells", "isBell", "(I)Z"⟩, 17), (⟨"DyerBells", "tryNights", "(III)I"⟩, 17), (⟨"DyerBells$Sentence", "isSo", "(ILDyerBells$River;LDyerBells$Past;I)Z"⟩, 7), (⟨"DyerBells$Sentence", "compares", "(II)Z"⟩, 7), (⟨"java/lang/Throwable", "fillInStackTrace", "(I)Ljava/lang/Throwable;"⟩, 6), (⟨"DyerBellsModel", "come", "(I)V"⟩, 54), (⟨"DyerBellsModel", "begin", "(I)V"⟩, 54)]
theorem lw_r2 : ∀ q ∈ lw_privs_2, lw_okq q := List.forall_mem_cons.mpr ⟨lw_p16, List.forall_mem_cons.mpr ⟨lw_p17, List.forall_mem_cons.mpr ⟨lw_p18, List.forall_mem_cons.mpr ⟨lw_p19, List.forall_mem_cons.mpr ⟨lw_p20, List.forall_mem_cons.mpr ⟨lw_p21, List.forall_mem_cons.mpr ⟨lw_p22, List.forall_mem_cons.mpr ⟨lw_p23, List.forall_mem_cons.mpr ⟨lw_p24, List.forall_mem_cons.mpr ⟨lw_p25, List.forall_mem_cons.mpr ⟨lw_p26, List.forall_mem_cons.mpr ⟨lw_p27, List.forall_mem_cons.mpr ⟨lw_p28, List.forall_mem_cons.mpr ⟨lw_p29, List.forall_mem_cons.mpr ⟨lw_p30, List.forall_mem_cons.mpr ⟨lw_p31, fun _ h => absurd h List.not_mem_nil⟩⟩⟩⟩⟩⟩⟩⟩⟩⟩⟩⟩⟩⟩⟩⟩
theorem lw_p32 : lw_okq (⟨"DyerBellsModel", "lay", "()V"⟩, 54) := ⟨⟨by decide +kernel, by decide +kernel⟩, List.mem_of_getElem? (i := 1166) (by decide +kernel), List.mem_of_getElem? (i := 1360) (by decide +kernel), List.mem_of_getElem? (i := 1361) (by decide +kernel)⟩
theorem lw_p33 : lw_okq (⟨"DyerBellsModel", "take", "()I"⟩, 54) := ⟨⟨by decide +kernel, by decide +kernel⟩, List.mem_of_getElem? (i := 1166) (by decide +kernel), List.mem_of_getElem? (i := 1367) (by decide +kernel), List.mem_of_getElem? (i := 1368) (by decide +kernel)⟩
theorem lw_p34 : lw_okq (⟨"DyerBellsModel", "go", "()V"⟩, 54) := ⟨⟨by decide +kernel, by decide +kernel⟩, List.mem_of_getElem? (i := 1166) (by decide +kernel), List.mem_of_getElem? (i := 1371) (by decide +kernel), List.mem_of_getElem? (i := 1372) (by decide +kernel)⟩
theorem lw_p35 : lw_okq (⟨"DyerBellsModel", "byteAt", "(I)I"⟩, 54) := ⟨⟨by decide +kernel, by decide +kernel⟩, List.mem_of_getElem? (i := 1166) (by decide +kernel), List.mem_of_getElem? (i := 1381) (by decide +kernel), List.mem_of_getElem? (i := 1382) (by decide +kernel)⟩
theorem lw_p36 : lw_okq (⟨"DyerBellsModel", "readLine", "()Z"⟩, 54) := ⟨⟨by decide +kernel, by decide +kernel⟩, List.mem_of_getElem? (i := 1166) (by decide +kernel), List.mem_of_getElem? (i := 1387) (by decide +kernel), List.mem_of_getElem? (i := 1388) (by decide +kernel)⟩
theorem lw_p37 : lw_okq (⟨"DyerBellsModel", "isWord", "(I)Z"⟩, 54) := ⟨⟨by decide +kernel, by decide +kernel⟩, List.mem_of_getElem? (i := 1166) (by decide +kernel), List.mem_of_getElem? (i := 1391) (by decide +kernel), List.mem_of_getElem? (i := 1392) (by decide +kernel)⟩
theorem lw_p38 : lw_okq (⟨"DyerBellsModel", "readReach", "()Z"⟩, 54) := ⟨⟨by decide +kernel, by decide +kernel⟩, List.mem_of_getElem? (i := 1166) (by decide +kernel), List.mem_of_getElem? (i := 1404) (by decide +kernel), List.mem_of_getElem? (i := 1405) (by decide +kernel)⟩
theorem lw_p39 : lw_okq (⟨"DyerBellsModel", "bad", "(I)Z"⟩, 54) := ⟨⟨by decide +kernel, by decide +kernel⟩, List.mem_of_getElem? (i := 1166) (by decide +kernel), List.mem_of_getElem? (i := 1408) (by decide +kernel), List.mem_of_getElem? (i := 1409) (by decide +kernel)⟩
theorem lw_p40 : lw_okq (⟨"DyerBellsModel", "readNew", "(I)Z"⟩, 54) := ⟨⟨by decide +kernel, by decide +kernel⟩, List.mem_of_getElem? (i := 1166) (by decide +kernel), List.mem_of_getElem? (i := 1412) (by decide +kernel), List.mem_of_getElem? (i := 1413) (by decide +kernel)⟩
theorem lw_p41 : lw_okq (⟨"DyerBellsModel", "isName", "()Z"⟩, 54) := ⟨⟨by decide +kernel, by decide +kernel⟩, List.mem_of_getElem? (i := 1166) (by decide +kernel), List.mem_of_getElem? (i := 1416) (by decide +kernel), List.mem_of_getElem? (i := 1417) (by decide +kernel)⟩
theorem lw_p42 : lw_okq (⟨"DyerBellsModel", "isTold", "()Z"⟩, 54) := ⟨⟨by decide +kernel, by decide +kernel⟩, List.mem_of_getElem? (i := 1166) (by decide +kernel), List.mem_of_getElem? (i := 1420) (by decide +kernel), List.mem_of_getElem? (i := 1421) (by decide +kernel)⟩
theorem lw_p43 : lw_okq (⟨"DyerBellsModel", "findIn", "([JII)I"⟩, 54) := ⟨⟨by decide +kernel, by decide +kernel⟩, List.mem_of_getElem? (i := 1166) (by decide +kernel), List.mem_of_getElem? (i := 1424) (by decide +kernel), List.mem_of_getElem? (i := 1425) (by decide +kernel)⟩
theorem lw_p44 : lw_okq (⟨"DyerBellsModel", "readNumber", "(II)Z"⟩, 54) := ⟨⟨by decide +kernel, by decide +kernel⟩, List.mem_of_getElem? (i := 1166) (by decide +kernel), List.mem_of_getElem? (i := 1428) (by decide +kernel), List.mem_of_getElem? (i := 1429) (by decide +kernel)⟩
theorem lw_p45 : lw_okq (⟨"DyerBellsModel", "readColour", "()Z"⟩, 54) := ⟨⟨by decide +kernel, by decide +kernel⟩, List.mem_of_getElem? (i := 1166) (by decide +kernel), List.mem_of_getElem? (i := 1435) (by decide +kernel), List.mem_of_getElem? (i := 1436) (by decide +kernel)⟩
theorem lw_p46 : lw_okq (⟨"DyerBellsModel", "readGuild", "()Z"⟩, 54) := ⟨⟨by decide +kernel, by decide +kernel⟩, List.mem_of_getElem? (i := 1166) (by decide +kernel), List.mem_of_getElem? (i := 1439) (by decide +kernel), List.mem_of_getElem? (i := 1440) (by decide +kernel)⟩
theorem lw_p47 : lw_okq (⟨"DyerBellsModel", "readReachTold", "()Z"⟩, 54) := ⟨⟨by decide +kernel, by decide +kernel⟩, List.mem_of_getElem? (i := 1166) (by decide +kernel), List.mem_of_getElem? (i := 1443) (by decide +kernel), List.mem_of_getElem? (i := 1444) (by decide +kernel)⟩
def lw_privs_3 : List (MethodName × Nat) := [(⟨"DyerBellsModel", "lay", "()V"⟩, 54), (⟨"DyerBellsModel", "take", "()I"⟩, 54), (⟨"DyerBellsModel", "go", "()V"⟩, 54), (⟨"DyerBellsModel", "byteAt", "(I)I"⟩, 54), (⟨"DyerBellsModel", "readLine", "()Z"⟩, 54), (⟨"DyerBellsModel", "isWord", "(I)Z"⟩, 54), (⟨"DyerBellsModel", "readReach", "()Z"⟩, 54), (⟨"DyerBellsModel", "bad", "(I)Z"⟩, 54), (⟨"DyerBellsModel", "readNew", "(I)Z"⟩, 54), (⟨"DyerBellsModel", "isName", "()Z"⟩, 54), (⟨"DyerBellsModel", "isTold", "()Z"⟩, 54), (⟨"DyerBellsModel", "findIn", "([JII)I"⟩, 54), (⟨"DyerBellsModel", "readNumber", "(II)Z"⟩, 54), (⟨"DyerBellsModel", "readColour", "()Z"⟩, 54), (⟨"DyerBellsModel", "readGuild", "()Z"⟩, 54), (⟨"DyerBellsModel", "readReachTold", "()Z"⟩, 54)]
theorem lw_r3 : ∀ q ∈ lw_privs_3, lw_okq q := List.forall_mem_cons.mpr ⟨lw_p32, List.forall_mem_cons.mpr ⟨lw_p33, List.forall_mem_cons.mpr ⟨lw_p34, List.forall_mem_cons.mpr ⟨lw_p35, List.forall_mem_cons.mpr ⟨lw_p36, List.forall_mem_cons.mpr ⟨lw_p37, List.forall_mem_cons.mpr ⟨lw_p38, List.forall_mem_cons.mpr ⟨lw_p39, List.forall_mem_cons.mpr ⟨lw_p40, List.forall_mem_cons.mpr ⟨lw_p41, List.forall_mem_cons.mpr ⟨lw_p42, List.forall_mem_cons.mpr ⟨lw_p43, List.forall_mem_cons.mpr ⟨lw_p44, List.forall_mem_cons.mpr ⟨lw_p45, List.forall_mem_cons.mpr ⟨lw_p46, List.forall_mem_cons.mpr ⟨lw_p47, fun _ h => absurd h List.not_mem_nil⟩⟩⟩⟩⟩⟩⟩⟩⟩⟩⟩⟩⟩⟩⟩⟩
theorem lw_p48 : lw_okq (⟨"DyerBellsModel", "readColourTold", "(I)Z"⟩, 54) := ⟨⟨by decide +kernel, by decide +kernel⟩, List.mem_of_getElem? (i := 1166) (by decide +kernel), List.mem_of_getElem? (i := 1447) (by decide +kernel), List.mem_of_getElem? (i := 1448) (by decide +kernel)⟩
theorem lw_p49 : lw_okq (⟨"DyerBellsModel", "readUser", "()Z"⟩, 54) := ⟨⟨by decide +kernel, by decide +kernel⟩, List.mem_of_getElem? (i := 1166) (by decide +kernel), List.mem_of_getElem? (i := 1454) (by decide +kernel), List.mem_of_getElem? (i := 1455) (by decide +kernel)⟩
theorem lw_p50 : lw_okq (⟨"DyerBellsModel", "readFlow", "()Z"⟩, 54) := ⟨⟨by decide +kernel, by decide +kernel⟩, List.mem_of_getElem? (i := 1166) (by decide +kernel), List.mem_of_getElem? (i := 1458) (by decide +kernel), List.mem_of_getElem? (i := 1459) (by decide +kernel)⟩
theorem lw_p51 : lw_okq (⟨"DyerBellsModel", "readFlood", "()Z"⟩, 54) := ⟨⟨by decide +kernel, by decide +kernel⟩, List.mem_of_getElem? (i := 1166) (by decide +kernel), List.mem_of_getElem? (i := 1462) (by decide +kernel), List.mem_of_getElem? (i := 1463) (by decide +kernel)⟩
theorem lw_p52 : lw_okq (⟨"DyerBellsModel", "readPebble", "()Z"⟩, 54) := ⟨⟨by decide +kernel, by decide +kernel⟩, List.mem_of_getElem? (i := 1166) (by decide +kernel), List.mem_of_getElem? (i := 1466) (by decide +kernel), List.mem_of_getElem? (i := 1467) (by decide +kernel)⟩
theorem lw_p53 : lw_okq (⟨"DyerBellsModel", "readEnd", "()Z"⟩, 54) := ⟨⟨by decide +kernel, by decide +kernel⟩, List.mem_of_getElem? (i := 1166) (by decide +kernel), List.mem_of_getElem? (i := 1470) (by decide +kernel), List.mem_of_getElem? (i := 1471) (by decide +kernel)⟩
theorem lw_p54 : lw_okq (⟨"DyerBellsModel", "isSign", "(I)Z"⟩, 54) := ⟨⟨by decide +kernel, by decide +kernel⟩, List.mem_of_getElem? (i := 1166) (by decide +kernel), List.mem_of_getElem? (i := 1474) (by decide +kernel), List.mem_of_getElem? (i := 1475) (by decide +kernel)⟩
theorem lw_p55 : lw_okq (⟨"DyerBellsModel", "isReach", "(I)Z"⟩, 54) := ⟨⟨by decide +kernel, by decide +kernel⟩, List.mem_of_getElem? (i := 1166) (by decide +kernel), List.mem_of_getElem? (i := 1486) (by decide +kernel), List.mem_of_getElem? (i := 1487) (by decide +kernel)⟩
theorem lw_p56 : lw_okq (⟨"DyerBellsModel", "reaches", "()I"⟩, 54) := ⟨⟨by decide +kernel, by decide +kernel⟩, List.mem_of_getElem? (i := 1166) (by decide +kernel), List.mem_of_getElem? (i := 1490) (by decide +kernel), List.mem_of_getElem? (i := 1491) (by decide +kernel)⟩
theorem lw_p57 : lw_okq (⟨"DyerBellsModel", "refuse", "()I"⟩, 54) := ⟨⟨by decide +kernel, by decide +kernel⟩, List.mem_of_getElem? (i := 1166) (by decide +kernel), List.mem_of_getElem? (i := 1494) (by decide +kernel), List.mem_of_getElem? (i := 1495) (by decide +kernel)⟩
theorem lw_p58 : lw_okq (⟨"DyerBellsModel", "isGuild", "(I)Z"⟩, 54) := ⟨⟨by decide +kernel, by decide +kernel⟩, List.mem_of_getElem? (i := 1166) (by decide +kernel), List.mem_of_getElem? (i := 1502) (by decide +kernel), List.mem_of_getElem? (i := 1503) (by decide +kernel)⟩
theorem lw_p59 : lw_okq (⟨"DyerBellsModel", "guilds", "()I"⟩, 54) := ⟨⟨by decide +kernel, by decide +kernel⟩, List.mem_of_getElem? (i := 1166) (by decide +kernel), List.mem_of_getElem? (i := 1506) (by decide +kernel), List.mem_of_getElem? (i := 1507) (by decide +kernel)⟩
theorem lw_p60 : lw_okq (⟨"DyerBellsModel", "colours", "()I"⟩, 54) := ⟨⟨by decide +kernel, by decide +kernel⟩, List.mem_of_getElem? (i := 1166) (by decide +kernel), List.mem_of_getElem? (i := 1510) (by decide +kernel), List.mem_of_getElem? (i := 1511) (by decide +kernel)⟩
theorem lw_p61 : lw_okq (⟨"DyerBellsModel", "isUser", "(I)Z"⟩, 54) := ⟨⟨by decide +kernel, by decide +kernel⟩, List.mem_of_getElem? (i := 1166) (by decide +kernel), List.mem_of_getElem? (i := 1518) (by decide +kernel), List.mem_of_getElem? (i := 1519) (by decide +kernel)⟩
theorem lw_p62 : lw_okq (⟨"DyerBellsModel", "users", "()I"⟩, 54) := ⟨⟨by decide +kernel, by decide +kernel⟩, List.mem_of_getElem? (i := 1166) (by decide +kernel), List.mem_of_getElem? (i := 1522) (by decide +kernel), List.mem_of_getElem? (i := 1523) (by decide +kernel)⟩
theorem lw_p63 : lw_okq (⟨"DyerBellsModel", "readBell", "()Z"⟩, 54) := ⟨⟨by decide +kernel, by decide +kernel⟩, List.mem_of_getElem? (i := 1166) (by decide +kernel), List.mem_of_getElem? (i := 1534) (by decide +kernel), List.mem_of_getElem? (i := 1535) (by decide +kernel)⟩
def lw_privs_4 : List (MethodName × Nat) := [(⟨"DyerBellsModel", "readColourTold", "(I)Z"⟩, 54), (⟨"DyerBellsModel", "readUser", "()Z"⟩, 54), (⟨"DyerBellsModel", "readFlow", "()Z"⟩, 54), (⟨"DyerBellsModel", "readFlood", "()Z"⟩, 54), (⟨"DyerBellsModel", "readPebble", "()Z"⟩, 54), (⟨"DyerBellsModel", "readEnd", "()Z"⟩, 54), (⟨"DyerBellsModel", "isSign", "(I)Z"⟩, 54), (⟨"DyerBellsModel", "isReach", "(I)Z"⟩, 54), (⟨"DyerBellsModel", "reaches", "()I"⟩, 54), (⟨"DyerBellsModel", "refuse", "()I"⟩, 54), (⟨"DyerBellsModel", "isGuild", "(I)Z"⟩, 54), (⟨"DyerBellsModel", "guilds", "()I"⟩, 54), (⟨"DyerBellsModel", "colours", "()I"⟩, 54), (⟨"DyerBellsModel", "isUser", "(I)Z"⟩, 54), (⟨"DyerBellsModel", "users", "()I"⟩, 54), (⟨"DyerBellsModel", "readBell", "()Z"⟩, 54)]
theorem lw_r4 : ∀ q ∈ lw_privs_4, lw_okq q := List.forall_mem_cons.mpr ⟨lw_p48, List.forall_mem_cons.mpr ⟨lw_p49, List.forall_mem_cons.mpr ⟨lw_p50, List.forall_mem_cons.mpr ⟨lw_p51, List.forall_mem_cons.mpr ⟨lw_p52, List.forall_mem_cons.mpr ⟨lw_p53, List.forall_mem_cons.mpr ⟨lw_p54, List.forall_mem_cons.mpr ⟨lw_p55, List.forall_mem_cons.mpr ⟨lw_p56, List.forall_mem_cons.mpr ⟨lw_p57, List.forall_mem_cons.mpr ⟨lw_p58, List.forall_mem_cons.mpr ⟨lw_p59, List.forall_mem_cons.mpr ⟨lw_p60, List.forall_mem_cons.mpr ⟨lw_p61, List.forall_mem_cons.mpr ⟨lw_p62, List.forall_mem_cons.mpr ⟨lw_p63, fun _ h => absurd h List.not_mem_nil⟩⟩⟩⟩⟩⟩⟩⟩⟩⟩⟩⟩⟩⟩⟩⟩
theorem lw_p64 : lw_okq (⟨"DyerBellsModel", "bells", "()I"⟩, 54) := ⟨⟨by decide +kernel, by decide +kernel⟩, List.mem_of_getElem? (i := 1166) (by decide +kernel), List.mem_of_getElem? (i := 1542) (by decide +kernel), List.mem_of_getElem? (i := 1543) (by decide +kernel)⟩
theorem lw_p65 : lw_okq (⟨"DyerBellsModel", "addBell", "(III)V"⟩, 54) := ⟨⟨by decide +kernel, by decide +kernel⟩, List.mem_of_getElem? (i := 1166) (by decide +kernel), List.mem_of_getElem? (i := 1546) (by decide +kernel), List.mem_of_getElem? (i := 1547) (by decide +kernel)⟩
theorem lw_p66 : lw_okq (⟨"DyerBellsModel", "isColour", "(I)Z"⟩, 54) := ⟨⟨by decide +kernel, by decide +kernel⟩, List.mem_of_getElem? (i := 1166) (by decide +kernel), List.mem_of_getElem? (i := 1565) (by decide +kernel), List.mem_of_getElem? (i := 1566) (by decide +kernel)⟩
theorem lw_p67 : lw_okq (⟨"DyerBellsModel", "week", "()V"⟩, 54) := ⟨⟨by decide +kernel, by decide +kernel⟩, List.mem_of_getElem? (i := 1166) (by decide +kernel), List.mem_of_getElem? (i := 1569) (by decide +kernel), List.mem_of_getElem? (i := 1570) (by decide +kernel)⟩
theorem lw_p68 : lw_okq (⟨"DyerBellsModel", "layWorks", "(I)V"⟩, 54) := ⟨⟨by decide +kernel, by decide +kernel⟩, List.mem_of_getElem? (i := 1166) (by decide +kernel), List.mem_of_getElem? (i := 1573) (by decide +kernel), List.mem_of_getElem? (i := 1574) (by decide +kernel)⟩
theorem lw_p69 : lw_okq (⟨"DyerBellsModel", "layFlows", "()V"⟩, 54) := ⟨⟨by decide +kernel, by decide +kernel⟩, List.mem_of_getElem? (i := 1166) (by decide +kernel), List.mem_of_getElem? (i := 1577) (by decide +kernel), List.mem_of_getElem? (i := 1578) (by decide +kernel)⟩
theorem lw_p70 : lw_okq (⟨"DyerBellsModel", "goWeek", "()V"⟩, 54) := ⟨⟨by decide +kernel, by decide +kernel⟩, List.mem_of_getElem? (i := 1166) (by decide +kernel), List.mem_of_getElem? (i := 1581) (by decide +kernel), List.mem_of_getElem? (i := 1582) (by decide +kernel)⟩
theorem lw_p71 : lw_okq (⟨"DyerBellsModel", "hour", "(III)V"⟩, 54) := ⟨⟨by decide +kernel, by decide +kernel⟩, List.mem_of_getElem? (i := 1166) (by decide +kernel), List.mem_of_getElem? (i := 1585) (by decide +kernel), List.mem_of_getElem? (i := 1586) (by decide +kernel)⟩
theorem lw_p72 : lw_okq (⟨"DyerBellsModel", "shadeAt", "(III)I"⟩, 54) := ⟨⟨by decide +kernel, by decide +kernel⟩, List.mem_of_getElem? (i := 1166) (by decide +kernel), List.mem_of_getElem? (i := 1590) (by decide +kernel), List.mem_of_getElem? (i := 1591) (by decide +kernel)⟩
theorem lw_p73 : lw_okq (⟨"DyerBellsModel", "isHarmed", "(II)Z"⟩, 54) := ⟨⟨by decide +kernel, by decide +kernel⟩, List.mem_of_getElem? (i := 1166) (by decide +kernel), List.mem_of_getElem? (i := 1611) (by decide +kernel), List.mem_of_getElem? (i := 1612) (by decide +kernel)⟩
theorem lw_p74 : lw_okq (⟨"DyerBellsModel", "harmNow", "()I"⟩, 54) := ⟨⟨by decide +kernel, by decide +kernel⟩, List.mem_of_getElem? (i := 1166) (by decide +kernel), List.mem_of_getElem? (i := 1619) (by decide +kernel), List.mem_of_getElem? (i := 1620) (by decide +kernel)⟩
theorem lw_p75 : lw_okq (⟨"DyerBellsModel", "harmAtHand", "()I"⟩, 54) := ⟨⟨by decide +kernel, by decide +kernel⟩, List.mem_of_getElem? (i := 1166) (by decide +kernel), List.mem_of_getElem? (i := 1623) (by decide +kernel), List.mem_of_getElem? (i := 1624) (by decide +kernel)⟩
theorem lw_p76 : lw_okq (⟨"DyerBellsModel", "tryDays", "(II)V"⟩, 54) := ⟨⟨by decide +kernel, by decide +kernel⟩, List.mem_of_getElem? (i := 1166) (by decide +kernel), List.mem_of_getElem? (i := 1643) (by decide +kernel), List.mem_of_getElem? (i := 1644) (by decide +kernel)⟩
theorem lw_p77 : lw_okq (⟨"DyerBellsModel", "exchangeOnce", "(I)I"⟩, 54) := ⟨⟨by decide +kernel, by decide +kernel⟩, List.mem_of_getElem? (i := 1166) (by decide +kernel), List.mem_of_getElem? (i := 1655) (by decide +kernel), List.mem_of_getElem? (i := 1656) (by decide +kernel)⟩
theorem lw_p78 : lw_okq (⟨"DyerBellsModel", "swap", "(II)V"⟩, 54) := ⟨⟨by decide +kernel, by decide +kernel⟩, List.mem_of_getElem? (i := 1166) (by decide +kernel), List.mem_of_getElem? (i := 1659) (by decide +kernel), List.mem_of_getElem? (i := 1660) (by decide +kernel)⟩
theorem lw_p79 : lw_okq (⟨"DyerBellsModel", "isSeen", "()Z"⟩, 54) := ⟨⟨by decide +kernel, by decide +kernel⟩, List.mem_of_getElem? (i := 1166) (by decide +kernel), List.mem_of_getElem? (i := 1679) (by decide +kernel), List.mem_of_getElem? (i := 1680) (by decide +kernel)⟩
def lw_privs_5 : List (MethodName × Nat) := [(⟨"DyerBellsModel", "bells", "()I"⟩, 54), (⟨"DyerBellsModel", "addBell", "(III)V"⟩, 54), (⟨"DyerBellsModel", "isColour", "(I)Z"⟩, 54), (⟨"DyerBellsModel", "week", "()V"⟩, 54), (⟨"DyerBellsModel", "layWorks", "(I)V"⟩, 54), (⟨"DyerBellsModel", "layFlows", "()V"⟩, 54), (⟨"DyerBellsModel", "goWeek", "()V"⟩, 54), (⟨"DyerBellsModel", "hour", "(III)V"⟩, 54), (⟨"DyerBellsModel", "shadeAt", "(III)I"⟩, 54), (⟨"DyerBellsModel", "isHarmed", "(II)Z"⟩, 54), (⟨"DyerBellsModel", "harmNow", "()I"⟩, 54), (⟨"DyerBellsModel", "harmAtHand", "()I"⟩, 54), (⟨"DyerBellsModel", "tryDays", "(II)V"⟩, 54), (⟨"DyerBellsModel", "exchangeOnce", "(I)I"⟩, 54), (⟨"DyerBellsModel", "swap", "(II)V"⟩, 54), (⟨"DyerBellsModel", "isSeen", "()Z"⟩, 54)]
theorem lw_r5 : ∀ q ∈ lw_privs_5, lw_okq q := List.forall_mem_cons.mpr ⟨lw_p64, List.forall_mem_cons.mpr ⟨lw_p65, List.forall_mem_cons.mpr ⟨lw_p66, List.forall_mem_cons.mpr ⟨lw_p67, List.forall_mem_cons.mpr ⟨lw_p68, List.forall_mem_cons.mpr ⟨lw_p69, List.forall_mem_cons.mpr ⟨lw_p70, List.forall_mem_cons.mpr ⟨lw_p71, List.forall_mem_cons.mpr ⟨lw_p72, List.forall_mem_cons.mpr ⟨lw_p73, List.forall_mem_cons.mpr ⟨lw_p74, List.forall_mem_cons.mpr ⟨lw_p75, List.forall_mem_cons.mpr ⟨lw_p76, List.forall_mem_cons.mpr ⟨lw_p77, List.forall_mem_cons.mpr ⟨lw_p78, List.forall_mem_cons.mpr ⟨lw_p79, fun _ h => absurd h List.not_mem_nil⟩⟩⟩⟩⟩⟩⟩⟩⟩⟩⟩⟩⟩⟩⟩⟩
theorem lw_p80 : lw_okq (⟨"DyerBellsModel", "draw", "(I)I"⟩, 54) := ⟨⟨by decide +kernel, by decide +kernel⟩, List.mem_of_getElem? (i := 1166) (by decide +kernel), List.mem_of_getElem? (i := 1695) (by decide +kernel), List.mem_of_getElem? (i := 1696) (by decide +kernel)⟩
theorem lw_p81 : lw_okq (⟨"DyerBellsModel", "readOr", "()Z"⟩, 54) := ⟨⟨by decide +kernel, by decide +kernel⟩, List.mem_of_getElem? (i := 1166) (by decide +kernel), List.mem_of_getElem? (i := 1704) (by decide +kernel), List.mem_of_getElem? (i := 1705) (by decide +kernel)⟩
theorem lw_p82 : lw_okq (⟨"DyerBellsModel", "readAnd", "()Z"⟩, 54) := ⟨⟨by decide +kernel, by decide +kernel⟩, List.mem_of_getElem? (i := 1166) (by decide +kernel), List.mem_of_getElem? (i := 1708) (by decide +kernel), List.mem_of_getElem? (i := 1709) (by decide +kernel)⟩
theorem lw_p83 : lw_okq (⟨"DyerBellsModel", "readOne", "()Z"⟩, 54) := ⟨⟨by decide +kernel, by decide +kernel⟩, List.mem_of_getElem? (i := 1166) (by decide +kernel), List.mem_of_getElem? (i := 1712) (by decide +kernel), List.mem_of_getElem? (i := 1713) (by decide +kernel)⟩
theorem lw_p84 : lw_okq (⟨"DyerBellsModel", "readBracket", "()Z"⟩, 54) := ⟨⟨by decide +kernel, by decide +kernel⟩, List.mem_of_getElem? (i := 1166) (by decide +kernel), List.mem_of_getElem? (i := 1716) (by decide +kernel), List.mem_of_getElem? (i := 1717) (by decide +kernel)⟩
theorem lw_p85 : lw_okq (⟨"DyerBellsModel", "readNot", "()Z"⟩, 54) := ⟨⟨by decide +kernel, by decide +kernel⟩, List.mem_of_getElem? (i := 1166) (by decide +kernel), List.mem_of_getElem? (i := 1720) (by decide +kernel), List.mem_of_getElem? (i := 1721) (by decide +kernel)⟩
theorem lw_p86 : lw_okq (⟨"DyerBellsModel", "lays", "(IIII)I"⟩, 54) := ⟨⟨by decide +kernel, by decide +kernel⟩, List.mem_of_getElem? (i := 1166) (by decide +kernel), List.mem_of_getElem? (i := 1724) (by decide +kernel), List.mem_of_getElem? (i := 1725) (by decide +kernel)⟩
theorem lw_p87 : lw_okq (⟨"DyerBellsModel", "readOf", "(I)Z"⟩, 54) := ⟨⟨by decide +kernel, by decide +kernel⟩, List.mem_of_getElem? (i := 1166) (by decide +kernel), List.mem_of_getElem? (i := 1728) (by decide +kernel), List.mem_of_getElem? (i := 1729) (by decide +kernel)⟩
theorem lw_p88 : lw_okq (⟨"DyerBellsModel", "readNamed", "(II)Z"⟩, 54) := ⟨⟨by decide +kernel, by decide +kernel⟩, List.mem_of_getElem? (i := 1166) (by decide +kernel), List.mem_of_getElem? (i := 1732) (by decide +kernel), List.mem_of_getElem? (i := 1733) (by decide +kernel)⟩
theorem lw_p89 : lw_okq (⟨"DyerBellsModel", "readCompare", "(I)Z"⟩, 54) := ⟨⟨by decide +kernel, by decide +kernel⟩, List.mem_of_getElem? (i := 1166) (by decide +kernel), List.mem_of_getElem? (i := 1736) (by decide +kernel), List.mem_of_getElem? (i := 1737) (by decide +kernel)⟩
theorem lw_p90 : lw_okq (⟨"DyerBellsModel", "isSo", "(II)Z"⟩, 54) := ⟨⟨by decide +kernel, by decide +kernel⟩, List.mem_of_getElem? (i := 1166) (by decide +kernel), List.mem_of_getElem? (i := 1744) (by decide +kernel), List.mem_of_getElem? (i := 1745) (by decide +kernel)⟩
theorem lw_p91 : lw_okq (⟨"DyerBellsModel", "valueOf", "(III)I"⟩, 54) := ⟨⟨by decide +kernel, by decide +kernel⟩, List.mem_of_getElem? (i := 1166) (by decide +kernel), List.mem_of_getElem? (i := 1748) (by decide +kernel), List.mem_of_getElem? (i := 1749) (by decide +kernel)⟩
def lw_privs_6 : List (MethodName × Nat) := [(⟨"DyerBellsModel", "draw", "(I)I"⟩, 54), (⟨"DyerBellsModel", "readOr", "()Z"⟩, 54), (⟨"DyerBellsModel", "readAnd", "()Z"⟩, 54), (⟨"DyerBellsModel", "readOne", "()Z"⟩, 54), (⟨"DyerBellsModel", "readBracket", "()Z"⟩, 54), (⟨"DyerBellsModel", "readNot", "()Z"⟩, 54), (⟨"DyerBellsModel", "lays", "(IIII)I"⟩, 54), (⟨"DyerBellsModel", "readOf", "(I)Z"⟩, 54), (⟨"DyerBellsModel", "readNamed", "(II)Z"⟩, 54), (⟨"DyerBellsModel", "readCompare", "(I)Z"⟩, 54), (⟨"DyerBellsModel", "isSo", "(II)Z"⟩, 54), (⟨"DyerBellsModel", "valueOf", "(III)I"⟩, 54)]
theorem lw_r6 : ∀ q ∈ lw_privs_6, lw_okq q := List.forall_mem_cons.mpr ⟨lw_p80, List.forall_mem_cons.mpr ⟨lw_p81, List.forall_mem_cons.mpr ⟨lw_p82, List.forall_mem_cons.mpr ⟨lw_p83, List.forall_mem_cons.mpr ⟨lw_p84, List.forall_mem_cons.mpr ⟨lw_p85, List.forall_mem_cons.mpr ⟨lw_p86, List.forall_mem_cons.mpr ⟨lw_p87, List.forall_mem_cons.mpr ⟨lw_p88, List.forall_mem_cons.mpr ⟨lw_p89, List.forall_mem_cons.mpr ⟨lw_p90, List.forall_mem_cons.mpr ⟨lw_p91, fun _ h => absurd h List.not_mem_nil⟩⟩⟩⟩⟩⟩⟩⟩⟩⟩⟩⟩
def lw_privs : List (MethodName × Nat) := lw_privs_1 ++ (lw_privs_2 ++ (lw_privs_3 ++ (lw_privs_4 ++ (lw_privs_5 ++ (lw_privs_6)))))
def lw_tbl : List Cond := k2_sels lw_privs ++ tables_1
theorem lw_privs_ok : ∀ q ∈ lw_privs, lw_okq q := by
  show ∀ q ∈ lw_privs_1 ++ (lw_privs_2 ++ (lw_privs_3 ++ (lw_privs_4 ++ (lw_privs_5 ++ (lw_privs_6))))), lw_okq q
  exact List.forall_mem_append.mpr ⟨lw_r1, List.forall_mem_append.mpr ⟨lw_r2, List.forall_mem_append.mpr ⟨lw_r3, List.forall_mem_append.mpr ⟨lw_r4, List.forall_mem_append.mpr ⟨lw_r5, lw_r6⟩⟩⟩⟩⟩
-- ===== end of PART A; then your names; then what follows =====
end
section
def RX0 : String := "DyerBells$Names"
def TX0 : u_T := fun k => match k with
  | 0 => ("DyerBells$Names", "names", "I", false)
  | 1 => ("DyerBells$Names", "word", "[J", true)
  | 2 => ("DyerBells$Names", "sort", "[I", true)
  | _ => ("DyerBells$Names", "number", "[I", true)
def tyX0 : Nat → FieldType := fun k => match k with
  | 0 => .int
  | 1 => .array .long
  | 2 => .array .int
  | _ => .array .int
theorem nmX0 : ∀ a, a < 4 → ∀ b, b < 4 → a ≠ b → (TX0 a).2.1 ≠ (TX0 b).2.1 := by decide +kernel
theorem tyX0_ok : ∀ k, k < 4 → parseFieldDescriptor (TX0 k).2.2.1 = some (tyX0 k) := by decide +kernel
abbrev cX0_init : ByteArray := prog_2_method_1_code
def yX0_init : MethodName := ⟨RX0, "<init>", "()V"⟩
abbrev cX0_copyFrom : ByteArray := prog_2_method_2_code
def yX0_copyFrom : MethodName := ⟨RX0, "copyFrom", "(LDyerBells$Names;)V"⟩
abbrev cX0_takeNew : ByteArray := prog_2_method_3_code
def yX0_takeNew : MethodName := ⟨RX0, "takeNew", "(LDyerBells$Tape;II)V"⟩
abbrev cX0_takeTold : ByteArray := prog_2_method_4_code
def yX0_takeTold : MethodName := ⟨RX0, "takeTold", "(LDyerBells$Tape;I)I"⟩
abbrev cX0_find : ByteArray := prog_2_method_5_code
def yX0_find : MethodName := ⟨RX0, "find", "(J)I"⟩
def RX1 : String := "DyerBells$Order"
def TX1 : u_T := fun k => match k with
  | 0 => ("DyerBells$Order", "bells", "I", false)
  | 1 => ("DyerBells$Order", "hour", "[I", true)
  | 2 => ("DyerBells$Order", "guild", "[I", true)
  | _ => ("DyerBells$Order", "hours", "[I", true)
def tyX1 : Nat → FieldType := fun k => match k with
  | 0 => .int
  | 1 => .array .int
  | 2 => .array .int
  | _ => .array .int
theorem nmX1 : ∀ a, a < 4 → ∀ b, b < 4 → a ≠ b → (TX1 a).2.1 ≠ (TX1 b).2.1 := by decide +kernel
theorem tyX1_ok : ∀ k, k < 4 → parseFieldDescriptor (TX1 k).2.2.1 = some (tyX1 k) := by decide +kernel
abbrev cX1_init : ByteArray := prog_3_method_1_code
def yX1_init : MethodName := ⟨RX1, "<init>", "()V"⟩
abbrev cX1_forget : ByteArray := prog_3_method_2_code
def yX1_forget : MethodName := ⟨RX1, "forget", "()V"⟩
abbrev cX1_copyFrom : ByteArray := prog_3_method_3_code
def yX1_copyFrom : MethodName := ⟨RX1, "copyFrom", "(LDyerBells$Order;)V"⟩
abbrev cX1_add : ByteArray := prog_3_method_4_code
def yX1_add : MethodName := ⟨RX1, "add", "(III)V"⟩
abbrev cX1_swapGuilds : ByteArray := prog_3_method_5_code
def yX1_swapGuilds : MethodName := ⟨RX1, "swapGuilds", "(II)V"⟩
abbrev cX1_readBells : ByteArray := prog_3_method_6_code
def yX1_readBells : MethodName := ⟨RX1, "readBells", "(LDyerBells$Tape;LDyerBells$Names;)V"⟩
abbrev cX1_readBell : ByteArray := prog_3_method_7_code
def yX1_readBell : MethodName := ⟨RX1, "readBell", "(LDyerBells$Tape;LDyerBells$Names;)V"⟩
def RX2 : String := "DyerBells$Past"
def TX2 : u_T := fun k => match k with
  | 0 => ("DyerBells$Past", "water", "[I", true)
  | 1 => ("DyerBells$Past", "bed", "[I", true)
  | 2 => ("DyerBells$Past", "passed", "[I", true)
  | 3 => ("DyerBells$Past", "works", "[I", true)
  | 4 => ("DyerBells$Past", "harmed", "[I", true)
  | _ => ("DyerBells$Past", "harmBefore", "[I", true)
def tyX2 : Nat → FieldType := fun k => match k with
  | 0 => .array .int
  | 1 => .array .int
  | 2 => .array .int
  | 3 => .array .int
  | 4 => .array .int
  | _ => .array .int
theorem nmX2 : ∀ a, a < 6 → ∀ b, b < 6 → a ≠ b → (TX2 a).2.1 ≠ (TX2 b).2.1 := by decide +kernel
theorem tyX2_ok : ∀ k, k < 6 → parseFieldDescriptor (TX2 k).2.2.1 = some (tyX2 k) := by decide +kernel
abbrev cX2_init : ByteArray := prog_4_method_1_code
def yX2_init : MethodName := ⟨RX2, "<init>", "()V"⟩
abbrev cX2_keep : ByteArray := prog_4_method_2_code
def yX2_keep : MethodName := ⟨RX2, "keep", "(LDyerBells$River;LDyerBells$Week;I)V"⟩
abbrev cX2_isHarmed : ByteArray := prog_4_method_3_code
def yX2_isHarmed : MethodName := ⟨RX2, "isHarmed", "(II)Z"⟩
abbrev cX2_shadeAt : ByteArray := prog_4_method_4_code
def yX2_shadeAt : MethodName := ⟨RX2, "shadeAt", "(LDyerBells$River;III)I"⟩
abbrev cX2_passedOfAll : ByteArray := prog_4_method_5_code
def yX2_passedOfAll : MethodName := ⟨RX2, "passedOfAll", "(LDyerBells$River;I)I"⟩
abbrev cX2_sumPut : ByteArray := prog_4_method_6_code
def yX2_sumPut : MethodName := ⟨RX2, "sumPut", "(LDyerBells$River;I)I"⟩
abbrev cX2_sumPassed : ByteArray := prog_4_method_7_code
def yX2_sumPassed : MethodName := ⟨RX2, "sumPassed", "(I)I"⟩
abbrev cX2_sumLast : ByteArray := prog_4_method_8_code
def yX2_sumLast : MethodName := ⟨RX2, "sumLast", "([II)I"⟩
def RX3 : String := "DyerBells$River"
def TX3 : u_T := fun k => match k with
  | 0 => ("DyerBells$River", "names", "LDyerBells$Names;", true)
  | 1 => ("DyerBells$River", "reaches", "I", false)
  | 2 => ("DyerBells$River", "vol", "[I", true)
  | 3 => ("DyerBells$River", "settle", "[I", true)
  | 4 => ("DyerBells$River", "colours", "I", false)
  | 5 => ("DyerBells$River", "guilds", "I", false)
  | 6 => ("DyerBells$River", "guildReach", "[I", true)
  | 7 => ("DyerBells$River", "guildHours", "[I", true)
  | 8 => ("DyerBells$River", "guildPuts", "[I", true)
  | 9 => ("DyerBells$River", "users", "I", false)
  | 10 => ("DyerBells$River", "userReach", "[I", true)
  | 11 => ("DyerBells$River", "userFrom", "[I", true)
  | 12 => ("DyerBells$River", "userTill", "[I", true)
  | 13 => ("DyerBells$River", "userBears", "[I", true)
  | 14 => ("DyerBells$River", "flow", "[I", true)
  | 15 => ("DyerBells$River", "flood", "I", false)
  | 16 => ("DyerBells$River", "pebbles", "I", false)
  | 17 => ("DyerBells$River", "pebbleColour", "[I", true)
  | 18 => ("DyerBells$River", "pebbleShade", "[I", true)
  | _ => ("DyerBells$River", "pebbleFine", "[I", true)
def tyX3 : Nat → FieldType := fun k => match k with
  | 0 => .object "DyerBells$Names"
  | 1 => .int
  | 2 => .array .int
  | 3 => .array .int
  | 4 => .int
  | 5 => .int
  | 6 => .array .int
  | 7 => .array .int
  | 8 => .array .int
  | 9 => .int
  | 10 => .array .int
  | 11 => .array .int
  | 12 => .array .int
  | 13 => .array .int
  | 14 => .array .int
  | 15 => .int
  | 16 => .int
  | 17 => .array .int
  | 18 => .array .int
  | _ => .array .int
theorem nmX3 : ∀ a, a < 20 → ∀ b, b < 20 → a ≠ b → (TX3 a).2.1 ≠ (TX3 b).2.1 := by decide +kernel
theorem tyX3_ok : ∀ k, k < 20 → parseFieldDescriptor (TX3 k).2.2.1 = some (tyX3 k) := by decide +kernel
abbrev cX3_init : ByteArray := prog_5_method_1_code
def yX3_init : MethodName := ⟨RX3, "<init>", "()V"⟩
abbrev cX3_forget : ByteArray := prog_5_method_2_code
def yX3_forget : MethodName := ⟨RX3, "forget", "()V"⟩
abbrev cX3_copyFrom : ByteArray := prog_5_method_3_code
def yX3_copyFrom : MethodName := ⟨RX3, "copyFrom", "(LDyerBells$River;)V"⟩
abbrev cX3_flowOn : ByteArray := prog_5_method_4_code
def yX3_flowOn : MethodName := ⟨RX3, "flowOn", "(I)I"⟩
abbrev cX3_floodFrom : ByteArray := prog_5_method_5_code
def yX3_floodFrom : MethodName := ⟨RX3, "floodFrom", "()I"⟩
abbrev cX3_hasPebble : ByteArray := prog_5_method_6_code
def yX3_hasPebble : MethodName := ⟨RX3, "hasPebble", "(II)Z"⟩
abbrev cX3_fineOf : ByteArray := prog_5_method_7_code
def yX3_fineOf : MethodName := ⟨RX3, "fineOf", "(II)I"⟩
def RX4 : String := "DyerBells$RiverText"
def TX4 : u_T := fun k => match k with
  | _ => ("", "", "", false)
def tyX4 : Nat → FieldType := fun k => match k with
  | _ => .int
theorem nmX4 : ∀ a, a < 0 → ∀ b, b < 0 → a ≠ b → (TX4 a).2.1 ≠ (TX4 b).2.1 := by decide +kernel
theorem tyX4_ok : ∀ k, k < 0 → parseFieldDescriptor (TX4 k).2.2.1 = some (tyX4 k) := by decide +kernel
abbrev cX4_readLines : ByteArray := prog_6_method_2_code
def yX4_readLines : MethodName := ⟨RX4, "readLines", "(LDyerBells$Tape;LDyerBells$River;)I"⟩
abbrev cX4_readReach : ByteArray := prog_6_method_3_code
def yX4_readReach : MethodName := ⟨RX4, "readReach", "(LDyerBells$Tape;LDyerBells$River;)V"⟩
abbrev cX4_readColour : ByteArray := prog_6_method_4_code
def yX4_readColour : MethodName := ⟨RX4, "readColour", "(LDyerBells$Tape;LDyerBells$River;)V"⟩
abbrev cX4_readGuild : ByteArray := prog_6_method_5_code
def yX4_readGuild : MethodName := ⟨RX4, "readGuild", "(LDyerBells$Tape;LDyerBells$River;)V"⟩
abbrev cX4_readUser : ByteArray := prog_6_method_6_code
def yX4_readUser : MethodName := ⟨RX4, "readUser", "(LDyerBells$Tape;LDyerBells$River;)V"⟩
abbrev cX4_readShares : ByteArray := prog_6_method_7_code
def yX4_readShares : MethodName := ⟨RX4, "readShares", "(LDyerBells$Tape;LDyerBells$Names;[III)V"⟩
abbrev cX4_readFlow : ByteArray := prog_6_method_8_code
def yX4_readFlow : MethodName := ⟨RX4, "readFlow", "(LDyerBells$Tape;LDyerBells$River;)V"⟩
abbrev cX4_readFlood : ByteArray := prog_6_method_9_code
def yX4_readFlood : MethodName := ⟨RX4, "readFlood", "(LDyerBells$Tape;LDyerBells$River;)V"⟩
abbrev cX4_readPebble : ByteArray := prog_6_method_10_code
def yX4_readPebble : MethodName := ⟨RX4, "readPebble", "(LDyerBells$Tape;LDyerBells$River;)V"⟩
def RX5 : String := "DyerBells$Scene"
def TX5 : u_T := fun k => match k with
  | 0 => ("DyerBells$Scene", "river", "LDyerBells$River;", true)
  | 1 => ("DyerBells$Scene", "order", "LDyerBells$Order;", true)
  | 2 => ("DyerBells$Scene", "sights", "LDyerBells$Sights;", true)
  | _ => ("DyerBells$Scene", "sentence", "LDyerBells$Sentence;", true)
def tyX5 : Nat → FieldType := fun k => match k with
  | 0 => .object "DyerBells$River"
  | 1 => .object "DyerBells$Order"
  | 2 => .object "DyerBells$Sights"
  | _ => .object "DyerBells$Sentence"
theorem nmX5 : ∀ a, a < 4 → ∀ b, b < 4 → a ≠ b → (TX5 a).2.1 ≠ (TX5 b).2.1 := by decide +kernel
theorem tyX5_ok : ∀ k, k < 4 → parseFieldDescriptor (TX5 k).2.2.1 = some (tyX5 k) := by decide +kernel
abbrev cX5_init : ByteArray := prog_7_method_1_code
def yX5_init : MethodName := ⟨RX5, "<init>", "()V"⟩
abbrev cX5_forget : ByteArray := prog_7_method_2_code
def yX5_forget : MethodName := ⟨RX5, "forget", "()V"⟩
abbrev cX5_copyFrom : ByteArray := prog_7_method_3_code
def yX5_copyFrom : MethodName := ⟨RX5, "copyFrom", "(LDyerBells$Scene;)V"⟩
def RX6 : String := "DyerBells$Sentence"
def TX6 : u_T := fun k => match k with
  | 0 => ("DyerBells$Sentence", "ones", "I", false)
  | 1 => ("DyerBells$Sentence", "steps", "I", false)
  | 2 => ("DyerBells$Sentence", "kind", "[I", true)
  | 3 => ("DyerBells$Sentence", "first", "[I", true)
  | 4 => ("DyerBells$Sentence", "second", "[I", true)
  | 5 => ("DyerBells$Sentence", "sign", "[I", true)
  | _ => ("DyerBells$Sentence", "number", "[I", true)
def tyX6 : Nat → FieldType := fun k => match k with
  | 0 => .int
  | 1 => .int
  | 2 => .array .int
  | 3 => .array .int
  | 4 => .array .int
  | 5 => .array .int
  | _ => .array .int
theorem nmX6 : ∀ a, a < 7 → ∀ b, b < 7 → a ≠ b → (TX6 a).2.1 ≠ (TX6 b).2.1 := by decide +kernel
theorem tyX6_ok : ∀ k, k < 7 → parseFieldDescriptor (TX6 k).2.2.1 = some (tyX6 k) := by decide +kernel
abbrev cX6_init : ByteArray := prog_8_method_1_code
def yX6_init : MethodName := ⟨RX6, "<init>", "()V"⟩
abbrev cX6_forget : ByteArray := prog_8_method_2_code
def yX6_forget : MethodName := ⟨RX6, "forget", "()V"⟩
abbrev cX6_copyFrom : ByteArray := prog_8_method_3_code
def yX6_copyFrom : MethodName := ⟨RX6, "copyFrom", "(LDyerBells$Sentence;)V"⟩
abbrev cX6_addStep : ByteArray := prog_8_method_4_code
def yX6_addStep : MethodName := ⟨RX6, "addStep", "(IIIII)V"⟩
abbrev cX6_holds : ByteArray := prog_8_method_5_code
def yX6_holds : MethodName := ⟨RX6, "holds", "(LDyerBells$River;LDyerBells$Past;I)Z"⟩
abbrev cX6_isSo : ByteArray := prog_8_method_6_code
def yX6_isSo : MethodName := ⟨RX6, "isSo", "(ILDyerBells$River;LDyerBells$Past;I)Z"⟩
abbrev cX6_compares : ByteArray := prog_8_method_7_code
def yX6_compares : MethodName := ⟨RX6, "compares", "(II)Z"⟩
def RX7 : String := "DyerBells$SentenceText"
def TX7 : u_T := fun k => match k with
  | _ => ("", "", "", false)
def tyX7 : Nat → FieldType := fun k => match k with
  | _ => .int
theorem nmX7 : ∀ a, a < 0 → ∀ b, b < 0 → a ≠ b → (TX7 a).2.1 ≠ (TX7 b).2.1 := by decide +kernel
theorem tyX7_ok : ∀ k, k < 0 → parseFieldDescriptor (TX7 k).2.2.1 = some (tyX7 k) := by decide +kernel
abbrev cX7_readCond : ByteArray := prog_9_method_2_code
def yX7_readCond : MethodName := ⟨RX7, "readCond", "(LDyerBells$Tape;LDyerBells$Names;LDyerBells$Sentence;I)V"⟩
abbrev cX7_readAll : ByteArray := prog_9_method_3_code
def yX7_readAll : MethodName := ⟨RX7, "readAll", "(LDyerBells$Tape;LDyerBells$Names;LDyerBells$Sentence;I)V"⟩
abbrev cX7_readOne : ByteArray := prog_9_method_4_code
def yX7_readOne : MethodName := ⟨RX7, "readOne", "(LDyerBells$Tape;LDyerBells$Names;LDyerBells$Sentence;I)V"⟩
abbrev cX7_beginsPlain : ByteArray := prog_9_method_5_code
def yX7_beginsPlain : MethodName := ⟨RX7, "beginsPlain", "(LDyerBells$Tape;)Z"⟩
abbrev cX7_readPlain : ByteArray := prog_9_method_6_code
def yX7_readPlain : MethodName := ⟨RX7, "readPlain", "(LDyerBells$Tape;LDyerBells$Names;LDyerBells$Sentence;)V"⟩
abbrev cX7_readComparison : ByteArray := prog_9_method_7_code
def yX7_readComparison : MethodName := ⟨RX7, "readComparison", "(LDyerBells$Tape;LDyerBells$Sentence;III)V"⟩
def RX8 : String := "DyerBells$Sights"
def TX8 : u_T := fun k => match k with
  | 0 => ("DyerBells$Sights", "sights", "I", false)
  | 1 => ("DyerBells$Sights", "hour", "[I", true)
  | 2 => ("DyerBells$Sights", "colour", "[I", true)
  | _ => ("DyerBells$Sights", "much", "[I", true)
def tyX8 : Nat → FieldType := fun k => match k with
  | 0 => .int
  | 1 => .array .int
  | 2 => .array .int
  | _ => .array .int
theorem nmX8 : ∀ a, a < 4 → ∀ b, b < 4 → a ≠ b → (TX8 a).2.1 ≠ (TX8 b).2.1 := by decide +kernel
theorem tyX8_ok : ∀ k, k < 4 → parseFieldDescriptor (TX8 k).2.2.1 = some (tyX8 k) := by decide +kernel
abbrev cX8_init : ByteArray := prog_10_method_1_code
def yX8_init : MethodName := ⟨RX8, "<init>", "()V"⟩
abbrev cX8_copyFrom : ByteArray := prog_10_method_2_code
def yX8_copyFrom : MethodName := ⟨RX8, "copyFrom", "(LDyerBells$Sights;)V"⟩
abbrev cX8_add : ByteArray := prog_10_method_3_code
def yX8_add : MethodName := ⟨RX8, "add", "(III)V"⟩
abbrev cX8_lastHour : ByteArray := prog_10_method_4_code
def yX8_lastHour : MethodName := ⟨RX8, "lastHour", "()I"⟩
abbrev cX8_firstUnlike : ByteArray := prog_10_method_5_code
def yX8_firstUnlike : MethodName := ⟨RX8, "firstUnlike", "(LDyerBells$Past;)I"⟩
abbrev cX8_agree : ByteArray := prog_10_method_6_code
def yX8_agree : MethodName := ⟨RX8, "agree", "(I[I)Z"⟩
def RX9 : String := "DyerBells$Tape"
def TX9 : u_T := fun k => match k with
  | 0 => ("DyerBells$Tape", "text", "[B", true)
  | 1 => ("DyerBells$Tape", "length", "I", false)
  | 2 => ("DyerBells$Tape", "textLength", "I", false)
  | 3 => ("DyerBells$Tape", "stop", "I", false)
  | 4 => ("DyerBells$Tape", "next", "I", false)
  | 5 => ("DyerBells$Tape", "kind", "I", false)
  | 6 => ("DyerBells$Tape", "place", "I", false)
  | 7 => ("DyerBells$Tape", "takenPlace", "I", false)
  | 8 => ("DyerBells$Tape", "value", "I", false)
  | 9 => ("DyerBells$Tape", "word", "J", false)
  | 10 => ("DyerBells$Tape", "fault", "I", false)
  | _ => ("DyerBells$Tape", "faultPlace", "I", false)
def tyX9 : Nat → FieldType := fun k => match k with
  | 0 => .array .byte
  | 1 => .int
  | 2 => .int
  | 3 => .int
  | 4 => .int
  | 5 => .int
  | 6 => .int
  | 7 => .int
  | 8 => .int
  | 9 => .long
  | 10 => .int
  | _ => .int
theorem nmX9 : ∀ a, a < 12 → ∀ b, b < 12 → a ≠ b → (TX9 a).2.1 ≠ (TX9 b).2.1 := by decide +kernel
theorem tyX9_ok : ∀ k, k < 12 → parseFieldDescriptor (TX9 k).2.2.1 = some (tyX9 k) := by decide +kernel
abbrev cX9_init : ByteArray := prog_11_method_1_code
def yX9_init : MethodName := ⟨RX9, "<init>", "()V"⟩
abbrev cX9_put : ByteArray := prog_11_method_2_code
def yX9_put : MethodName := ⟨RX9, "put", "(I)V"⟩
abbrev cX9_byteAt : ByteArray := prog_11_method_3_code
def yX9_byteAt : MethodName := ⟨RX9, "byteAt", "(I)I"⟩
abbrev cX9_open : ByteArray := prog_11_method_4_code
def yX9_open : MethodName := ⟨RX9, "open", "(I)V"⟩
abbrev cX9_advance : ByteArray := prog_11_method_5_code
def yX9_advance : MethodName := ⟨RX9, "advance", "()V"⟩
abbrev cX9_readRun : ByteArray := prog_11_method_6_code
def yX9_readRun : MethodName := ⟨RX9, "readRun", "(I)Z"⟩
abbrev cX9_readSign : ByteArray := prog_11_method_7_code
def yX9_readSign : MethodName := ⟨RX9, "readSign", "(I)V"⟩
abbrev cX9_goesOn : ByteArray := prog_11_method_8_code
def yX9_goesOn : MethodName := ⟨RX9, "goesOn", "()Z"⟩
abbrev cX9_isAtSign : ByteArray := prog_11_method_9_code
def yX9_isAtSign : MethodName := ⟨RX9, "isAtSign", "(I)Z"⟩
abbrev cX9_isWord : ByteArray := prog_11_method_10_code
def yX9_isWord : MethodName := ⟨RX9, "isWord", "(J)Z"⟩
abbrev cX9_isName : ByteArray := prog_11_method_11_code
def yX9_isName : MethodName := ⟨RX9, "isName", "()Z"⟩
abbrev cX9_isRiverWord : ByteArray := prog_11_method_12_code
def yX9_isRiverWord : MethodName := ⟨RX9, "isRiverWord", "()Z"⟩
abbrev cX9_isSentenceWord : ByteArray := prog_11_method_13_code
def yX9_isSentenceWord : MethodName := ⟨RX9, "isSentenceWord", "()Z"⟩
abbrev cX9_takeNumber : ByteArray := prog_11_method_14_code
def yX9_takeNumber : MethodName := ⟨RX9, "takeNumber", "(II)I"⟩
abbrev cX9_takeSign : ByteArray := prog_11_method_15_code
def yX9_takeSign : MethodName := ⟨RX9, "takeSign", "(I)V"⟩
abbrev cX9_takeComparison : ByteArray := prog_11_method_16_code
def yX9_takeComparison : MethodName := ⟨RX9, "takeComparison", "()I"⟩
abbrev cX9_refuse : ByteArray := prog_11_method_17_code
def yX9_refuse : MethodName := ⟨RX9, "refuse", "(I)V"⟩
abbrev cX9_refuseTaken : ByteArray := prog_11_method_18_code
def yX9_refuseTaken : MethodName := ⟨RX9, "refuseTaken", "(I)V"⟩
abbrev cX9_refuseAt : ByteArray := prog_11_method_19_code
def yX9_refuseAt : MethodName := ⟨RX9, "refuseAt", "(II)V"⟩
abbrev cX9_close : ByteArray := prog_11_method_20_code
def yX9_close : MethodName := ⟨RX9, "close", "()V"⟩
def RX10 : String := "DyerBells$Week"
def TX10 : u_T := fun k => match k with
  | 0 => ("DyerBells$Week", "vol", "[I", true)
  | 1 => ("DyerBells$Week", "flow", "[I", true)
  | 2 => ("DyerBells$Week", "works", "[I", true)
  | 3 => ("DyerBells$Week", "water", "[I", true)
  | 4 => ("DyerBells$Week", "bed", "[I", true)
  | _ => ("DyerBells$Week", "passed", "[I", true)
def tyX10 : Nat → FieldType := fun k => match k with
  | 0 => .array .int
  | 1 => .array .int
  | 2 => .array .int
  | 3 => .array .int
  | 4 => .array .int
  | _ => .array .int
theorem nmX10 : ∀ a, a < 6 → ∀ b, b < 6 → a ≠ b → (TX10 a).2.1 ≠ (TX10 b).2.1 := by decide +kernel
theorem tyX10_ok : ∀ k, k < 6 → parseFieldDescriptor (TX10 k).2.2.1 = some (tyX10 k) := by decide +kernel
abbrev cX10_init : ByteArray := prog_12_method_1_code
def yX10_init : MethodName := ⟨RX10, "<init>", "()V"⟩
abbrev cX10_prepare : ByteArray := prog_12_method_2_code
def yX10_prepare : MethodName := ⟨RX10, "prepare", "(LDyerBells$River;LDyerBells$Order;)V"⟩
abbrev cX10_takeFrom : ByteArray := prog_12_method_3_code
def yX10_takeFrom : MethodName := ⟨RX10, "takeFrom", "(LDyerBells$River;)V"⟩
abbrev cX10_rest : ByteArray := prog_12_method_4_code
def yX10_rest : MethodName := ⟨RX10, "rest", "()V"⟩
abbrev cX10_setWork : ByteArray := prog_12_method_5_code
def yX10_setWork : MethodName := ⟨RX10, "setWork", "(III)V"⟩
abbrev cX10_resetWork : ByteArray := prog_12_method_6_code
def yX10_resetWork : MethodName := ⟨RX10, "resetWork", "(LDyerBells$Past;III)V"⟩
abbrev cX10_empty : ByteArray := prog_12_method_7_code
def yX10_empty : MethodName := ⟨RX10, "empty", "()V"⟩
abbrev cX10_pass : ByteArray := prog_12_method_8_code
def yX10_pass : MethodName := ⟨RX10, "pass", "(LDyerBells$River;I)V"⟩
abbrev cX10_pour : ByteArray := prog_12_method_9_code
def yX10_pour : MethodName := ⟨RX10, "pour", "(LDyerBells$River;I)V"⟩
abbrev cX10_washUp : ByteArray := prog_12_method_10_code
def yX10_washUp : MethodName := ⟨RX10, "washUp", "(LDyerBells$River;)V"⟩
abbrev cX10_carry : ByteArray := prog_12_method_11_code
def yX10_carry : MethodName := ⟨RX10, "carry", "(LDyerBells$River;I)V"⟩
abbrev cX10_sink : ByteArray := prog_12_method_12_code
def yX10_sink : MethodName := ⟨RX10, "sink", "(LDyerBells$River;)V"⟩
abbrev cX10_partOf : ByteArray := prog_12_method_13_code
def yX10_partOf : MethodName := ⟨RX10, "partOf", "(III)I"⟩
abbrev cX10_harmedBehind : ByteArray := prog_12_method_14_code
def yX10_harmedBehind : MethodName := ⟨RX10, "harmedBehind", "(LDyerBells$River;I)I"⟩
abbrev cX10_suffers : ByteArray := prog_12_method_15_code
def yX10_suffers : MethodName := ⟨RX10, "suffers", "(LDyerBells$River;I)Z"⟩
abbrev cX10_harmOfAll : ByteArray := prog_12_method_16_code
def yX10_harmOfAll : MethodName := ⟨RX10, "harmOfAll", "(LDyerBells$River;I)I"⟩
abbrev cX10_harmFrom : ByteArray := prog_12_method_17_code
def yX10_harmFrom : MethodName := ⟨RX10, "harmFrom", "(LDyerBells$River;LDyerBells$Past;II)I"⟩
abbrev cX10_addHarm : ByteArray := prog_12_method_18_code
def yX10_addHarm : MethodName := ⟨RX10, "addHarm", "(LDyerBells$River;III)I"⟩
abbrev cX10_agreesFrom : ByteArray := prog_12_method_19_code
def yX10_agreesFrom : MethodName := ⟨RX10, "agreesFrom", "(LDyerBells$River;LDyerBells$Past;ILDyerBells$Sights;)Z"⟩
abbrev cX10_beginBehind : ByteArray := prog_12_method_20_code
def yX10_beginBehind : MethodName := ⟨RX10, "beginBehind", "(LDyerBells$Past;I)V"⟩
def RX11 : String := "DyerBells"
def TX11 : u_T := fun k => match k with
  | 0 => ("DyerBells", "tape", "LDyerBells$Tape;", true)
  | 1 => ("DyerBells", "latestFault", "I", false)
  | 2 => ("DyerBells", "now", "LDyerBells$Scene;", true)
  | 3 => ("DyerBells", "draft", "LDyerBells$Scene;", true)
  | 4 => ("DyerBells", "keptFirst", "LDyerBells$Scene;", true)
  | 5 => ("DyerBells", "keptSecond", "LDyerBells$Scene;", true)
  | 6 => ("DyerBells", "firstIsKept", "Z", false)
  | 7 => ("DyerBells", "secondIsKept", "Z", false)
  | 8 => ("DyerBells", "week", "LDyerBells$Week;", true)
  | 9 => ("DyerBells", "past", "LDyerBells$Past;", true)
  | 10 => ("DyerBells", "pastIsOld", "Z", false)
  | 11 => ("DyerBells", "chosenGuild", "[I", true)
  | 12 => ("DyerBells", "triedDay", "[I", true)
  | 13 => ("DyerBells", "bestDay", "[I", true)
  | 14 => ("DyerBells", "bestDays", "I", false)
  | 15 => ("DyerBells", "exchangesDone", "I", false)
  | _ => ("DyerBells", "ledBy", "[I", true)
def tyX11 : Nat → FieldType := fun k => match k with
  | 0 => .object "DyerBells$Tape"
  | 1 => .int
  | 2 => .object "DyerBells$Scene"
  | 3 => .object "DyerBells$Scene"
  | 4 => .object "DyerBells$Scene"
  | 5 => .object "DyerBells$Scene"
  | 6 => .boolean
  | 7 => .boolean
  | 8 => .object "DyerBells$Week"
  | 9 => .object "DyerBells$Past"
  | 10 => .boolean
  | 11 => .array .int
  | 12 => .array .int
  | 13 => .array .int
  | 14 => .int
  | 15 => .int
  | _ => .array .int
theorem nmX11 : ∀ a, a < 17 → ∀ b, b < 17 → a ≠ b → (TX11 a).2.1 ≠ (TX11 b).2.1 := by decide +kernel
theorem tyX11_ok : ∀ k, k < 17 → parseFieldDescriptor (TX11 k).2.2.1 = some (tyX11 k) := by decide +kernel
abbrev cX11_init : ByteArray := prog_1_method_1_code
def yX11_init : MethodName := ⟨RX11, "<init>", "()V"⟩
abbrev cX11_feed : ByteArray := prog_1_method_2_code
def yX11_feed : MethodName := ⟨RX11, "feed", "(IIIII)I"⟩
abbrev cX11_end : ByteArray := prog_1_method_3_code
def yX11_end : MethodName := ⟨RX11, "end", "(I)Z"⟩
abbrev cX11_river : ByteArray := prog_1_method_4_code
def yX11_river : MethodName := ⟨RX11, "river", "()I"⟩
abbrev cX11_fault : ByteArray := prog_1_method_5_code
def yX11_fault : MethodName := ⟨RX11, "fault", "()I"⟩
abbrev cX11_reach : ByteArray := prog_1_method_6_code
def yX11_reach : MethodName := ⟨RX11, "reach", "(II)I"⟩
abbrev cX11_guild : ByteArray := prog_1_method_7_code
def yX11_guild : MethodName := ⟨RX11, "guild", "(II)I"⟩
abbrev cX11_user : ByteArray := prog_1_method_8_code
def yX11_user : MethodName := ⟨RX11, "user", "(II)I"⟩
abbrev cX11_flow : ByteArray := prog_1_method_9_code
def yX11_flow : MethodName := ⟨RX11, "flow", "(I)I"⟩
abbrev cX11_order : ByteArray := prog_1_method_10_code
def yX11_order : MethodName := ⟨RX11, "order", "()I"⟩
abbrev cX11_ring : ByteArray := prog_1_method_11_code
def yX11_ring : MethodName := ⟨RX11, "ring", "(III)I"⟩
abbrev cX11_undo : ByteArray := prog_1_method_12_code
def yX11_undo : MethodName := ⟨RX11, "undo", "()I"⟩
abbrev cX11_bell : ByteArray := prog_1_method_13_code
def yX11_bell : MethodName := ⟨RX11, "bell", "(II)I"⟩
abbrev cX11_at : ByteArray := prog_1_method_14_code
def yX11_at : MethodName := ⟨RX11, "at", "(IIII)I"⟩
abbrev cX11_passed : ByteArray := prog_1_method_15_code
def yX11_passed : MethodName := ⟨RX11, "passed", "(II)I"⟩
abbrev cX11_sum : ByteArray := prog_1_method_16_code
def yX11_sum : MethodName := ⟨RX11, "sum", "(II)I"⟩
abbrev cX11_fine : ByteArray := prog_1_method_17_code
def yX11_fine : MethodName := ⟨RX11, "fine", "(II)I"⟩
abbrev cX11_harmed : ByteArray := prog_1_method_18_code
def yX11_harmed : MethodName := ⟨RX11, "harmed", "(II)I"⟩
abbrev cX11_harm : ByteArray := prog_1_method_19_code
def yX11_harm : MethodName := ⟨RX11, "harm", "()I"⟩
abbrev cX11_blame : ByteArray := prog_1_method_20_code
def yX11_blame : MethodName := ⟨RX11, "blame", "(II)I"⟩
abbrev cX11_duty : ByteArray := prog_1_method_21_code
def yX11_duty : MethodName := ⟨RX11, "duty", "(I)I"⟩
abbrev cX11_pulse : ByteArray := prog_1_method_22_code
def yX11_pulse : MethodName := ⟨RX11, "pulse", "(IIII)I"⟩
abbrev cX11_days : ByteArray := prog_1_method_23_code
def yX11_days : MethodName := ⟨RX11, "days", "(I)I"⟩
abbrev cX11_dayOf : ByteArray := prog_1_method_24_code
def yX11_dayOf : MethodName := ⟨RX11, "dayOf", "(I)I"⟩
abbrev cX11_exchange : ByteArray := prog_1_method_25_code
def yX11_exchange : MethodName := ⟨RX11, "exchange", "()I"⟩
abbrev cX11_exchanges : ByteArray := prog_1_method_26_code
def yX11_exchanges : MethodName := ⟨RX11, "exchanges", "()I"⟩
abbrev cX11_late : ByteArray := prog_1_method_27_code
def yX11_late : MethodName := ⟨RX11, "late", "(I)I"⟩
abbrev cX11_see : ByteArray := prog_1_method_28_code
def yX11_see : MethodName := ⟨RX11, "see", "(III)I"⟩
abbrev cX11_night : ByteArray := prog_1_method_29_code
def yX11_night : MethodName := ⟨RX11, "night", "()I"⟩
abbrev cX11_led : ByteArray := prog_1_method_30_code
def yX11_led : MethodName := ⟨RX11, "led", "(I)I"⟩
abbrev cX11_dam : ByteArray := prog_1_method_31_code
def yX11_dam : MethodName := ⟨RX11, "dam", "(II)I"⟩
abbrev cX11_rain : ByteArray := prog_1_method_32_code
def yX11_rain : MethodName := ⟨RX11, "rain", "(II)I"⟩
abbrev cX11_sentence : ByteArray := prog_1_method_33_code
def yX11_sentence : MethodName := ⟨RX11, "sentence", "()I"⟩
abbrev cX11_said : ByteArray := prog_1_method_34_code
def yX11_said : MethodName := ⟨RX11, "said", "(I)I"⟩
abbrev cX11_image : ByteArray := prog_1_method_35_code
def yX11_image : MethodName := ⟨RX11, "image", "(I)Z"⟩
abbrev cX11_restore : ByteArray := prog_1_method_36_code
def yX11_restore : MethodName := ⟨RX11, "restore", "(I)Z"⟩
abbrev cX11_count : ByteArray := prog_1_method_37_code
def yX11_count : MethodName := ⟨RX11, "count", "(I)I"⟩
abbrev cX11_isRefused : ByteArray := prog_1_method_38_code
def yX11_isRefused : MethodName := ⟨RX11, "isRefused", "()Z"⟩
abbrev cX11_isHour : ByteArray := prog_1_method_39_code
def yX11_isHour : MethodName := ⟨RX11, "isHour", "(I)Z"⟩
abbrev cX11_isReach : ByteArray := prog_1_method_40_code
def yX11_isReach : MethodName := ⟨RX11, "isReach", "(I)Z"⟩
abbrev cX11_isColour : ByteArray := prog_1_method_41_code
def yX11_isColour : MethodName := ⟨RX11, "isColour", "(I)Z"⟩
abbrev cX11_isGuild : ByteArray := prog_1_method_42_code
def yX11_isGuild : MethodName := ⟨RX11, "isGuild", "(I)Z"⟩
abbrev cX11_isUser : ByteArray := prog_1_method_43_code
def yX11_isUser : MethodName := ⟨RX11, "isUser", "(I)Z"⟩
abbrev cX11_isBell : ByteArray := prog_1_method_44_code
def yX11_isBell : MethodName := ⟨RX11, "isBell", "(I)Z"⟩
abbrev cX11_shadeOf : ByteArray := prog_1_method_45_code
def yX11_shadeOf : MethodName := ⟨RX11, "shadeOf", "(II)I"⟩
abbrev cX11_rainedFlow : ByteArray := prog_1_method_46_code
def yX11_rainedFlow : MethodName := ⟨RX11, "rainedFlow", "(II)I"⟩
abbrev cX11_past : ByteArray := prog_1_method_47_code
def yX11_past : MethodName := ⟨RX11, "past", "()LDyerBells$Past;"⟩
abbrev cX11_chooseGuilds : ByteArray := prog_1_method_48_code
def yX11_chooseGuilds : MethodName := ⟨RX11, "chooseGuilds", "(I)Z"⟩
abbrev cX11_tryDays : ByteArray := prog_1_method_49_code
def yX11_tryDays : MethodName := ⟨RX11, "tryDays", "(IIII)I"⟩
abbrev cX11_firstTried : ByteArray := prog_1_method_50_code
def yX11_firstTried : MethodName := ⟨RX11, "firstTried", "(II)I"⟩
abbrev cX11_exchangeFirst : ByteArray := prog_1_method_51_code
def yX11_exchangeFirst : MethodName := ⟨RX11, "exchangeFirst", "(I)I"⟩
abbrev cX11_tryNights : ByteArray := prog_1_method_52_code
def yX11_tryNights : MethodName := ⟨RX11, "tryNights", "(III)I"⟩
def RX12 : String := "DyerBellsModel"
def TX12 : u_T := fun k => match k with
  | 0 => ("DyerBellsModel", "thrown", "I", false)
  | 1 => ("DyerBellsModel", "tape", "[I", true)
  | 2 => ("DyerBellsModel", "taped", "I", false)
  | 3 => ("DyerBellsModel", "size", "I", false)
  | 4 => ("DyerBellsModel", "limit", "I", false)
  | 5 => ("DyerBellsModel", "to", "I", false)
  | 6 => ("DyerBellsModel", "from", "I", false)
  | 7 => ("DyerBellsModel", "kind", "I", false)
  | 8 => ("DyerBellsModel", "number", "I", false)
  | 9 => ("DyerBellsModel", "sign", "I", false)
  | 10 => ("DyerBellsModel", "fault", "I", false)
  | 11 => ("DyerBellsModel", "place", "I", false)
  | 12 => ("DyerBellsModel", "word", "J", false)
  | 13 => ("DyerBellsModel", "told", "I", false)
  | 14 => ("DyerBellsModel", "now", "[I", true)
  | 15 => ("DyerBellsModel", "read", "[I", true)
  | 16 => ("DyerBellsModel", "kept", "[I", true)
  | 17 => ("DyerBellsModel", "line", "[I", true)
  | 18 => ("DyerBellsModel", "name", "[J", true)
  | 19 => ("DyerBellsModel", "readName", "[J", true)
  | 20 => ("DyerBellsModel", "keptName", "[J", true)
  | 21 => ("DyerBellsModel", "isKept", "[Z", true)
  | 22 => ("DyerBellsModel", "isBegun", "Z", false)
  | 23 => ("DyerBellsModel", "had", "I", false)
  | 24 => ("DyerBellsModel", "hadDays", "I", false)
  | 25 => ("DyerBellsModel", "lineMany", "I", false)
  | 26 => ("DyerBellsModel", "works", "[I", true)
  | 27 => ("DyerBellsModel", "water", "[I", true)
  | 28 => ("DyerBellsModel", "bed", "[I", true)
  | 29 => ("DyerBellsModel", "passed", "[I", true)
  | 30 => ("DyerBellsModel", "put", "[I", true)
  | 31 => ("DyerBellsModel", "flows", "[I", true)
  | 32 => ("DyerBellsModel", "waterAt", "[I", true)
  | 33 => ("DyerBellsModel", "bedAt", "[I", true)
  | 34 => ("DyerBellsModel", "pulseAt", "I", false)
  | 35 => ("DyerBellsModel", "pulseColour", "I", false)
  | 36 => ("DyerBellsModel", "pulseMuch", "I", false)
  | 37 => ("DyerBellsModel", "wasHarmed", "[Z", true)
  | 38 => ("DyerBellsModel", "asked", "[I", true)
  | 39 => ("DyerBellsModel", "day", "[I", true)
  | 40 => ("DyerBellsModel", "bestDay", "[I", true)
  | 41 => ("DyerBellsModel", "toldDay", "[I", true)
  | 42 => ("DyerBellsModel", "askedMany", "I", false)
  | 43 => ("DyerBellsModel", "fewest", "I", false)
  | 44 => ("DyerBellsModel", "toldMany", "I", false)
  | 45 => ("DyerBellsModel", "exchanged", "I", false)
  | 46 => ("DyerBellsModel", "led", "[I", true)
  | 47 => ("DyerBellsModel", "worked", "[I", true)
  | 48 => ("DyerBellsModel", "seed", "I", false)
  | 49 => ("DyerBellsModel", "node", "[I", true)
  | 50 => ("DyerBellsModel", "nodes", "I", false)
  | 51 => ("DyerBellsModel", "ones", "I", false)
  | 52 => ("DyerBellsModel", "within", "I", false)
  | _ => ("DyerBellsModel", "top", "I", false)
def tyX12 : Nat → FieldType := fun k => match k with
  | 0 => .int
  | 1 => .array .int
  | 2 => .int
  | 3 => .int
  | 4 => .int
  | 5 => .int
  | 6 => .int
  | 7 => .int
  | 8 => .int
  | 9 => .int
  | 10 => .int
  | 11 => .int
  | 12 => .long
  | 13 => .int
  | 14 => .array .int
  | 15 => .array .int
  | 16 => .array .int
  | 17 => .array .int
  | 18 => .array .long
  | 19 => .array .long
  | 20 => .array .long
  | 21 => .array .boolean
  | 22 => .boolean
  | 23 => .int
  | 24 => .int
  | 25 => .int
  | 26 => .array .int
  | 27 => .array .int
  | 28 => .array .int
  | 29 => .array .int
  | 30 => .array .int
  | 31 => .array .int
  | 32 => .array .int
  | 33 => .array .int
  | 34 => .int
  | 35 => .int
  | 36 => .int
  | 37 => .array .boolean
  | 38 => .array .int
  | 39 => .array .int
  | 40 => .array .int
  | 41 => .array .int
  | 42 => .int
  | 43 => .int
  | 44 => .int
  | 45 => .int
  | 46 => .array .int
  | 47 => .array .int
  | 48 => .int
  | 49 => .array .int
  | 50 => .int
  | 51 => .int
  | 52 => .int
  | _ => .int
theorem nmX12 : ∀ a, a < 54 → ∀ b, b < 54 → a ≠ b → (TX12 a).2.1 ≠ (TX12 b).2.1 := by decide +kernel
theorem tyX12_ok : ∀ k, k < 54 → parseFieldDescriptor (TX12 k).2.2.1 = some (tyX12 k) := by decide +kernel
abbrev cX12_init : ByteArray := prog_14_method_1_code
def yX12_init : MethodName := ⟨RX12, "<init>", "()V"⟩
abbrev cX12_thrown : ByteArray := prog_14_method_2_code
def yX12_thrown : MethodName := ⟨RX12, "thrown", "()I"⟩
abbrev cX12_refuse : ByteArray := prog_14_method_3_code
def yX12_refuse : MethodName := ⟨RX12, "refuse", "()I"⟩
abbrev cX12_come : ByteArray := prog_14_method_4_code
def yX12_come : MethodName := ⟨RX12, "come", "(I)V"⟩
abbrev cX12_feed : ByteArray := prog_14_method_5_code
def yX12_feed : MethodName := ⟨RX12, "feed", "(IIIII)I"⟩
abbrev cX12_end : ByteArray := prog_14_method_6_code
def yX12_end : MethodName := ⟨RX12, "end", "(I)Z"⟩
abbrev cX12_take : ByteArray := prog_14_method_7_code
def yX12_take : MethodName := ⟨RX12, "take", "()I"⟩
abbrev cX12_isIn : ByteArray := prog_14_method_8_code
def yX12_isIn : MethodName := ⟨RX12, "isIn", "(III)Z"⟩
abbrev cX12_has : ByteArray := prog_14_method_9_code
def yX12_has : MethodName := ⟨RX12, "has", "(II)Z"⟩
abbrev cX12_byteAt : ByteArray := prog_14_method_10_code
def yX12_byteAt : MethodName := ⟨RX12, "byteAt", "(I)I"⟩
abbrev cX12_isDigit : ByteArray := prog_14_method_11_code
def yX12_isDigit : MethodName := ⟨RX12, "isDigit", "(I)Z"⟩
abbrev cX12_isLetter : ByteArray := prog_14_method_12_code
def yX12_isLetter : MethodName := ⟨RX12, "isLetter", "(I)Z"⟩
abbrev cX12_go : ByteArray := prog_14_method_13_code
def yX12_go : MethodName := ⟨RX12, "go", "()V"⟩
abbrev cX12_spelt : ByteArray := prog_14_method_14_code
def yX12_spelt : MethodName := ⟨RX12, "spelt", "(IIII)J"⟩
abbrev cX12_on : ByteArray := prog_14_method_15_code
def yX12_on : MethodName := ⟨RX12, "on", "(JII)J"⟩
abbrev cX12_wordOf : ByteArray := prog_14_method_16_code
def yX12_wordOf : MethodName := ⟨RX12, "wordOf", "(I)J"⟩
abbrev cX12_isWord : ByteArray := prog_14_method_17_code
def yX12_isWord : MethodName := ⟨RX12, "isWord", "(I)Z"⟩
abbrev cX12_isSign : ByteArray := prog_14_method_18_code
def yX12_isSign : MethodName := ⟨RX12, "isSign", "(I)Z"⟩
abbrev cX12_isName : ByteArray := prog_14_method_19_code
def yX12_isName : MethodName := ⟨RX12, "isName", "()Z"⟩
abbrev cX12_bad : ByteArray := prog_14_method_20_code
def yX12_bad : MethodName := ⟨RX12, "bad", "(I)Z"⟩
abbrev cX12_readNumber : ByteArray := prog_14_method_21_code
def yX12_readNumber : MethodName := ⟨RX12, "readNumber", "(II)Z"⟩
abbrev cX12_readEnd : ByteArray := prog_14_method_22_code
def yX12_readEnd : MethodName := ⟨RX12, "readEnd", "()Z"⟩
abbrev cX12_begin : ByteArray := prog_14_method_23_code
def yX12_begin : MethodName := ⟨RX12, "begin", "(I)V"⟩
abbrev cX12_lay : ByteArray := prog_14_method_24_code
def yX12_lay : MethodName := ⟨RX12, "lay", "()V"⟩
abbrev cX12_standard : ByteArray := prog_14_method_25_code
def yX12_standard : MethodName := ⟨RX12, "standard", "([I)V"⟩
abbrev cX12_reaches : ByteArray := prog_14_method_26_code
def yX12_reaches : MethodName := ⟨RX12, "reaches", "()I"⟩
abbrev cX12_colours : ByteArray := prog_14_method_27_code
def yX12_colours : MethodName := ⟨RX12, "colours", "()I"⟩
abbrev cX12_guilds : ByteArray := prog_14_method_28_code
def yX12_guilds : MethodName := ⟨RX12, "guilds", "()I"⟩
abbrev cX12_users : ByteArray := prog_14_method_29_code
def yX12_users : MethodName := ⟨RX12, "users", "()I"⟩
abbrev cX12_bells : ByteArray := prog_14_method_30_code
def yX12_bells : MethodName := ⟨RX12, "bells", "()I"⟩
abbrev cX12_isReach : ByteArray := prog_14_method_31_code
def yX12_isReach : MethodName := ⟨RX12, "isReach", "(I)Z"⟩
abbrev cX12_isColour : ByteArray := prog_14_method_32_code
def yX12_isColour : MethodName := ⟨RX12, "isColour", "(I)Z"⟩
abbrev cX12_isGuild : ByteArray := prog_14_method_33_code
def yX12_isGuild : MethodName := ⟨RX12, "isGuild", "(I)Z"⟩
abbrev cX12_isUser : ByteArray := prog_14_method_34_code
def yX12_isUser : MethodName := ⟨RX12, "isUser", "(I)Z"⟩
abbrev cX12_findIn : ByteArray := prog_14_method_35_code
def yX12_findIn : MethodName := ⟨RX12, "findIn", "([JII)I"⟩
abbrev cX12_isTold : ByteArray := prog_14_method_36_code
def yX12_isTold : MethodName := ⟨RX12, "isTold", "()Z"⟩
abbrev cX12_readNew : ByteArray := prog_14_method_37_code
def yX12_readNew : MethodName := ⟨RX12, "readNew", "(I)Z"⟩
abbrev cX12_readReach : ByteArray := prog_14_method_38_code
def yX12_readReach : MethodName := ⟨RX12, "readReach", "()Z"⟩
abbrev cX12_readColour : ByteArray := prog_14_method_39_code
def yX12_readColour : MethodName := ⟨RX12, "readColour", "()Z"⟩
abbrev cX12_readReachTold : ByteArray := prog_14_method_40_code
def yX12_readReachTold : MethodName := ⟨RX12, "readReachTold", "()Z"⟩
abbrev cX12_readColourTold : ByteArray := prog_14_method_41_code
def yX12_readColourTold : MethodName := ⟨RX12, "readColourTold", "(I)Z"⟩
abbrev cX12_readGuild : ByteArray := prog_14_method_42_code
def yX12_readGuild : MethodName := ⟨RX12, "readGuild", "()Z"⟩
abbrev cX12_readUser : ByteArray := prog_14_method_43_code
def yX12_readUser : MethodName := ⟨RX12, "readUser", "()Z"⟩
abbrev cX12_readFlow : ByteArray := prog_14_method_44_code
def yX12_readFlow : MethodName := ⟨RX12, "readFlow", "()Z"⟩
abbrev cX12_readFlood : ByteArray := prog_14_method_45_code
def yX12_readFlood : MethodName := ⟨RX12, "readFlood", "()Z"⟩
abbrev cX12_readPebble : ByteArray := prog_14_method_46_code
def yX12_readPebble : MethodName := ⟨RX12, "readPebble", "()Z"⟩
abbrev cX12_readLine : ByteArray := prog_14_method_47_code
def yX12_readLine : MethodName := ⟨RX12, "readLine", "()Z"⟩
abbrev cX12_river : ByteArray := prog_14_method_48_code
def yX12_river : MethodName := ⟨RX12, "river", "()I"⟩
abbrev cX12_fault : ByteArray := prog_14_method_49_code
def yX12_fault : MethodName := ⟨RX12, "fault", "()I"⟩
abbrev cX12_reach : ByteArray := prog_14_method_50_code
def yX12_reach : MethodName := ⟨RX12, "reach", "(II)I"⟩
abbrev cX12_guild : ByteArray := prog_14_method_51_code
def yX12_guild : MethodName := ⟨RX12, "guild", "(II)I"⟩
abbrev cX12_user : ByteArray := prog_14_method_52_code
def yX12_user : MethodName := ⟨RX12, "user", "(II)I"⟩
abbrev cX12_flow : ByteArray := prog_14_method_53_code
def yX12_flow : MethodName := ⟨RX12, "flow", "(I)I"⟩
abbrev cX12_readBell : ByteArray := prog_14_method_54_code
def yX12_readBell : MethodName := ⟨RX12, "readBell", "()Z"⟩
abbrev cX12_order : ByteArray := prog_14_method_55_code
def yX12_order : MethodName := ⟨RX12, "order", "()I"⟩
abbrev cX12_addBell : ByteArray := prog_14_method_56_code
def yX12_addBell : MethodName := ⟨RX12, "addBell", "(III)V"⟩
abbrev cX12_ring : ByteArray := prog_14_method_57_code
def yX12_ring : MethodName := ⟨RX12, "ring", "(III)I"⟩
abbrev cX12_undo : ByteArray := prog_14_method_58_code
def yX12_undo : MethodName := ⟨RX12, "undo", "()I"⟩
abbrev cX12_bell : ByteArray := prog_14_method_59_code
def yX12_bell : MethodName := ⟨RX12, "bell", "(II)I"⟩
abbrev cX12_layWorks : ByteArray := prog_14_method_60_code
def yX12_layWorks : MethodName := ⟨RX12, "layWorks", "(I)V"⟩
abbrev cX12_layFlows : ByteArray := prog_14_method_61_code
def yX12_layFlows : MethodName := ⟨RX12, "layFlows", "()V"⟩
abbrev cX12_hour : ByteArray := prog_14_method_62_code
def yX12_hour : MethodName := ⟨RX12, "hour", "(III)V"⟩
abbrev cX12_goWeek : ByteArray := prog_14_method_63_code
def yX12_goWeek : MethodName := ⟨RX12, "goWeek", "()V"⟩
abbrev cX12_week : ByteArray := prog_14_method_64_code
def yX12_week : MethodName := ⟨RX12, "week", "()V"⟩
abbrev cX12_shadeAt : ByteArray := prog_14_method_65_code
def yX12_shadeAt : MethodName := ⟨RX12, "shadeAt", "(III)I"⟩
abbrev cX12_isHarmed : ByteArray := prog_14_method_66_code
def yX12_isHarmed : MethodName := ⟨RX12, "isHarmed", "(II)Z"⟩
abbrev cX12_harmAtHand : ByteArray := prog_14_method_67_code
def yX12_harmAtHand : MethodName := ⟨RX12, "harmAtHand", "()I"⟩
abbrev cX12_harmNow : ByteArray := prog_14_method_68_code
def yX12_harmNow : MethodName := ⟨RX12, "harmNow", "()I"⟩
abbrev cX12_isHour : ByteArray := prog_14_method_69_code
def yX12_isHour : MethodName := ⟨RX12, "isHour", "(I)Z"⟩
abbrev cX12_at : ByteArray := prog_14_method_70_code
def yX12_at : MethodName := ⟨RX12, "at", "(IIII)I"⟩
abbrev cX12_passed : ByteArray := prog_14_method_71_code
def yX12_passed : MethodName := ⟨RX12, "passed", "(II)I"⟩
abbrev cX12_sum : ByteArray := prog_14_method_72_code
def yX12_sum : MethodName := ⟨RX12, "sum", "(II)I"⟩
abbrev cX12_fine : ByteArray := prog_14_method_73_code
def yX12_fine : MethodName := ⟨RX12, "fine", "(II)I"⟩
abbrev cX12_harmed : ByteArray := prog_14_method_74_code
def yX12_harmed : MethodName := ⟨RX12, "harmed", "(II)I"⟩
abbrev cX12_harm : ByteArray := prog_14_method_75_code
def yX12_harm : MethodName := ⟨RX12, "harm", "()I"⟩
abbrev cX12_blame : ByteArray := prog_14_method_76_code
def yX12_blame : MethodName := ⟨RX12, "blame", "(II)I"⟩
abbrev cX12_duty : ByteArray := prog_14_method_77_code
def yX12_duty : MethodName := ⟨RX12, "duty", "(I)I"⟩
abbrev cX12_pulse : ByteArray := prog_14_method_78_code
def yX12_pulse : MethodName := ⟨RX12, "pulse", "(IIII)I"⟩
abbrev cX12_tryDays : ByteArray := prog_14_method_79_code
def yX12_tryDays : MethodName := ⟨RX12, "tryDays", "(II)V"⟩
abbrev cX12_days : ByteArray := prog_14_method_80_code
def yX12_days : MethodName := ⟨RX12, "days", "(I)I"⟩
abbrev cX12_dayOf : ByteArray := prog_14_method_81_code
def yX12_dayOf : MethodName := ⟨RX12, "dayOf", "(I)I"⟩
abbrev cX12_swap : ByteArray := prog_14_method_82_code
def yX12_swap : MethodName := ⟨RX12, "swap", "(II)V"⟩
abbrev cX12_exchangeOnce : ByteArray := prog_14_method_83_code
def yX12_exchangeOnce : MethodName := ⟨RX12, "exchangeOnce", "(I)I"⟩
abbrev cX12_exchange : ByteArray := prog_14_method_84_code
def yX12_exchange : MethodName := ⟨RX12, "exchange", "()I"⟩
abbrev cX12_exchanges : ByteArray := prog_14_method_85_code
def yX12_exchanges : MethodName := ⟨RX12, "exchanges", "()I"⟩
abbrev cX12_late : ByteArray := prog_14_method_86_code
def yX12_late : MethodName := ⟨RX12, "late", "(I)I"⟩
abbrev cX12_see : ByteArray := prog_14_method_87_code
def yX12_see : MethodName := ⟨RX12, "see", "(III)I"⟩
abbrev cX12_isSeen : ByteArray := prog_14_method_88_code
def yX12_isSeen : MethodName := ⟨RX12, "isSeen", "()Z"⟩
abbrev cX12_night : ByteArray := prog_14_method_89_code
def yX12_night : MethodName := ⟨RX12, "night", "()I"⟩
abbrev cX12_led : ByteArray := prog_14_method_90_code
def yX12_led : MethodName := ⟨RX12, "led", "(I)I"⟩
abbrev cX12_dam : ByteArray := prog_14_method_91_code
def yX12_dam : MethodName := ⟨RX12, "dam", "(II)I"⟩
abbrev cX12_draw : ByteArray := prog_14_method_92_code
def yX12_draw : MethodName := ⟨RX12, "draw", "(I)I"⟩
abbrev cX12_rain : ByteArray := prog_14_method_93_code
def yX12_rain : MethodName := ⟨RX12, "rain", "(II)I"⟩
abbrev cX12_lays : ByteArray := prog_14_method_94_code
def yX12_lays : MethodName := ⟨RX12, "lays", "(IIII)I"⟩
abbrev cX12_readOr : ByteArray := prog_14_method_95_code
def yX12_readOr : MethodName := ⟨RX12, "readOr", "()Z"⟩
abbrev cX12_readAnd : ByteArray := prog_14_method_96_code
def yX12_readAnd : MethodName := ⟨RX12, "readAnd", "()Z"⟩
abbrev cX12_readOne : ByteArray := prog_14_method_97_code
def yX12_readOne : MethodName := ⟨RX12, "readOne", "()Z"⟩
abbrev cX12_readNot : ByteArray := prog_14_method_98_code
def yX12_readNot : MethodName := ⟨RX12, "readNot", "()Z"⟩
abbrev cX12_readBracket : ByteArray := prog_14_method_99_code
def yX12_readBracket : MethodName := ⟨RX12, "readBracket", "()Z"⟩
abbrev cX12_readNamed : ByteArray := prog_14_method_100_code
def yX12_readNamed : MethodName := ⟨RX12, "readNamed", "(II)Z"⟩
abbrev cX12_readOf : ByteArray := prog_14_method_101_code
def yX12_readOf : MethodName := ⟨RX12, "readOf", "(I)Z"⟩
abbrev cX12_readCompare : ByteArray := prog_14_method_102_code
def yX12_readCompare : MethodName := ⟨RX12, "readCompare", "(I)Z"⟩
abbrev cX12_sentence : ByteArray := prog_14_method_103_code
def yX12_sentence : MethodName := ⟨RX12, "sentence", "()I"⟩
abbrev cX12_valueOf : ByteArray := prog_14_method_104_code
def yX12_valueOf : MethodName := ⟨RX12, "valueOf", "(III)I"⟩
abbrev cX12_isSo : ByteArray := prog_14_method_105_code
def yX12_isSo : MethodName := ⟨RX12, "isSo", "(II)Z"⟩
abbrev cX12_said : ByteArray := prog_14_method_106_code
def yX12_said : MethodName := ⟨RX12, "said", "(I)I"⟩
abbrev cX12_image : ByteArray := prog_14_method_107_code
def yX12_image : MethodName := ⟨RX12, "image", "(I)Z"⟩
abbrev cX12_restore : ByteArray := prog_14_method_108_code
def yX12_restore : MethodName := ⟨RX12, "restore", "(I)Z"⟩
abbrev cX12_count : ByteArray := prog_14_method_109_code
def yX12_count : MethodName := ⟨RX12, "count", "(I)I"⟩
def RJx145de : String := "java/io/Serializable"
def TJx145de : u_T := fun k => match k with
  | _ => ("", "", "", false)
def RJ6 : String := "java/lang/Integer"
def TJ6 : u_T := fun k => match k with
  | _ => ("", "", "", false)
abbrev cJ6_bitCount_0f7a4 : ByteArray := prog_17_method_49_code
def yJ6_bitCount_0f7a4 : MethodName := ⟨RJ6, "bitCount", "(I)I"⟩
def RJ9 : String := "java/lang/Math"
def TJ9 : u_T := fun k => match k with
  | _ => ("", "", "", false)
abbrev cJ9_max_7cf53 : ByteArray := prog_18_method_65_code
def yJ9_max_7cf53 : MethodName := ⟨RJ9, "max", "(II)I"⟩
abbrev cJ9_min_7cf53 : ByteArray := prog_18_method_69_code
def yJ9_min_7cf53 : MethodName := ⟨RJ9, "min", "(II)I"⟩
def RJ10 : String := "java/lang/System"
def TJ10 : u_T := fun k => match k with
  | _ => ("", "", "", false)
def RL : String := "DyerBellsLaw"
abbrev cL_reach : ByteArray := method_3_code
def yL_reach : MethodName := ⟨RL, "reach", "(LDyerBells;II[J)I"⟩
abbrev cL_guild : ByteArray := method_4_code
def yL_guild : MethodName := ⟨RL, "guild", "(LDyerBells;II[J)I"⟩
abbrev cL_user : ByteArray := method_5_code
def yL_user : MethodName := ⟨RL, "user", "(LDyerBells;II[J)I"⟩
abbrev cL_flow : ByteArray := method_6_code
def yL_flow : MethodName := ⟨RL, "flow", "(LDyerBells;I[J)I"⟩
abbrev cL_bell : ByteArray := method_7_code
def yL_bell : MethodName := ⟨RL, "bell", "(LDyerBells;II[J)I"⟩
abbrev cL_law : ByteArray := code
def yL_law : MethodName := ⟨RL, "law", "([I)Z"⟩
abbrev vwCl : List vw_C := [(RX0, TX0, 4), (RX1, TX1, 4), (RX2, TX2, 6), (RX3, TX3, 20), (RX5, TX5, 4), (RX6, TX6, 7), (RX8, TX8, 4), (RX9, TX9, 12), (RX10, TX10, 6), (RX11, TX11, 17), (RX12, TX12, 54)]
end
section
/-! THE FRAMEWORK: a method's meaning is a function on numbers: locals Lo, memory Me (a number of a variable, a place in it); its bytecode does what the meaning says. -/
/-- the words that hold wherever a method stands -/
def lw_tb : List Cond := lw_tbl.filter goodWord
theorem lw_tb_of {w : Cond} (h : w ∈ lw_tbl) (hg : goodWord w = true) : w ∈ lw_tb := List.mem_filter.mpr ⟨h, hg⟩
theorem lw_tb_in {w : Cond} (h : w ∈ lw_tb) : w ∈ lw_tbl := (List.mem_filter.mp h).1
abbrev Lo : Type := Nat → Int
abbrev Me : Type := Nat → Nat → Int
abbrev EM : Type := Lo → Me → Option (Int × Me)
abbrev BM : Type := Lo → Me → Option (Bool × Me)
abbrev SM : Type := Lo → Me → Option (Nat × Int × Lo × Me)
abbrev FM : Type := List Int → Me → Option (Int × Me)
abbrev CD : Type := (Nat × List (Nat × Nat)) ⊕ (Nat × Nat)
def w32 (x : Int) : Int := (Int32.ofInt x).toInt
def w64 (x : Int) : Int := (Int64.ofInt x).toInt
def up (ρ : Lo) (i : Nat) (v : Int) : Lo := fun j => if j = i then v else ρ j
def u2 (σ : Me) (a i : Nat) (v : Int) : Me := fun b j => if b = a ∧ j = i then v else σ b j
-- meanings of expressions
def cE (n : Int) : EM := fun _ σ => some (n, σ)
def vE (i : Nat) : EM := fun ρ σ => some (ρ i, σ)
/-- a field -/
def gE (v : Nat) : EM := fun _ σ => some (σ v 0, σ)
/-- a ref that is got by way of a -/
def o1 (op : Int → Int) (a : EM) : EM := fun ρ σ => (a ρ σ).bind fun x => some (op x.1, x.2)
def o2 (op : Int → Int → Int) (a b : EM) : EM := fun ρ σ => (a ρ σ).bind fun x => (b ρ x.2).bind fun y => some (op x.1 y.1, y.2)
/-- behind a's effects, b -/
def thE (a b : EM) : EM := fun ρ σ => (a ρ σ).bind fun x => b ρ x.2
def dvE (a b : EM) : EM := fun ρ σ => (a ρ σ).bind fun x => (b ρ x.2).bind fun y => if w32 y.1 = 0 then none else some ((w32 x.1).tdiv (w32 y.1), y.2)
def rmE (a b : EM) : EM := fun ρ σ => (a ρ σ).bind fun x => (b ρ x.2).bind fun y => if w32 y.1 = 0 then none else some (w32 x.1 - (w32 x.1).tdiv (w32 y.1) * w32 y.1, y.2)
def dlE (a b : EM) : EM := fun ρ σ => (a ρ σ).bind fun x => (b ρ x.2).bind fun y => if w64 y.1 = 0 then none else some ((w64 x.1).tdiv (w64 y.1), y.2)
def ixI (i : Int) (n : Nat) : Option Nat := if 0 ≤ w32 i ∧ w32 i < n then some (w32 i).toNat else none
/-- an element of the array v of length n -/
def ldE (v n : Nat) (a i : EM) : EM := fun ρ σ => (a ρ σ).bind fun z => (i ρ z.2).bind fun x => (ixI x.1 n).bind fun k => some (x.2 v k, x.2)
def kE (c : BM) (a b : EM) : EM := fun ρ σ => (c ρ σ).bind fun x => if x.1 = true then a ρ x.2 else b ρ x.2
def aE : List EM → Lo → Me → Option (List Int × Me)
  | [], _, σ => some ([], σ)
  | a :: l, ρ, σ => (a ρ σ).bind fun x => (aE l ρ x.2).bind fun y => some (x.1 :: y.1, y.2)
def clE (f : FM) (l : List EM) : EM := fun ρ σ => (aE l ρ σ).bind fun x => f x.1 x.2
-- meanings of conditions
def cmpI (o : Nat) (a b : Int) : Bool := match o with
  | 0 => decide (w32 a = w32 b)
  | 1 => !decide (w32 a = w32 b)
  | 2 => decide (w32 a < w32 b)
  | 3 => decide (w32 b ≤ w32 a)
  | 4 => decide (w32 b < w32 a)
  | _ => decide (w32 a ≤ w32 b)
def cB (o : Nat) (a b : EM) : BM := fun ρ σ => (a ρ σ).bind fun x => (b ρ x.2).bind fun y => some (cmpI o x.1 y.1, y.2)
def zB (o : Nat) (a : EM) : BM := fun ρ σ => (a ρ σ).bind fun x => some (cmpI o x.1 0, x.2)
def cmpL (a b : Int) : Int := if w64 b < w64 a then 1 else if w64 a = w64 b then 0 else -1
def nB (c : BM) : BM := fun ρ σ => (c ρ σ).bind fun x => some (!x.1, x.2)
def andB (c d : BM) : BM := fun ρ σ => (c ρ σ).bind fun x => if x.1 = true then d ρ x.2 else some (false, x.2)
def orB (c d : BM) : BM := fun ρ σ => (c ρ σ).bind fun x => if x.1 = true then some (true, x.2) else d ρ x.2
-- meanings of statements: how it went on (0 on, 1 break, 2 continue, 3 return, 4 throw)
def skS : SM := fun ρ σ => some (0, 0, ρ, σ)
def stS (i : Nat) (a : EM) : SM := fun ρ σ => (a ρ σ).bind fun x => some (0, 0, up ρ i x.1, x.2)
def exS (a : EM) : SM := fun ρ σ => (a ρ σ).bind fun x => some (0, 0, ρ, x.2)
def inS (i : Nat) (n : Int) : SM := fun ρ σ => some (0, 0, up ρ i (ρ i + n), σ)
/-- a field is set: o the object's own effects -/
def pfS (v : Nat) (o a : EM) : SM := fun ρ σ => (o ρ σ).bind fun z => (a ρ z.2).bind fun x => some (0, 0, ρ, u2 x.2 v 0 x.1)
/-- a field is changed by op -/
def poS (v : Nat) (op : Int → Int → Int) (o a : EM) : SM := fun ρ σ => (o ρ σ).bind fun z => (a ρ z.2).bind fun x => some (0, 0, ρ, u2 x.2 v 0 (op (z.2 v 0) x.1))
/-- an element is set -/
def asS (v n : Nat) (g : Int → Int) (r i a : EM) : SM := fun ρ σ => (r ρ σ).bind fun z => (i ρ z.2).bind fun x => (a ρ x.2).bind fun y => (ixI x.1 n).bind fun k => some (0, 0, ρ, u2 y.2 v k (g y.1))
/-- an element is changed by op -/
def aoS (v n : Nat) (op : Int → Int → Int) (r i a : EM) : SM := fun ρ σ => (r ρ σ).bind fun z => (i ρ z.2).bind fun x => (ixI x.1 n).bind fun k => (a ρ x.2).bind fun y => some (0, 0, ρ, u2 y.2 v k (op (x.2 v k) y.1))
def sq (a b : SM) : SM := fun ρ σ => (a ρ σ).bind fun x => if x.1 = 0 then b x.2.2.1 x.2.2.2 else some x
def ifS (c : BM) (a b : SM) : SM := fun ρ σ => (c ρ σ).bind fun x => if x.1 = true then a ρ x.2 else b ρ x.2
def brS : SM := fun ρ σ => some (1, 0, ρ, σ)
def ctS : SM := fun ρ σ => some (2, 0, ρ, σ)
def rtS (a : EM) : SM := fun ρ σ => (a ρ σ).bind fun x => some (3, x.1, ρ, x.2)
def rvS : SM := fun ρ σ => some (3, 0, ρ, σ)
def thS : SM := fun ρ σ => some (4, 0, ρ, σ)
/-- a loop: its update behind the body and behind a continue -/
def whS (c : BM) (b u : SM) : Nat → SM
  | 0 => fun _ _ => none
  | n + 1 => fun ρ σ => (c ρ σ).bind fun x => if x.1 = true then (b ρ x.2).bind fun y => if y.1 = 0 ∨ y.1 = 2 then (u y.2.2.1 y.2.2.2).bind fun z => if z.1 = 0 then whS c b u n z.2.2.1 z.2.2.2 else none else if y.1 = 1 then some (0, y.2) else some y else some (0, 0, ρ, x.2)
/-- a switch's case: a break in it goes on behind it -/
def swS (a : SM) : SM := fun ρ σ => (a ρ σ).bind fun x => if x.1 = 1 then some (0, x.2) else some x
def ini : List Nat → List Int → Lo
  | i :: l, v :: w => up (ini l w) i v
  | _, _ => fun _ => 0
def mthF (is : List Nat) (b : SM) : FM := fun vs σ => (b (ini is vs) σ).bind fun x => if x.1 = 3 then some (x.2.1, x.2.2.2) else none
/-- a method that answers a truth -/
def mthZ (is : List Nat) (b : SM) : FM := fun vs σ => (b (ini is vs) σ).bind fun x => if x.1 = 3 ∧ (x.2.1 = 0 ∨ x.2.1 = 1) then some (x.2.1, x.2.2.2) else none
/-- a truth's field is set -/
def pzS (v : Nat) (o a : EM) : SM := fun ρ σ => (o ρ σ).bind fun z => (a ρ z.2).bind fun x => if x.1 = 0 ∨ x.1 = 1 then some (0, 0, ρ, u2 x.2 v 0 x.1) else none
-- the machine's side
def fw_f (adr : Nat → Nat) (σ : Me) (k j : Nat) (q : Nat × Nat) : Value := match q.1 with
  | 0 => .ref (adr q.2)
  | 1 => .int (Int32.ofInt (σ (64 * k + j) 0))
  | _ => .long (Int64.ofInt (σ (64 * k + j) 0))
def fw_a (σ : Me) (k ty : Nat) : (Nat → Int32) ⊕ (Nat → Int64) ⊕ (Nat → UInt32) ⊕ (Nat → UInt64) ⊕ (Nat → Option Nat) := match ty with
  | 1 => .inr (.inl (fun i => Int64.ofInt (σ (64 * k) i)))
  | _ => .inl (fun i => Int32.ofInt (σ (64 * k) i))
def fw_c (adr : Nat → Nat) (cA : Nat → ClassId) (σ : Me) (k : Nat) (q : CD) : va_E := match q with
  | .inl o => .inr (o.1, o.2.mapIdx (fw_f adr σ k))
  | .inr a => .inl (cA a.1, a.2, fw_a σ k a.1)
def fw_w (lay : List CD) (adr : Nat → Nat) (cA : Nat → ClassId) (σ : Me) : va_W := lay.mapIdx (fun k q => (adr k, fw_c adr cA σ k q))
def fw_t (cA : Nat → ClassId) : List (ClassId × FieldType) := [(cA 0, .int), (cA 1, .long), (cA 2, .byte), (cA 3, .boolean)]
def fw_v (adr : Nat → Nat) (t : Nat) (x : Int) : Value := match t with
  | 0 => .int (Int32.ofInt x)
  | 1 => .long (Int64.ofInt x)
  | k + 2 => .ref (adr k)
abbrev FT : Type := List (Nat × Nat)
/-- what a method's code stands on: the cells, its class, code, number of locals, depth, what it returns -/
abbrev SI : Type := List CD × String × ByteArray × Nat × Nat × Option Nat
/-- a run of it -/
abbrev GX : Type := Program × Launch × Env × Room × State × MethodId × Array Value × List Frame × Method × Code × va_G × (Nat → Nat) × (Nat → ClassId) × (Nat → Prop) × Nat × Nat × (State → Prop)
def fw_ok (lay : List CD) : Prop := ∀ (k : Nat) (o : Nat × List (Nat × Nat)), lay[k]? = some (.inl o) → o.2.length ≤ 64
/-- the links within the nest -/
def fw_nw (U : State) : Prop := ∀ (a : String) (i : Nat) (x : MethodName) (h : String), Cond.methodLinkNest a i x h ∈ lw_tbl → va_Nw (.methodLinkNest a i x h) U
theorem fw_nw_warm {s U : State} (hW : s.WarmedH U.vm) (h : fw_nw s) : fw_nw U := fun a i x t hw => va_Nw.warmM hW (h a i x t hw)
def fw_X (S : SI) (G : GX) : Prop := match S, G with
  | (lay, own, cc, nL, d, _), (p, _, _, R, s, m, args, _, _, c, D, _, cA, A, cells, slots, _) =>
    p.tables.exec = Jvm.exec ∧ c.code = cc ∧ c.maxLocals = nL ∧ s.vm.findClass own = some m.cls ∧ (∀ w ∈ lw_tb, w.before args s = true) ∧ va_K D vwCl (fw_t cA) s ∧ (∀ q, s.heap.size ≤ q → A q) ∧ d ≤ R.frames ∧ 40 * d ≤ R.locals ∧ cells ≤ R.cells ∧ slots ≤ R.slots ∧ fw_ok lay ∧ fw_nw s
def fw_M (S : SI) (G : GX) (σ : Me) (H : Heap) (locs : List Loc) : Prop := match S, G with
  | (lay, _), (_, _, _, _, s, _, _, _, _, _, D, adr, cA, A, _) => va_P D vwCl (fw_w lay adr cA σ) H ∧ va_D A (fw_w lay adr cA σ) ∧ va_S A s.heap H locs
def fw_L (S : SI) (G : GX) (T : FT) (ρ : Lo) (ls : Array Slot) : Prop := match S, G with
  | (_, _, _, nL, _), (_, _, _, _, _, _, _, _, _, _, _, adr, _) => lv_has ls nL (T.map fun q => (q.1, fw_v adr q.2 (ρ q.1)))
def fw_W (G : GX) (H : Heap) (locs : List Loc) (pc : Nat) (ls : Array Slot) (st : List Value) : Prop := match G with
  | (p, l, e, R, s, m, args, below, meth, c, _, _, _, _, cells, slots, Q) => W p l e R s m args below meth c H locs cells slots Q (F0 m pc ls st)
def fw_val (G : GX) (t : Nat) (x : Int) : Value := match G with
  | (_, _, _, _, _, _, _, _, _, _, _, adr, _) => fw_v adr t x
/-- an expression at pc, b words below it on the stack: its value, of kind t, is on the stack at pc' -/
def fw_E (S : SI) (T : FT) (b pc pc' t : Nat) (f : EM) : Prop := ∀ G, fw_X S G → ∀ (ρ : Lo) (σ : Me) (x : Int) (σ' : Me) (H : Heap) (locs : List Loc) (ls : Array Slot) (st : List Value),
  fw_L S G T ρ ls → fw_M S G σ H locs → (st.map fun v => v.category).sum ≤ b → f ρ σ = some (x, σ') →
  (∀ H' locs', fw_M S G σ' H' locs' → fw_W G H' locs' pc' ls (fw_val G t x :: st)) → fw_W G H locs pc ls st
/-- a condition: true goes to pt, false to pf -/
def fw_B (S : SI) (T : FT) (b pc pt pf : Nat) (f : BM) : Prop := ∀ G, fw_X S G → ∀ (ρ : Lo) (σ : Me) (x : Bool) (σ' : Me) (H : Heap) (locs : List Loc) (ls : Array Slot) (st : List Value),
  fw_L S G T ρ ls → fw_M S G σ H locs → (st.map fun v => v.category).sum ≤ b → f ρ σ = some (x, σ') →
  (∀ H' locs', fw_M S G σ' H' locs' → fw_W G H' locs' (if x = true then pt else pf) ls st) → fw_W G H locs pc ls st
def fw_rd (cc : ByteArray) (r : Option Nat) (pc : Nat) : Prop := decode cc pc = .ok (match r with
  | none => (.return_, 1)
  | some 0 => (.ireturn, 1)
  | some 1 => (.lreturn, 1)
  | some _ => (.areturn, 1))
def fw_rs (G : GX) (r : Option Nat) (x : Int) : List Value := match r with
  | none => []
  | some t => [fw_val G t x]
def fw_td (cc : ByteArray) (pc : Nat) : Prop := ∃ i j, decode cc pc = .ok (.new i, 3) ∧ decode cc (pc + 3) = .ok (.dup, 1) ∧ decode cc (pc + 4) = .ok (.invokespecial j, 3) ∧ decode cc (pc + 7) = .ok (.athrow, 1)
/-- where a statement goes on, by how it went -/
def fw_K (S : SI) (G : GX) (N B C : Nat × FT) (o : Nat) (x : Int) (ρ' : Lo) (σ' : Me) : Prop :=
  (o = 0 → ∀ H' locs' ls', fw_L S G N.2 ρ' ls' → fw_M S G σ' H' locs' → fw_W G H' locs' N.1 ls' []) ∧
  (o = 1 → ∀ H' locs' ls', fw_L S G B.2 ρ' ls' → fw_M S G σ' H' locs' → fw_W G H' locs' B.1 ls' []) ∧
  (o = 2 → ∀ H' locs' ls', fw_L S G C.2 ρ' ls' → fw_M S G σ' H' locs' → fw_W G H' locs' C.1 ls' []) ∧
  (o = 3 → ∀ H' locs' ls' pc', fw_rd S.2.2.1 S.2.2.2.2.2 pc' → fw_M S G σ' H' locs' → fw_W G H' locs' pc' ls' (fw_rs G S.2.2.2.2.2 x)) ∧
  (o = 4 → ∀ H' locs' ls' pc', fw_td S.2.2.1 pc' → fw_M S G σ' H' locs' → fw_W G H' locs' pc' ls' [])
def fw_S (S : SI) (T : FT) (pc : Nat) (f : SM) (N B C : Nat × FT) : Prop := ∀ G, fw_X S G → ∀ (ρ : Lo) (σ : Me) (o : Nat) (x : Int) (ρ' : Lo) (σ' : Me) (H : Heap) (locs : List Loc) (ls : Array Slot),
  fw_L S G T ρ ls → fw_M S G σ H locs → f ρ σ = some (o, x, ρ', σ') → fw_K S G N B C o x ρ' σ' → fw_W G H locs pc ls []
end
section
/-! cells of the world, by their places -/
theorem fw_w_at {lay : List CD} {adr : Nat → Nat} {cA : Nat → ClassId} {σ : Me} {k : Nat} {q : CD} (h : lay[k]? = some q) : (fw_w lay adr cA σ)[k]? = some (adr k, fw_c adr cA σ k q) := by
  unfold fw_w
  rw [List.getElem?_mapIdx, h]
  rfl
theorem fw_w_of {lay : List CD} {adr : Nat → Nat} {cA : Nat → ClassId} {σ : Me} {k : Nat} {e : Nat × va_E} (h : (fw_w lay adr cA σ)[k]? = some e) : ∃ q, lay[k]? = some q ∧ e = (adr k, fw_c adr cA σ k q) := by
  unfold fw_w at h
  rw [List.getElem?_mapIdx] at h
  cases hq : lay[k]? with
  | none => rw [hq] at h; cases h
  | some q => rw [hq] at h; exact ⟨q, rfl, (Option.some.inj h).symm⟩
theorem u2_s {σ : Me} {a i : Nat} {v : Int} : u2 σ a i v a i = v := by simp [u2]
theorem u2_n {σ : Me} {a i b j : Nat} {v : Int} (h : ¬ (b = a ∧ j = i)) : u2 σ a i v b j = σ b j := by simp [u2, h]
theorem fw_f_n {adr : Nat → Nat} {σ : Me} {v i k j : Nat} {x : Int} {q : Nat × Nat} (h : 64 * k + j ≠ v) : fw_f adr (u2 σ v i x) k j q = fw_f adr σ k j q := by
  unfold fw_f
  rw [u2_n (fun z => h z.1)]
theorem fw_a_n {σ : Me} {v i k ty : Nat} {x : Int} (h : 64 * k ≠ v) : fw_a (u2 σ v i x) k ty = fw_a σ k ty := by
  unfold fw_a
  have e : ∀ j, u2 σ v i x (64 * k) j = σ (64 * k) j := fun j => u2_n (fun z => h z.1)
  split <;> simp only [e]
theorem fw_c_n {adr : Nat → Nat} {cA : Nat → ClassId} {σ : Me} {v i k : Nat} {x : Int} {q : CD} (h : ∀ j, j < 64 → 64 * k + j ≠ v) (ho : ∀ o, q = .inl o → o.2.length ≤ 64) : fw_c adr cA (u2 σ v i x) k q = fw_c adr cA σ k q := by
  cases q with
  | inl o =>
    simp only [fw_c]
    congr 2
    apply List.ext_getElem?
    intro j
    rw [List.getElem?_mapIdx, List.getElem?_mapIdx]
    cases hj : o.2[j]? with
    | none => rfl
    | some z =>
      have hl := (List.getElem?_eq_some_iff.mp hj).1
      have := ho o rfl
      simp only [Option.map_some]
      rw [fw_f_n (h j (by omega))]
  | inr a =>
    simp only [fw_c]
    rw [fw_a_n (by have := h 0 (by omega); omega)]
/-- a change of one variable changes one cell -/
theorem fw_w_set {lay : List CD} {adr : Nat → Nat} {cA : Nat → ClassId} {σ : Me} {v i k : Nat} {x : Int} {q : CD} {e : va_E} (hok : fw_ok lay) (hk : lay[k]? = some q) (hv : ∃ j, j < 64 ∧ v = 64 * k + j) (he : fw_c adr cA (u2 σ v i x) k q = e) : (fw_w lay adr cA σ).set k (adr k, e) = fw_w lay adr cA (u2 σ v i x) := by
  apply List.ext_getElem?
  intro n
  obtain ⟨j0, hj0, rfl⟩ := hv
  have hl := (List.getElem?_eq_some_iff.mp hk).1
  by_cases hn : n = k
  · subst hn
    rw [List.getElem?_set_self (by simpa [fw_w] using hl), fw_w_at hk, he]
  · rw [List.getElem?_set_ne (Ne.symm hn)]
    unfold fw_w
    rw [List.getElem?_mapIdx, List.getElem?_mapIdx]
    cases hq : lay[n]? with
    | none => rfl
    | some z =>
      simp only [Option.map_some]
      rw [fw_c_n (fun j hj => by omega) (fun o ho => hok n o (by rw [hq, ho]))]
theorem fw_c_fld {adr : Nat → Nat} {cA : Nat → ClassId} {σ : Me} {k ci j : Nat} {x : Int} {fs : List (Nat × Nat)} {z : Nat × Nat} {v : Value} (hj : fs[j]? = some z) (hv : fw_f adr (u2 σ (64 * k + j) 0 x) k j z = v) : fw_c adr cA (u2 σ (64 * k + j) 0 x) k (.inl (ci, fs)) = .inr (ci, (fs.mapIdx (fw_f adr σ k)).set j v) := by
  simp only [fw_c]
  congr 2
  apply List.ext_getElem?
  intro n
  have hl := (List.getElem?_eq_some_iff.mp hj).1
  by_cases hn : n = j
  · subst hn
    rw [List.getElem?_set_self (by simpa using hl), List.getElem?_mapIdx, hj, Option.map_some, hv]
  · rw [List.getElem?_set_ne (Ne.symm hn), List.getElem?_mapIdx, List.getElem?_mapIdx]
    cases hq : fs[n]? with
    | none => rfl
    | some y =>
      simp only [Option.map_some]
      rw [fw_f_n (by omega)]
theorem fw_c_arr {adr : Nat → Nat} {cA : Nat → ClassId} {σ : Me} {k ty n i : Nat} {x : Int} (h1 : ty ≠ 1) : fw_c adr cA (u2 σ (64 * k) i x) k (.inr (ty, n)) = .inl (cA ty, n, .inl (upd (fun i => Int32.ofInt (σ (64 * k) i)) i (Int32.ofInt x))) := by
  have e : fw_a (u2 σ (64 * k) i x) k ty = .inl (fun j => Int32.ofInt (u2 σ (64 * k) i x (64 * k) j)) := by
    unfold fw_a
    split
    · exact absurd rfl h1
    · rfl
  simp only [fw_c, e]
  congr 4
  funext j
  by_cases hj : j = i
  · subst hj; simp [upd, u2]
  · simp [upd, u2, hj]
theorem fw_c_arL {adr : Nat → Nat} {cA : Nat → ClassId} {σ : Me} {k n i : Nat} {x : Int} : fw_c adr cA (u2 σ (64 * k) i x) k (.inr (1, n)) = .inl (cA 1, n, .inr (.inl (vp_updL (fun i => Int64.ofInt (σ (64 * k) i)) i (Int64.ofInt x)))) := by
  simp only [fw_c, fw_a]
  congr 5
  funext j
  by_cases hj : j = i
  · subst hj; simp [vp_updL, u2]
  · simp [vp_updL, u2, hj]
theorem fw_in {i : Int} {n k : Nat} (h : ixI i n = some k) : vp_in (Int32.ofInt i) n ∧ (Int32.ofInt i).toNatClampNeg = k := by
  unfold ixI at h
  split at h
  · rename_i hb
    cases h
    refine ⟨vp_in_iff.mpr hb, ?_⟩
    rfl
  · cases h
section FWE
variable {lay : List CD} {own : String} {cc : ByteArray} {nL d : Nat} {r : Option Nat} {T : FT} {b pc pc1 pc2 : Nat} {f g : EM}
/-! constants -/
theorem fe_iconst {n : Int} (h : decode cc pc = .ok (.iconst n, 1)) : fw_E (lay, own, cc, nL, d, r) T b pc (pc + 1) 0 (cE n) := by
  rintro ⟨p, l, e, R, s, m, args, below, meth, c, D, adr, cA, A, cells, slots, Q⟩ ⟨hx, hb, hml, hown, hts, hK, hA, hR⟩ ρ σ x σ' H locs ls st hL hM hst hf k
  cases hf
  exact lv_iconst hx hb h rfl (k H locs hM)
theorem fe_bipush {n : Int} (h : decode cc pc = .ok (.bipush n, 2)) (hv : (Int8.ofInt n).toInt32 = Int32.ofInt n := by decide +kernel) : fw_E (lay, own, cc, nL, d, r) T b pc (pc + 2) 0 (cE n) := by
  rintro ⟨p, l, e, R, s, m, args, below, meth, c, D, adr, cA, A, cells, slots, Q⟩ ⟨hx, hb, hml, hown, hts, hK, hA, hR⟩ ρ σ x σ' H locs ls st hL hM hst hf k
  cases hf
  exact lv_bipush hx hb h hv (k H locs hM)
theorem fe_sipush {n : Int} (h : decode cc pc = .ok (.sipush n, 3)) (hv : (Int16.ofInt n).toInt32 = Int32.ofInt n := by decide +kernel) : fw_E (lay, own, cc, nL, d, r) T b pc (pc + 3) 0 (cE n) := by
  rintro ⟨p, l, e, R, s, m, args, below, meth, c, D, adr, cA, A, cells, slots, Q⟩ ⟨hx, hb, hml, hown, hts, hK, hA, hR⟩ ρ σ x σ' H locs ls st hL hM hst hf k
  cases hf
  exact lv_sipush hx hb h hv (k H locs hM)
theorem fe_ldc {n : Int} {i : Nat} (h : decode cc pc = .ok (.ldc i, 2)) (hw : Cond.constant own i (Int32.ofInt n) ∈ lw_tb) : fw_E (lay, own, cc, nL, d, r) T b pc (pc + 2) 0 (cE n) := by
  rintro ⟨p, l, e, R, s, m, args, below, meth, c, D, adr, cA, A, cells, slots, Q⟩ ⟨hx, hb, hml, hown, hts, hK, hA, hR⟩ ρ σ x σ' H locs ls st hL hM hst hf k
  cases hf
  exact lv_ldc hx hb hown (hts _ hw) h (k H locs hM)
theorem fe_ldcw {n : Int} {i : Nat} (h : decode cc pc = .ok (.ldc_w i, 3)) (hw : Cond.constant own i (Int32.ofInt n) ∈ lw_tb) : fw_E (lay, own, cc, nL, d, r) T b pc (pc + 3) 0 (cE n) := by
  rintro ⟨p, l, e, R, s, m, args, below, meth, c, D, adr, cA, A, cells, slots, Q⟩ ⟨hx, hb, hml, hown, hts, hK, hA, hR⟩ ρ σ x σ' H locs ls st hL hM hst hf k
  cases hf
  exact lv_ldcw hx hb hown (hts _ hw) h (k H locs hM)
theorem fe_ldc2 {n : Int} {i : Nat} (h : decode cc pc = .ok (.ldc2_w i, 3)) (hw : Cond.constantLong own i (Int64.ofInt n) ∈ lw_tb) : fw_E (lay, own, cc, nL, d, r) T b pc (pc + 3) 1 (cE n) := by
  rintro ⟨p, l, e, R, s, m, args, below, meth, c, D, adr, cA, A, cells, slots, Q⟩ ⟨hx, hb, hml, hown, hts, hK, hA, hR⟩ ρ σ x σ' H locs ls st hL hM hst hf k
  cases hf
  exact lv_ldc2 hx hb hown (hts _ hw) h (k H locs hM)
theorem fe_lconst {n : Fin 2} (h : decode cc pc = .ok (.lconst n, 1)) : fw_E (lay, own, cc, nL, d, r) T b pc (pc + 1) 1 (cE (n : Nat)) := by
  rintro ⟨p, l, e, R, s, m, args, below, meth, c, D, adr, cA, A, cells, slots, Q⟩ ⟨hx, hb, hml, hown, hts, hK, hA, hR⟩ ρ σ x σ' H locs ls st hL hM hst hf k
  cases hf
  exact lv_lconst hx hb h rfl (k H locs hM)
/-! locals -/
theorem fw_at {adr : Nat → Nat} {ρ : Lo} {ls : Array Slot} {i t j : Nat} (hL : lv_has ls nL (T.map fun q => (q.1, fw_v adr q.2 (ρ q.1)))) (hj : T[j]? = some (i, t)) : ls[i]? = some (.val (fw_v adr t (ρ i))) := by
  refine lv_at hL j ?_
  rw [List.getElem?_map, hj]
  rfl
theorem fe_iload {i : Nat} (j : Nat) (hj : T[j]? = some (i, 0)) (h : decode cc pc = .ok (.iload i, 2)) : fw_E (lay, own, cc, nL, d, r) T b pc (pc + 2) 0 (vE i) := by
  rintro ⟨p, l, e, R, s, m, args, below, meth, c, D, adr, cA, A, cells, slots, Q⟩ ⟨hx, hb, hml, hown, hts, hK, hA, hR⟩ ρ σ x σ' H locs ls st hL hM hst hf k
  cases hf
  exact lv_iload hx hb h (fw_at hL hj) (k H locs hM)
theorem fe_iloadn {i : Nat} {n : Fin 4} (j : Nat) (hj : T[j]? = some (i, 0)) (h : decode cc pc = .ok (.iload_n n, 1)) (hi : (n : Nat) = i := by rfl) : fw_E (lay, own, cc, nL, d, r) T b pc (pc + 1) 0 (vE i) := by
  rintro ⟨p, l, e, R, s, m, args, below, meth, c, D, adr, cA, A, cells, slots, Q⟩ ⟨hx, hb, hml, hown, hts, hK, hA, hR⟩ ρ σ x σ' H locs ls st hL hM hst hf k
  cases hf
  exact lv_iload_n hx hb h hi (fw_at hL hj) (k H locs hM)
theorem fe_lload {i : Nat} (j : Nat) (hj : T[j]? = some (i, 1)) (h : decode cc pc = .ok (.lload i, 2)) : fw_E (lay, own, cc, nL, d, r) T b pc (pc + 2) 1 (vE i) := by
  rintro ⟨p, l, e, R, s, m, args, below, meth, c, D, adr, cA, A, cells, slots, Q⟩ ⟨hx, hb, hml, hown, hts, hK, hA, hR⟩ ρ σ x σ' H locs ls st hL hM hst hf k
  cases hf
  exact lv_lload hx hb h (fw_at hL hj) (k H locs hM)
theorem fe_lloadn {i : Nat} {n : Fin 4} (j : Nat) (hj : T[j]? = some (i, 1)) (h : decode cc pc = .ok (.lload_n n, 1)) (hi : (n : Nat) = i := by rfl) : fw_E (lay, own, cc, nL, d, r) T b pc (pc + 1) 1 (vE i) := by
  rintro ⟨p, l, e, R, s, m, args, below, meth, c, D, adr, cA, A, cells, slots, Q⟩ ⟨hx, hb, hml, hown, hts, hK, hA, hR⟩ ρ σ x σ' H locs ls st hL hM hst hf k
  cases hf
  exact lv_lload_n hx hb h hi (fw_at hL hj) (k H locs hM)
theorem fe_aload {i q : Nat} (j : Nat) (hj : T[j]? = some (i, q + 2)) (h : decode cc pc = .ok (.aload i, 2)) : fw_E (lay, own, cc, nL, d, r) T b pc (pc + 2) (q + 2) (cE 0) := by
  rintro ⟨p, l, e, R, s, m, args, below, meth, c, D, adr, cA, A, cells, slots, Q⟩ ⟨hx, hb, hml, hown, hts, hK, hA, hR⟩ ρ σ x σ' H locs ls st hL hM hst hf k
  cases hf
  exact lv_aload hx hb h (fw_at hL hj) (k H locs hM)
theorem fe_aloadn {i q : Nat} {n : Fin 4} (j : Nat) (hj : T[j]? = some (i, q + 2)) (h : decode cc pc = .ok (.aload_n n, 1)) (hi : (n : Nat) = i := by rfl) : fw_E (lay, own, cc, nL, d, r) T b pc (pc + 1) (q + 2) (cE 0) := by
  rintro ⟨p, l, e, R, s, m, args, below, meth, c, D, adr, cA, A, cells, slots, Q⟩ ⟨hx, hb, hml, hown, hts, hK, hA, hR⟩ ρ σ x σ' H locs ls st hL hM hst hf k
  cases hf
  exact lv_aload_n hx hb h hi (fw_at hL hj) (k H locs hM)
end FWE
end
section
section FWO
variable {lay : List CD} {own : String} {cc : ByteArray} {nL d : Nat} {r : Option Nat} {T : FT} {b pc pc1 pc2 : Nat} {f g : EM}
theorem bind_some {α β : Type} {a : Option α} {k : α → Option β} {y : β} (h : a.bind k = some y) : ∃ x, a = some x ∧ k x = some y := by
  cases a with
  | none => cases h
  | some x => exact ⟨x, rfl, h⟩
/-- the words of a field: of class ci, the j-th, by the number 'index' of own's constants -/
def fw_fl (own : String) (index ci j : Nat) : Prop := ∃ (C : String) (Tt : u_T) (N : Nat), vwCl[ci]? = some (C, Tt, N) ∧ (∀ w ∈ u_ws C Tt N, w ∈ lw_tb) ∧ j < N ∧ Cond.fieldLink own index (Tt j).1 (Tt j).2.1 (Tt j).2.2.1 ∈ lw_tb
/-- and so that it may be set -/
def fw_fp (own : String) (index ci j : Nat) (ty : FieldType) : Prop := ∃ (C : String) (Tt : u_T) (N : Nat) (t0 : Nat → FieldType), vwCl[ci]? = some (C, Tt, N) ∧ (∀ w ∈ u_ws C Tt N, w ∈ lw_tb) ∧ j < N ∧ Cond.fieldLink own index (Tt j).1 (Tt j).2.1 (Tt j).2.2.1 ∈ lw_tb ∧ (∀ k, k < N → parseFieldDescriptor (Tt k).2.2.1 = some (t0 k)) ∧ (∀ a, a < N → ∀ b, b < N → a ≠ b → (Tt a).2.1 ≠ (Tt b).2.1) ∧ (Tt j).2.2.2 = false ∧ t0 j = ty
theorem fw_fv {adr : Nat → Nat} {σ : Me} {k j : Nat} {fs : List (Nat × Nat)} {z : Nat × Nat} (hj : fs[j]? = some z) : (fs.mapIdx (fw_f adr σ k))[j]? = some (fw_f adr σ k j z) := by
  rw [List.getElem?_mapIdx, hj]
  rfl
theorem fe_getI {k ci j q index : Nat} {fs : List (Nat × Nat)} (a : fw_E (lay, own, cc, nL, d, r) T b pc pc1 (k + 2) f) (hl : fw_fl own index ci j) (hk : lay[k]? = some (.inl (ci, fs))) (hj : fs[j]? = some (1, q)) (h : decode cc pc1 = .ok (.getfield index, 3)) : fw_E (lay, own, cc, nL, d, r) T b pc (pc1 + 3) 0 (thE f (gE (64 * k + j))) := by
  rintro ⟨p, l, e, R, s, m, args, below, meth, c, D, adr, cA, A, cells, slots, Q⟩ ⟨hx, hb, hml, hown, hts, hK, hA, hR⟩ ρ σ x σ' H locs ls st hL hM hst hf k_
  have X : fw_X (lay, own, cc, nL, d, r) (p, l, e, R, s, m, args, below, meth, c, D, adr, cA, A, cells, slots, Q) := ⟨hx, hb, hml, hown, hts, hK, hA, hR⟩
  obtain ⟨y, e1, e2⟩ := bind_some hf
  obtain ⟨C, Tt, N, hc, hin, hjN, hw⟩ := hl
  cases e2
  refine a _ X ρ σ y.1 y.2 H locs ls st hL hM hst e1 (fun H1 l1 hM1 => ?_)
  exact va_get hx hb hts hin hown hK hM1.1 k (fw_w_at hk) hc j hjN (hts _ hw) (fun _ z => z) (fw_fv hj) h (k_ H1 l1 hM1)
theorem fe_getL {k ci j q index : Nat} {fs : List (Nat × Nat)} (a : fw_E (lay, own, cc, nL, d, r) T b pc pc1 (k + 2) f) (hl : fw_fl own index ci j) (hk : lay[k]? = some (.inl (ci, fs))) (hj : fs[j]? = some (2, q)) (h : decode cc pc1 = .ok (.getfield index, 3)) : fw_E (lay, own, cc, nL, d, r) T b pc (pc1 + 3) 1 (thE f (gE (64 * k + j))) := by
  rintro ⟨p, l, e, R, s, m, args, below, meth, c, D, adr, cA, A, cells, slots, Q⟩ ⟨hx, hb, hml, hown, hts, hK, hA, hR⟩ ρ σ x σ' H locs ls st hL hM hst hf k_
  have X : fw_X (lay, own, cc, nL, d, r) (p, l, e, R, s, m, args, below, meth, c, D, adr, cA, A, cells, slots, Q) := ⟨hx, hb, hml, hown, hts, hK, hA, hR⟩
  obtain ⟨y, e1, e2⟩ := bind_some hf
  obtain ⟨C, Tt, N, hc, hin, hjN, hw⟩ := hl
  cases e2
  refine a _ X ρ σ y.1 y.2 H locs ls st hL hM hst e1 (fun H1 l1 hM1 => ?_)
  exact va_get hx hb hts hin hown hK hM1.1 k (fw_w_at hk) hc j hjN (hts _ hw) (fun _ z => z) (fw_fv hj) h (k_ H1 l1 hM1)
theorem fe_getR {k ci j q index : Nat} {fs : List (Nat × Nat)} (a : fw_E (lay, own, cc, nL, d, r) T b pc pc1 (k + 2) f) (hl : fw_fl own index ci j) (hk : lay[k]? = some (.inl (ci, fs))) (hj : fs[j]? = some (0, q)) (h : decode cc pc1 = .ok (.getfield index, 3)) : fw_E (lay, own, cc, nL, d, r) T b pc (pc1 + 3) (q + 2) (thE f (cE 0)) := by
  rintro ⟨p, l, e, R, s, m, args, below, meth, c, D, adr, cA, A, cells, slots, Q⟩ ⟨hx, hb, hml, hown, hts, hK, hA, hR⟩ ρ σ x σ' H locs ls st hL hM hst hf k_
  have X : fw_X (lay, own, cc, nL, d, r) (p, l, e, R, s, m, args, below, meth, c, D, adr, cA, A, cells, slots, Q) := ⟨hx, hb, hml, hown, hts, hK, hA, hR⟩
  obtain ⟨y, e1, e2⟩ := bind_some hf
  obtain ⟨C, Tt, N, hc, hin, hjN, hw⟩ := hl
  cases e2
  refine a _ X ρ σ y.1 y.2 H locs ls st hL hM hst e1 (fun H1 l1 hM1 => ?_)
  exact va_get hx hb hts hin hown hK hM1.1 k (fw_w_at hk) hc j hjN (hts _ hw) (fun _ z => z) (fw_fv hj) h (k_ H1 l1 hM1)
theorem fe_iald {k n : Nat} (a : fw_E (lay, own, cc, nL, d, r) T b pc pc1 (k + 2) f) (i : fw_E (lay, own, cc, nL, d, r) T (b + 1) pc1 pc2 0 g) (hk : lay[k]? = some (.inr (0, n))) (h : decode cc pc2 = .ok (.iaload, 1)) : fw_E (lay, own, cc, nL, d, r) T b pc (pc2 + 1) 0 (ldE (64 * k) n f g) := by
  rintro ⟨p, l, e, R, s, m, args, below, meth, c, D, adr, cA, A, cells, slots, Q⟩ ⟨hx, hb, hml, hown, hts, hK, hA, hR⟩ ρ σ x σ' H locs ls st hL hM hst hf k_
  have X : fw_X (lay, own, cc, nL, d, r) (p, l, e, R, s, m, args, below, meth, c, D, adr, cA, A, cells, slots, Q) := ⟨hx, hb, hml, hown, hts, hK, hA, hR⟩
  obtain ⟨y, e1, e2⟩ := bind_some hf
  obtain ⟨z, e3, e4⟩ := bind_some e2
  obtain ⟨u, e5, e6⟩ := bind_some e4
  cases e6
  obtain ⟨h1, h2⟩ := fw_in e5
  refine a _ X ρ σ y.1 y.2 H locs ls st hL hM hst e1 (fun H1 l1 hM1 => ?_)
  refine i _ X ρ y.2 z.1 z.2 H1 l1 ls _ hL hM1 (by simp only [List.map_cons, List.sum_cons]; have : (fw_val (p, l, e, R, s, m, args, below, meth, c, D, adr, cA, A, cells, slots, Q) (k + 2) y.1).category = 1 := rfl; omega) e3 (fun H2 l2 hM2 => ?_)
  subst h2
  exact va_iald hx hb hK hM2.1 k 0 (fw_w_at hk) rfl h1 h (k_ H2 l2 hM2)
theorem fe_lald {k n : Nat} (a : fw_E (lay, own, cc, nL, d, r) T b pc pc1 (k + 2) f) (i : fw_E (lay, own, cc, nL, d, r) T (b + 1) pc1 pc2 0 g) (hk : lay[k]? = some (.inr (1, n))) (h : decode cc pc2 = .ok (.laload, 1)) : fw_E (lay, own, cc, nL, d, r) T b pc (pc2 + 1) 1 (ldE (64 * k) n f g) := by
  rintro ⟨p, l, e, R, s, m, args, below, meth, c, D, adr, cA, A, cells, slots, Q⟩ ⟨hx, hb, hml, hown, hts, hK, hA, hR⟩ ρ σ x σ' H locs ls st hL hM hst hf k_
  have X : fw_X (lay, own, cc, nL, d, r) (p, l, e, R, s, m, args, below, meth, c, D, adr, cA, A, cells, slots, Q) := ⟨hx, hb, hml, hown, hts, hK, hA, hR⟩
  obtain ⟨y, e1, e2⟩ := bind_some hf
  obtain ⟨z, e3, e4⟩ := bind_some e2
  obtain ⟨u, e5, e6⟩ := bind_some e4
  cases e6
  obtain ⟨h1, h2⟩ := fw_in e5
  refine a _ X ρ σ y.1 y.2 H locs ls st hL hM hst e1 (fun H1 l1 hM1 => ?_)
  refine i _ X ρ y.2 z.1 z.2 H1 l1 ls _ hL hM1 (by simp only [List.map_cons, List.sum_cons]; have : (fw_val (p, l, e, R, s, m, args, below, meth, c, D, adr, cA, A, cells, slots, Q) (k + 2) y.1).category = 1 := rfl; omega) e3 (fun H2 l2 hM2 => ?_)
  subst h2
  exact va_lald hx hb hK hM2.1 k 1 (fw_w_at hk) rfl h1 h (k_ H2 l2 hM2)
theorem fe_bald {k n : Nat} (a : fw_E (lay, own, cc, nL, d, r) T b pc pc1 (k + 2) f) (i : fw_E (lay, own, cc, nL, d, r) T (b + 1) pc1 pc2 0 g) (hk : lay[k]? = some (.inr (2, n))) (h : decode cc pc2 = .ok (.baload, 1)) : fw_E (lay, own, cc, nL, d, r) T b pc (pc2 + 1) 0 (ldE (64 * k) n f g) := by
  rintro ⟨p, l, e, R, s, m, args, below, meth, c, D, adr, cA, A, cells, slots, Q⟩ ⟨hx, hb, hml, hown, hts, hK, hA, hR⟩ ρ σ x σ' H locs ls st hL hM hst hf k_
  have X : fw_X (lay, own, cc, nL, d, r) (p, l, e, R, s, m, args, below, meth, c, D, adr, cA, A, cells, slots, Q) := ⟨hx, hb, hml, hown, hts, hK, hA, hR⟩
  obtain ⟨y, e1, e2⟩ := bind_some hf
  obtain ⟨z, e3, e4⟩ := bind_some e2
  obtain ⟨u, e5, e6⟩ := bind_some e4
  cases e6
  obtain ⟨h1, h2⟩ := fw_in e5
  refine a _ X ρ σ y.1 y.2 H locs ls st hL hM hst e1 (fun H1 l1 hM1 => ?_)
  refine i _ X ρ y.2 z.1 z.2 H1 l1 ls _ hL hM1 (by simp only [List.map_cons, List.sum_cons]; have : (fw_val (p, l, e, R, s, m, args, below, meth, c, D, adr, cA, A, cells, slots, Q) (k + 2) y.1).category = 1 := rfl; omega) e3 (fun H2 l2 hM2 => ?_)
  subst h2
  exact va_bald hx hb hK hM2.1 k 2 (fw_w_at hk) rfl h1 h (k_ H2 l2 hM2)
theorem fe_zald {k n : Nat} (a : fw_E (lay, own, cc, nL, d, r) T b pc pc1 (k + 2) f) (i : fw_E (lay, own, cc, nL, d, r) T (b + 1) pc1 pc2 0 g) (hk : lay[k]? = some (.inr (3, n))) (h : decode cc pc2 = .ok (.baload, 1)) : fw_E (lay, own, cc, nL, d, r) T b pc (pc2 + 1) 0 (ldE (64 * k) n f g) := by
  rintro ⟨p, l, e, R, s, m, args, below, meth, c, D, adr, cA, A, cells, slots, Q⟩ ⟨hx, hb, hml, hown, hts, hK, hA, hR⟩ ρ σ x σ' H locs ls st hL hM hst hf k_
  have X : fw_X (lay, own, cc, nL, d, r) (p, l, e, R, s, m, args, below, meth, c, D, adr, cA, A, cells, slots, Q) := ⟨hx, hb, hml, hown, hts, hK, hA, hR⟩
  obtain ⟨y, e1, e2⟩ := bind_some hf
  obtain ⟨z, e3, e4⟩ := bind_some e2
  obtain ⟨u, e5, e6⟩ := bind_some e4
  cases e6
  obtain ⟨h1, h2⟩ := fw_in e5
  refine a _ X ρ σ y.1 y.2 H locs ls st hL hM hst e1 (fun H1 l1 hM1 => ?_)
  refine i _ X ρ y.2 z.1 z.2 H1 l1 ls _ hL hM1 (by simp only [List.map_cons, List.sum_cons]; have : (fw_val (p, l, e, R, s, m, args, below, meth, c, D, adr, cA, A, cells, slots, Q) (k + 2) y.1).category = 1 := rfl; omega) e3 (fun H2 l2 hM2 => ?_)
  subst h2
  exact va_zald hx hb hK hM2.1 k 3 (fw_w_at hk) rfl h1 h (k_ H2 l2 hM2)
def addI (a b : Int) : Int := a + b
def subI (a b : Int) : Int := a - b
def mulI (a b : Int) : Int := a * b
def andI (a b : Int) : Int := (Int32.ofInt a &&& Int32.ofInt b).toInt
def iorI (a b : Int) : Int := (Int32.ofInt a ||| Int32.ofInt b).toInt
def xorI (a b : Int) : Int := (Int32.ofInt a ^^^ Int32.ofInt b).toInt
def shlI (a b : Int) : Int := (Int32.ofInt a <<< (Int32.ofInt b &&& 31)).toInt
def shrI (a b : Int) : Int := (Int32.ofInt a >>> (Int32.ofInt b &&& 31)).toInt
def usrI (a b : Int) : Int := ((Int32.ofInt a).toUInt32 >>> ((Int32.ofInt b).toUInt32 &&& Int32.toUInt32 31)).toInt32.toInt
def shlL (a b : Int) : Int := (Int64.ofInt a <<< ((Int32.ofInt b).toInt64 &&& 63)).toInt
def iorL (a b : Int) : Int := (Int64.ofInt a ||| Int64.ofInt b).toInt
def minI (a b : Int) : Int := if w32 b < w32 a then b else a
def maxI (a b : Int) : Int := if w32 a < w32 b then b else a
def i2lI (a : Int) : Int := w32 a
def l2iI (a : Int) : Int := a
def i2bI (a : Int) : Int := (Int32.ofInt a).toInt8.toInt32.toInt
theorem fe_iadd (a : fw_E (lay, own, cc, nL, d, r) T b pc pc1 0 f) (a2 : fw_E (lay, own, cc, nL, d, r) T (b + 1) pc1 pc2 0 g) (h : decode cc pc2 = .ok (.iadd, 1)) : fw_E (lay, own, cc, nL, d, r) T b pc (pc2 + 1) 0 (o2 addI f g) := by
  rintro ⟨p, l, e, R, s, m, args, below, meth, c, D, adr, cA, A, cells, slots, Q⟩ ⟨hx, hb, hml, hown, hts, hK, hA, hR⟩ ρ σ x σ' H locs ls st hL hM hst hf k
  have X : fw_X (lay, own, cc, nL, d, r) (p, l, e, R, s, m, args, below, meth, c, D, adr, cA, A, cells, slots, Q) := ⟨hx, hb, hml, hown, hts, hK, hA, hR⟩
  obtain ⟨y, e1, e2⟩ := bind_some hf
  obtain ⟨z, e3, e4⟩ := bind_some e2
  cases e4
  refine a _ X ρ σ y.1 y.2 H locs ls st hL hM hst e1 (fun H1 l1 hM1 => ?_)
  refine a2 _ X ρ y.2 z.1 z.2 H1 l1 ls _ hL hM1 (by simp only [List.map_cons, List.sum_cons]; have : (fw_val (p, l, e, R, s, m, args, below, meth, c, D, adr, cA, A, cells, slots, Q) 0 y.1).category = 1 := rfl; omega) e3 (fun H2 l2 hM2 => ?_)
  have kk := k H2 l2 hM2
  refine lv_iadd hx hb h ?_
  rw [← Int32.ofInt_add]
  exact kk
theorem fe_isub (a : fw_E (lay, own, cc, nL, d, r) T b pc pc1 0 f) (a2 : fw_E (lay, own, cc, nL, d, r) T (b + 1) pc1 pc2 0 g) (h : decode cc pc2 = .ok (.isub, 1)) : fw_E (lay, own, cc, nL, d, r) T b pc (pc2 + 1) 0 (o2 subI f g) := by
  rintro ⟨p, l, e, R, s, m, args, below, meth, c, D, adr, cA, A, cells, slots, Q⟩ ⟨hx, hb, hml, hown, hts, hK, hA, hR⟩ ρ σ x σ' H locs ls st hL hM hst hf k
  have X : fw_X (lay, own, cc, nL, d, r) (p, l, e, R, s, m, args, below, meth, c, D, adr, cA, A, cells, slots, Q) := ⟨hx, hb, hml, hown, hts, hK, hA, hR⟩
  obtain ⟨y, e1, e2⟩ := bind_some hf
  obtain ⟨z, e3, e4⟩ := bind_some e2
  cases e4
  refine a _ X ρ σ y.1 y.2 H locs ls st hL hM hst e1 (fun H1 l1 hM1 => ?_)
  refine a2 _ X ρ y.2 z.1 z.2 H1 l1 ls _ hL hM1 (by simp only [List.map_cons, List.sum_cons]; have : (fw_val (p, l, e, R, s, m, args, below, meth, c, D, adr, cA, A, cells, slots, Q) 0 y.1).category = 1 := rfl; omega) e3 (fun H2 l2 hM2 => ?_)
  have kk := k H2 l2 hM2
  refine lv_isub hx hb h ?_
  rw [← Int32.ofInt_sub]
  exact kk
theorem fe_imul (a : fw_E (lay, own, cc, nL, d, r) T b pc pc1 0 f) (a2 : fw_E (lay, own, cc, nL, d, r) T (b + 1) pc1 pc2 0 g) (h : decode cc pc2 = .ok (.imul, 1)) : fw_E (lay, own, cc, nL, d, r) T b pc (pc2 + 1) 0 (o2 mulI f g) := by
  rintro ⟨p, l, e, R, s, m, args, below, meth, c, D, adr, cA, A, cells, slots, Q⟩ ⟨hx, hb, hml, hown, hts, hK, hA, hR⟩ ρ σ x σ' H locs ls st hL hM hst hf k
  have X : fw_X (lay, own, cc, nL, d, r) (p, l, e, R, s, m, args, below, meth, c, D, adr, cA, A, cells, slots, Q) := ⟨hx, hb, hml, hown, hts, hK, hA, hR⟩
  obtain ⟨y, e1, e2⟩ := bind_some hf
  obtain ⟨z, e3, e4⟩ := bind_some e2
  cases e4
  refine a _ X ρ σ y.1 y.2 H locs ls st hL hM hst e1 (fun H1 l1 hM1 => ?_)
  refine a2 _ X ρ y.2 z.1 z.2 H1 l1 ls _ hL hM1 (by simp only [List.map_cons, List.sum_cons]; have : (fw_val (p, l, e, R, s, m, args, below, meth, c, D, adr, cA, A, cells, slots, Q) 0 y.1).category = 1 := rfl; omega) e3 (fun H2 l2 hM2 => ?_)
  have kk := k H2 l2 hM2
  refine lv_imul hx hb h ?_
  rw [← Int32.ofInt_mul]
  exact kk
theorem fe_iand (a : fw_E (lay, own, cc, nL, d, r) T b pc pc1 0 f) (a2 : fw_E (lay, own, cc, nL, d, r) T (b + 1) pc1 pc2 0 g) (h : decode cc pc2 = .ok (.iand, 1)) : fw_E (lay, own, cc, nL, d, r) T b pc (pc2 + 1) 0 (o2 andI f g) := by
  rintro ⟨p, l, e, R, s, m, args, below, meth, c, D, adr, cA, A, cells, slots, Q⟩ ⟨hx, hb, hml, hown, hts, hK, hA, hR⟩ ρ σ x σ' H locs ls st hL hM hst hf k
  have X : fw_X (lay, own, cc, nL, d, r) (p, l, e, R, s, m, args, below, meth, c, D, adr, cA, A, cells, slots, Q) := ⟨hx, hb, hml, hown, hts, hK, hA, hR⟩
  obtain ⟨y, e1, e2⟩ := bind_some hf
  obtain ⟨z, e3, e4⟩ := bind_some e2
  cases e4
  refine a _ X ρ σ y.1 y.2 H locs ls st hL hM hst e1 (fun H1 l1 hM1 => ?_)
  refine a2 _ X ρ y.2 z.1 z.2 H1 l1 ls _ hL hM1 (by simp only [List.map_cons, List.sum_cons]; have : (fw_val (p, l, e, R, s, m, args, below, meth, c, D, adr, cA, A, cells, slots, Q) 0 y.1).category = 1 := rfl; omega) e3 (fun H2 l2 hM2 => ?_)
  have kk := k H2 l2 hM2
  refine lv_iand hx hb h ?_
  have e := kk
  simp only [fw_val, fw_v, fw_W, andI, Int32.ofInt_toInt] at e
  exact e
theorem fe_ior (a : fw_E (lay, own, cc, nL, d, r) T b pc pc1 0 f) (a2 : fw_E (lay, own, cc, nL, d, r) T (b + 1) pc1 pc2 0 g) (h : decode cc pc2 = .ok (.ior, 1)) : fw_E (lay, own, cc, nL, d, r) T b pc (pc2 + 1) 0 (o2 iorI f g) := by
  rintro ⟨p, l, e, R, s, m, args, below, meth, c, D, adr, cA, A, cells, slots, Q⟩ ⟨hx, hb, hml, hown, hts, hK, hA, hR⟩ ρ σ x σ' H locs ls st hL hM hst hf k
  have X : fw_X (lay, own, cc, nL, d, r) (p, l, e, R, s, m, args, below, meth, c, D, adr, cA, A, cells, slots, Q) := ⟨hx, hb, hml, hown, hts, hK, hA, hR⟩
  obtain ⟨y, e1, e2⟩ := bind_some hf
  obtain ⟨z, e3, e4⟩ := bind_some e2
  cases e4
  refine a _ X ρ σ y.1 y.2 H locs ls st hL hM hst e1 (fun H1 l1 hM1 => ?_)
  refine a2 _ X ρ y.2 z.1 z.2 H1 l1 ls _ hL hM1 (by simp only [List.map_cons, List.sum_cons]; have : (fw_val (p, l, e, R, s, m, args, below, meth, c, D, adr, cA, A, cells, slots, Q) 0 y.1).category = 1 := rfl; omega) e3 (fun H2 l2 hM2 => ?_)
  have kk := k H2 l2 hM2
  refine lv_ior hx hb h ?_
  have e := kk
  simp only [fw_val, fw_v, fw_W, iorI, Int32.ofInt_toInt] at e
  exact e
theorem fe_ixor (a : fw_E (lay, own, cc, nL, d, r) T b pc pc1 0 f) (a2 : fw_E (lay, own, cc, nL, d, r) T (b + 1) pc1 pc2 0 g) (h : decode cc pc2 = .ok (.ixor, 1)) : fw_E (lay, own, cc, nL, d, r) T b pc (pc2 + 1) 0 (o2 xorI f g) := by
  rintro ⟨p, l, e, R, s, m, args, below, meth, c, D, adr, cA, A, cells, slots, Q⟩ ⟨hx, hb, hml, hown, hts, hK, hA, hR⟩ ρ σ x σ' H locs ls st hL hM hst hf k
  have X : fw_X (lay, own, cc, nL, d, r) (p, l, e, R, s, m, args, below, meth, c, D, adr, cA, A, cells, slots, Q) := ⟨hx, hb, hml, hown, hts, hK, hA, hR⟩
  obtain ⟨y, e1, e2⟩ := bind_some hf
  obtain ⟨z, e3, e4⟩ := bind_some e2
  cases e4
  refine a _ X ρ σ y.1 y.2 H locs ls st hL hM hst e1 (fun H1 l1 hM1 => ?_)
  refine a2 _ X ρ y.2 z.1 z.2 H1 l1 ls _ hL hM1 (by simp only [List.map_cons, List.sum_cons]; have : (fw_val (p, l, e, R, s, m, args, below, meth, c, D, adr, cA, A, cells, slots, Q) 0 y.1).category = 1 := rfl; omega) e3 (fun H2 l2 hM2 => ?_)
  have kk := k H2 l2 hM2
  refine lv_ixor hx hb h ?_
  have e := kk
  simp only [fw_val, fw_v, fw_W, xorI, Int32.ofInt_toInt] at e
  exact e
theorem fe_ishl (a : fw_E (lay, own, cc, nL, d, r) T b pc pc1 0 f) (a2 : fw_E (lay, own, cc, nL, d, r) T (b + 1) pc1 pc2 0 g) (h : decode cc pc2 = .ok (.ishl, 1)) : fw_E (lay, own, cc, nL, d, r) T b pc (pc2 + 1) 0 (o2 shlI f g) := by
  rintro ⟨p, l, e, R, s, m, args, below, meth, c, D, adr, cA, A, cells, slots, Q⟩ ⟨hx, hb, hml, hown, hts, hK, hA, hR⟩ ρ σ x σ' H locs ls st hL hM hst hf k
  have X : fw_X (lay, own, cc, nL, d, r) (p, l, e, R, s, m, args, below, meth, c, D, adr, cA, A, cells, slots, Q) := ⟨hx, hb, hml, hown, hts, hK, hA, hR⟩
  obtain ⟨y, e1, e2⟩ := bind_some hf
  obtain ⟨z, e3, e4⟩ := bind_some e2
  cases e4
  refine a _ X ρ σ y.1 y.2 H locs ls st hL hM hst e1 (fun H1 l1 hM1 => ?_)
  refine a2 _ X ρ y.2 z.1 z.2 H1 l1 ls _ hL hM1 (by simp only [List.map_cons, List.sum_cons]; have : (fw_val (p, l, e, R, s, m, args, below, meth, c, D, adr, cA, A, cells, slots, Q) 0 y.1).category = 1 := rfl; omega) e3 (fun H2 l2 hM2 => ?_)
  have kk := k H2 l2 hM2
  refine lv_ishl hx hb h ?_
  have e := kk
  simp only [fw_val, fw_v, fw_W, shlI, Int32.ofInt_toInt] at e
  exact e
theorem fe_ishr (a : fw_E (lay, own, cc, nL, d, r) T b pc pc1 0 f) (a2 : fw_E (lay, own, cc, nL, d, r) T (b + 1) pc1 pc2 0 g) (h : decode cc pc2 = .ok (.ishr, 1)) : fw_E (lay, own, cc, nL, d, r) T b pc (pc2 + 1) 0 (o2 shrI f g) := by
  rintro ⟨p, l, e, R, s, m, args, below, meth, c, D, adr, cA, A, cells, slots, Q⟩ ⟨hx, hb, hml, hown, hts, hK, hA, hR⟩ ρ σ x σ' H locs ls st hL hM hst hf k
  have X : fw_X (lay, own, cc, nL, d, r) (p, l, e, R, s, m, args, below, meth, c, D, adr, cA, A, cells, slots, Q) := ⟨hx, hb, hml, hown, hts, hK, hA, hR⟩
  obtain ⟨y, e1, e2⟩ := bind_some hf
  obtain ⟨z, e3, e4⟩ := bind_some e2
  cases e4
  refine a _ X ρ σ y.1 y.2 H locs ls st hL hM hst e1 (fun H1 l1 hM1 => ?_)
  refine a2 _ X ρ y.2 z.1 z.2 H1 l1 ls _ hL hM1 (by simp only [List.map_cons, List.sum_cons]; have : (fw_val (p, l, e, R, s, m, args, below, meth, c, D, adr, cA, A, cells, slots, Q) 0 y.1).category = 1 := rfl; omega) e3 (fun H2 l2 hM2 => ?_)
  have kk := k H2 l2 hM2
  refine lv_ishr hx hb h ?_
  have e := kk
  simp only [fw_val, fw_v, fw_W, shrI, Int32.ofInt_toInt] at e
  exact e
theorem fe_iushr (a : fw_E (lay, own, cc, nL, d, r) T b pc pc1 0 f) (a2 : fw_E (lay, own, cc, nL, d, r) T (b + 1) pc1 pc2 0 g) (h : decode cc pc2 = .ok (.iushr, 1)) : fw_E (lay, own, cc, nL, d, r) T b pc (pc2 + 1) 0 (o2 usrI f g) := by
  rintro ⟨p, l, e, R, s, m, args, below, meth, c, D, adr, cA, A, cells, slots, Q⟩ ⟨hx, hb, hml, hown, hts, hK, hA, hR⟩ ρ σ x σ' H locs ls st hL hM hst hf k
  have X : fw_X (lay, own, cc, nL, d, r) (p, l, e, R, s, m, args, below, meth, c, D, adr, cA, A, cells, slots, Q) := ⟨hx, hb, hml, hown, hts, hK, hA, hR⟩
  obtain ⟨y, e1, e2⟩ := bind_some hf
  obtain ⟨z, e3, e4⟩ := bind_some e2
  cases e4
  refine a _ X ρ σ y.1 y.2 H locs ls st hL hM hst e1 (fun H1 l1 hM1 => ?_)
  refine a2 _ X ρ y.2 z.1 z.2 H1 l1 ls _ hL hM1 (by simp only [List.map_cons, List.sum_cons]; have : (fw_val (p, l, e, R, s, m, args, below, meth, c, D, adr, cA, A, cells, slots, Q) 0 y.1).category = 1 := rfl; omega) e3 (fun H2 l2 hM2 => ?_)
  have kk := k H2 l2 hM2
  refine lv_iushr hx hb h rfl ?_
  have e := kk
  simp only [fw_val, fw_v, fw_W, usrI, Int32.ofInt_toInt] at e
  exact e
theorem fe_ladd (a : fw_E (lay, own, cc, nL, d, r) T b pc pc1 1 f) (a2 : fw_E (lay, own, cc, nL, d, r) T (b + 2) pc1 pc2 1 g) (h : decode cc pc2 = .ok (.ladd, 1)) : fw_E (lay, own, cc, nL, d, r) T b pc (pc2 + 1) 1 (o2 addI f g) := by
  rintro ⟨p, l, e, R, s, m, args, below, meth, c, D, adr, cA, A, cells, slots, Q⟩ ⟨hx, hb, hml, hown, hts, hK, hA, hR⟩ ρ σ x σ' H locs ls st hL hM hst hf k
  have X : fw_X (lay, own, cc, nL, d, r) (p, l, e, R, s, m, args, below, meth, c, D, adr, cA, A, cells, slots, Q) := ⟨hx, hb, hml, hown, hts, hK, hA, hR⟩
  obtain ⟨y, e1, e2⟩ := bind_some hf
  obtain ⟨z, e3, e4⟩ := bind_some e2
  cases e4
  refine a _ X ρ σ y.1 y.2 H locs ls st hL hM hst e1 (fun H1 l1 hM1 => ?_)
  refine a2 _ X ρ y.2 z.1 z.2 H1 l1 ls _ hL hM1 (by simp only [List.map_cons, List.sum_cons]; have : (fw_val (p, l, e, R, s, m, args, below, meth, c, D, adr, cA, A, cells, slots, Q) 1 y.1).category = 2 := rfl; omega) e3 (fun H2 l2 hM2 => ?_)
  have kk := k H2 l2 hM2
  refine lv_ladd hx hb h ?_
  rw [← Int64.ofInt_add]
  exact kk
theorem fe_lsub (a : fw_E (lay, own, cc, nL, d, r) T b pc pc1 1 f) (a2 : fw_E (lay, own, cc, nL, d, r) T (b + 2) pc1 pc2 1 g) (h : decode cc pc2 = .ok (.lsub, 1)) : fw_E (lay, own, cc, nL, d, r) T b pc (pc2 + 1) 1 (o2 subI f g) := by
  rintro ⟨p, l, e, R, s, m, args, below, meth, c, D, adr, cA, A, cells, slots, Q⟩ ⟨hx, hb, hml, hown, hts, hK, hA, hR⟩ ρ σ x σ' H locs ls st hL hM hst hf k
  have X : fw_X (lay, own, cc, nL, d, r) (p, l, e, R, s, m, args, below, meth, c, D, adr, cA, A, cells, slots, Q) := ⟨hx, hb, hml, hown, hts, hK, hA, hR⟩
  obtain ⟨y, e1, e2⟩ := bind_some hf
  obtain ⟨z, e3, e4⟩ := bind_some e2
  cases e4
  refine a _ X ρ σ y.1 y.2 H locs ls st hL hM hst e1 (fun H1 l1 hM1 => ?_)
  refine a2 _ X ρ y.2 z.1 z.2 H1 l1 ls _ hL hM1 (by simp only [List.map_cons, List.sum_cons]; have : (fw_val (p, l, e, R, s, m, args, below, meth, c, D, adr, cA, A, cells, slots, Q) 1 y.1).category = 2 := rfl; omega) e3 (fun H2 l2 hM2 => ?_)
  have kk := k H2 l2 hM2
  refine lv_lsub hx hb h ?_
  rw [← Int64.ofInt_sub]
  exact kk
theorem fe_lmul (a : fw_E (lay, own, cc, nL, d, r) T b pc pc1 1 f) (a2 : fw_E (lay, own, cc, nL, d, r) T (b + 2) pc1 pc2 1 g) (h : decode cc pc2 = .ok (.lmul, 1)) : fw_E (lay, own, cc, nL, d, r) T b pc (pc2 + 1) 1 (o2 mulI f g) := by
  rintro ⟨p, l, e, R, s, m, args, below, meth, c, D, adr, cA, A, cells, slots, Q⟩ ⟨hx, hb, hml, hown, hts, hK, hA, hR⟩ ρ σ x σ' H locs ls st hL hM hst hf k
  have X : fw_X (lay, own, cc, nL, d, r) (p, l, e, R, s, m, args, below, meth, c, D, adr, cA, A, cells, slots, Q) := ⟨hx, hb, hml, hown, hts, hK, hA, hR⟩
  obtain ⟨y, e1, e2⟩ := bind_some hf
  obtain ⟨z, e3, e4⟩ := bind_some e2
  cases e4
  refine a _ X ρ σ y.1 y.2 H locs ls st hL hM hst e1 (fun H1 l1 hM1 => ?_)
  refine a2 _ X ρ y.2 z.1 z.2 H1 l1 ls _ hL hM1 (by simp only [List.map_cons, List.sum_cons]; have : (fw_val (p, l, e, R, s, m, args, below, meth, c, D, adr, cA, A, cells, slots, Q) 1 y.1).category = 2 := rfl; omega) e3 (fun H2 l2 hM2 => ?_)
  have kk := k H2 l2 hM2
  refine lv_lmul hx hb h ?_
  rw [← Int64.ofInt_mul]
  exact kk
theorem fe_lor (a : fw_E (lay, own, cc, nL, d, r) T b pc pc1 1 f) (a2 : fw_E (lay, own, cc, nL, d, r) T (b + 2) pc1 pc2 1 g) (h : decode cc pc2 = .ok (.lor, 1)) : fw_E (lay, own, cc, nL, d, r) T b pc (pc2 + 1) 1 (o2 iorL f g) := by
  rintro ⟨p, l, e, R, s, m, args, below, meth, c, D, adr, cA, A, cells, slots, Q⟩ ⟨hx, hb, hml, hown, hts, hK, hA, hR⟩ ρ σ x σ' H locs ls st hL hM hst hf k
  have X : fw_X (lay, own, cc, nL, d, r) (p, l, e, R, s, m, args, below, meth, c, D, adr, cA, A, cells, slots, Q) := ⟨hx, hb, hml, hown, hts, hK, hA, hR⟩
  obtain ⟨y, e1, e2⟩ := bind_some hf
  obtain ⟨z, e3, e4⟩ := bind_some e2
  cases e4
  refine a _ X ρ σ y.1 y.2 H locs ls st hL hM hst e1 (fun H1 l1 hM1 => ?_)
  refine a2 _ X ρ y.2 z.1 z.2 H1 l1 ls _ hL hM1 (by simp only [List.map_cons, List.sum_cons]; have : (fw_val (p, l, e, R, s, m, args, below, meth, c, D, adr, cA, A, cells, slots, Q) 1 y.1).category = 2 := rfl; omega) e3 (fun H2 l2 hM2 => ?_)
  have kk := k H2 l2 hM2
  refine lv_lor hx hb h ?_
  have e := kk
  simp only [fw_val, fw_v, fw_W, iorL, Int64.ofInt_toInt] at e
  exact e
theorem fe_lshl (a : fw_E (lay, own, cc, nL, d, r) T b pc pc1 1 f) (a2 : fw_E (lay, own, cc, nL, d, r) T (b + 2) pc1 pc2 0 g) (h : decode cc pc2 = .ok (.lshl, 1)) : fw_E (lay, own, cc, nL, d, r) T b pc (pc2 + 1) 1 (o2 shlL f g) := by
  rintro ⟨p, l, e, R, s, m, args, below, meth, c, D, adr, cA, A, cells, slots, Q⟩ ⟨hx, hb, hml, hown, hts, hK, hA, hR⟩ ρ σ x σ' H locs ls st hL hM hst hf k
  have X : fw_X (lay, own, cc, nL, d, r) (p, l, e, R, s, m, args, below, meth, c, D, adr, cA, A, cells, slots, Q) := ⟨hx, hb, hml, hown, hts, hK, hA, hR⟩
  obtain ⟨y, e1, e2⟩ := bind_some hf
  obtain ⟨z, e3, e4⟩ := bind_some e2
  cases e4
  refine a _ X ρ σ y.1 y.2 H locs ls st hL hM hst e1 (fun H1 l1 hM1 => ?_)
  refine a2 _ X ρ y.2 z.1 z.2 H1 l1 ls _ hL hM1 (by simp only [List.map_cons, List.sum_cons]; have : (fw_val (p, l, e, R, s, m, args, below, meth, c, D, adr, cA, A, cells, slots, Q) 1 y.1).category = 2 := rfl; omega) e3 (fun H2 l2 hM2 => ?_)
  have kk := k H2 l2 hM2
  refine lv_lshl hx hb h rfl ?_
  have e := kk
  simp only [fw_val, fw_v, fw_W, shlL, Int64.ofInt_toInt] at e
  exact e
theorem cmpL_of (a b : Int) : lg_cmp (Int64.ofInt a) (Int64.ofInt b) = Int32.ofInt (cmpL a b) := by
  by_cases h1 : w64 b < w64 a
  · have e1 : cmpL a b = 1 := if_pos h1
    have e2 : Int64.ofInt a > Int64.ofInt b := Int64.lt_iff_toInt_lt.mpr h1
    rw [e1, lg_cmp, if_pos e2]
    rfl
  · have e2 : ¬ Int64.ofInt a > Int64.ofInt b := fun z => h1 (Int64.lt_iff_toInt_lt.mp z)
    by_cases h2 : w64 a = w64 b
    · have e1 : cmpL a b = 0 := by rw [cmpL, if_neg h1, if_pos h2]
      rw [e1, lg_cmp, if_neg e2, if_pos (Int64.toInt_inj.mp h2)]
      rfl
    · have e1 : cmpL a b = -1 := by rw [cmpL, if_neg h1, if_neg h2]
      rw [e1, lg_cmp, if_neg e2, if_neg (fun z => h2 (by rw [w64, w64, z]))]
      rfl
theorem fe_lcmp (a : fw_E (lay, own, cc, nL, d, r) T b pc pc1 1 f) (a2 : fw_E (lay, own, cc, nL, d, r) T (b + 2) pc1 pc2 1 g) (h : decode cc pc2 = .ok (.lcmp, 1)) : fw_E (lay, own, cc, nL, d, r) T b pc (pc2 + 1) 0 (o2 cmpL f g) := by
  rintro ⟨p, l, e, R, s, m, args, below, meth, c, D, adr, cA, A, cells, slots, Q⟩ ⟨hx, hb, hml, hown, hts, hK, hA, hR⟩ ρ σ x σ' H locs ls st hL hM hst hf k
  have X : fw_X (lay, own, cc, nL, d, r) (p, l, e, R, s, m, args, below, meth, c, D, adr, cA, A, cells, slots, Q) := ⟨hx, hb, hml, hown, hts, hK, hA, hR⟩
  obtain ⟨y, e1, e2⟩ := bind_some hf
  obtain ⟨z, e3, e4⟩ := bind_some e2
  cases e4
  refine a _ X ρ σ y.1 y.2 H locs ls st hL hM hst e1 (fun H1 l1 hM1 => ?_)
  refine a2 _ X ρ y.2 z.1 z.2 H1 l1 ls _ hL hM1 (by simp only [List.map_cons, List.sum_cons]; have : (fw_val (p, l, e, R, s, m, args, below, meth, c, D, adr, cA, A, cells, slots, Q) 1 y.1).category = 2 := rfl; omega) e3 (fun H2 l2 hM2 => ?_)
  have kk := k H2 l2 hM2
  have e9 := cmpL_of y.1 z.1
  refine W.lcmp hx hb h ?_
  rw [e9]
  exact kk
theorem i32_div (a b : Int) : Int32.ofInt ((w32 a).tdiv (w32 b)) = Int32.ofInt a / Int32.ofInt b := by
  rw [← Int32.toInt_inj, Int32.toInt_div, Int32.toInt_ofInt]
  rfl
theorem i64_div (a b : Int) : Int64.ofInt ((w64 a).tdiv (w64 b)) = Int64.ofInt a / Int64.ofInt b := by
  rw [← Int64.toInt_inj, Int64.toInt_div, Int64.toInt_ofInt]
  rfl
theorem fe_idiv (a : fw_E (lay, own, cc, nL, d, r) T b pc pc1 0 f) (a2 : fw_E (lay, own, cc, nL, d, r) T (b + 1) pc1 pc2 0 g) (h : decode cc pc2 = .ok (.idiv, 1)) : fw_E (lay, own, cc, nL, d, r) T b pc (pc2 + 1) 0 (dvE f g) := by
  rintro ⟨p, l, e, R, s, m, args, below, meth, c, D, adr, cA, A, cells, slots, Q⟩ ⟨hx, hb, hml, hown, hts, hK, hA, hR⟩ ρ σ x σ' H locs ls st hL hM hst hf k
  have X : fw_X (lay, own, cc, nL, d, r) (p, l, e, R, s, m, args, below, meth, c, D, adr, cA, A, cells, slots, Q) := ⟨hx, hb, hml, hown, hts, hK, hA, hR⟩
  obtain ⟨y, e1, e2⟩ := bind_some hf
  obtain ⟨z, e3, e4⟩ := bind_some e2
  split at e4
  · cases e4
  rename_i hne
  cases e4
  refine a _ X ρ σ y.1 y.2 H locs ls st hL hM hst e1 (fun H1 l1 hM1 => ?_)
  refine a2 _ X ρ y.2 z.1 z.2 H1 l1 ls _ hL hM1 (by simp only [List.map_cons, List.sum_cons]; have : (fw_val (p, l, e, R, s, m, args, below, meth, c, D, adr, cA, A, cells, slots, Q) 0 y.1).category = 1 := rfl; omega) e3 (fun H2 l2 hM2 => ?_)
  have kk := k H2 l2 hM2
  refine lv_idiv hx hb h (fun q => hne (by rw [w32, q]; rfl)) ?_
  rw [← i32_div]
  exact kk
theorem fe_irem (a : fw_E (lay, own, cc, nL, d, r) T b pc pc1 0 f) (a2 : fw_E (lay, own, cc, nL, d, r) T (b + 1) pc1 pc2 0 g) (h : decode cc pc2 = .ok (.irem, 1)) : fw_E (lay, own, cc, nL, d, r) T b pc (pc2 + 1) 0 (rmE f g) := by
  rintro ⟨p, l, e, R, s, m, args, below, meth, c, D, adr, cA, A, cells, slots, Q⟩ ⟨hx, hb, hml, hown, hts, hK, hA, hR⟩ ρ σ x σ' H locs ls st hL hM hst hf k
  have X : fw_X (lay, own, cc, nL, d, r) (p, l, e, R, s, m, args, below, meth, c, D, adr, cA, A, cells, slots, Q) := ⟨hx, hb, hml, hown, hts, hK, hA, hR⟩
  obtain ⟨y, e1, e2⟩ := bind_some hf
  obtain ⟨z, e3, e4⟩ := bind_some e2
  split at e4
  · cases e4
  rename_i hne
  cases e4
  refine a _ X ρ σ y.1 y.2 H locs ls st hL hM hst e1 (fun H1 l1 hM1 => ?_)
  refine a2 _ X ρ y.2 z.1 z.2 H1 l1 ls _ hL hM1 (by simp only [List.map_cons, List.sum_cons]; have : (fw_val (p, l, e, R, s, m, args, below, meth, c, D, adr, cA, A, cells, slots, Q) 0 y.1).category = 1 := rfl; omega) e3 (fun H2 l2 hM2 => ?_)
  have kk := k H2 l2 hM2
  refine lv_irem hx hb h (fun q => hne (by rw [w32, q]; rfl)) ?_
  have e : Int32.ofInt y.1 - Int32.ofInt y.1 / Int32.ofInt z.1 * Int32.ofInt z.1 = Int32.ofInt (w32 y.1 - (w32 y.1).tdiv (w32 z.1) * w32 z.1) := by
    rw [Int32.ofInt_sub, Int32.ofInt_mul, i32_div, w32, w32, Int32.ofInt_toInt, Int32.ofInt_toInt]
  rw [e]
  exact kk
theorem fe_ldiv (a : fw_E (lay, own, cc, nL, d, r) T b pc pc1 1 f) (a2 : fw_E (lay, own, cc, nL, d, r) T (b + 2) pc1 pc2 1 g) (h : decode cc pc2 = .ok (.ldiv, 1)) : fw_E (lay, own, cc, nL, d, r) T b pc (pc2 + 1) 1 (dlE f g) := by
  rintro ⟨p, l, e, R, s, m, args, below, meth, c, D, adr, cA, A, cells, slots, Q⟩ ⟨hx, hb, hml, hown, hts, hK, hA, hR⟩ ρ σ x σ' H locs ls st hL hM hst hf k
  have X : fw_X (lay, own, cc, nL, d, r) (p, l, e, R, s, m, args, below, meth, c, D, adr, cA, A, cells, slots, Q) := ⟨hx, hb, hml, hown, hts, hK, hA, hR⟩
  obtain ⟨y, e1, e2⟩ := bind_some hf
  obtain ⟨z, e3, e4⟩ := bind_some e2
  split at e4
  · cases e4
  rename_i hne
  cases e4
  refine a _ X ρ σ y.1 y.2 H locs ls st hL hM hst e1 (fun H1 l1 hM1 => ?_)
  refine a2 _ X ρ y.2 z.1 z.2 H1 l1 ls _ hL hM1 (by simp only [List.map_cons, List.sum_cons]; have : (fw_val (p, l, e, R, s, m, args, below, meth, c, D, adr, cA, A, cells, slots, Q) 1 y.1).category = 2 := rfl; omega) e3 (fun H2 l2 hM2 => ?_)
  have kk := k H2 l2 hM2
  refine lv_ldiv hx hb h (fun q => hne (by rw [w64, q]; rfl)) ?_
  rw [← i64_div]
  exact kk
theorem fe_i2l (a : fw_E (lay, own, cc, nL, d, r) T b pc pc1 0 f) (h : decode cc pc1 = .ok (.i2l, 1)) : fw_E (lay, own, cc, nL, d, r) T b pc (pc1 + 1) 1 (o1 i2lI f) := by
  rintro ⟨p, l, e, R, s, m, args, below, meth, c, D, adr, cA, A, cells, slots, Q⟩ ⟨hx, hb, hml, hown, hts, hK, hA, hR⟩ ρ σ x σ' H locs ls st hL hM hst hf k
  have X : fw_X (lay, own, cc, nL, d, r) (p, l, e, R, s, m, args, below, meth, c, D, adr, cA, A, cells, slots, Q) := ⟨hx, hb, hml, hown, hts, hK, hA, hR⟩
  obtain ⟨y, e1, e2⟩ := bind_some hf
  cases e2
  refine a _ X ρ σ y.1 y.2 H locs ls st hL hM hst e1 (fun H1 l1 hM1 => ?_)
  have kk := k H1 l1 hM1
  exact lv_i2l (v := Int64.ofInt (i2lI y.1)) hx hb h (Int64.ofInt_int32ToInt _).symm kk
theorem fe_l2i (a : fw_E (lay, own, cc, nL, d, r) T b pc pc1 1 f) (h : decode cc pc1 = .ok (.l2i, 1)) : fw_E (lay, own, cc, nL, d, r) T b pc (pc1 + 1) 0 (o1 l2iI f) := by
  rintro ⟨p, l, e, R, s, m, args, below, meth, c, D, adr, cA, A, cells, slots, Q⟩ ⟨hx, hb, hml, hown, hts, hK, hA, hR⟩ ρ σ x σ' H locs ls st hL hM hst hf k
  have X : fw_X (lay, own, cc, nL, d, r) (p, l, e, R, s, m, args, below, meth, c, D, adr, cA, A, cells, slots, Q) := ⟨hx, hb, hml, hown, hts, hK, hA, hR⟩
  obtain ⟨y, e1, e2⟩ := bind_some hf
  cases e2
  refine a _ X ρ σ y.1 y.2 H locs ls st hL hM hst e1 (fun H1 l1 hM1 => ?_)
  have kk := k H1 l1 hM1
  exact lv_l2i (v := Int32.ofInt (l2iI y.1)) hx hb h Int64.toInt32_ofInt kk
theorem fe_i2b (a : fw_E (lay, own, cc, nL, d, r) T b pc pc1 0 f) (h : decode cc pc1 = .ok (.i2b, 1)) : fw_E (lay, own, cc, nL, d, r) T b pc (pc1 + 1) 0 (o1 i2bI f) := by
  rintro ⟨p, l, e, R, s, m, args, below, meth, c, D, adr, cA, A, cells, slots, Q⟩ ⟨hx, hb, hml, hown, hts, hK, hA, hR⟩ ρ σ x σ' H locs ls st hL hM hst hf k
  have X : fw_X (lay, own, cc, nL, d, r) (p, l, e, R, s, m, args, below, meth, c, D, adr, cA, A, cells, slots, Q) := ⟨hx, hb, hml, hown, hts, hK, hA, hR⟩
  obtain ⟨y, e1, e2⟩ := bind_some hf
  cases e2
  refine a _ X ρ σ y.1 y.2 H locs ls st hL hM hst e1 (fun H1 l1 hM1 => ?_)
  have kk := k H1 l1 hM1
  exact lv_i2b (v := Int32.ofInt (i2bI y.1)) hx hb h (Int32.ofInt_toInt _).symm kk
end FWO
end
section
section FWB
variable {lay : List CD} {own : String} {cc : ByteArray} {nL d : Nat} {r : Option Nat} {T : FT} {b pc pc1 pc2 pt pf tgt : Nat} {f g : EM} {off : Int}
theorem cm_0 {a b : Int} : cmpI 0 a b = true ↔ Int32.ofInt a = Int32.ofInt b := (show (decide (w32 a = w32 b) = true) ↔ _ from decide_eq_true_iff.trans Int32.toInt_inj)
theorem cm_1 {a b : Int} : cmpI 1 a b = true ↔ ¬ Int32.ofInt a = Int32.ofInt b := by
  rw [← cm_0]
  simp [cmpI]
theorem cm_2 {a b : Int} : cmpI 2 a b = true ↔ Int32.ofInt a < Int32.ofInt b := (show (decide (w32 a < w32 b) = true) ↔ _ from decide_eq_true_iff.trans Int32.lt_iff_toInt_lt.symm)
theorem cm_3 {a b : Int} : cmpI 3 a b = true ↔ Int32.ofInt b ≤ Int32.ofInt a := (show (decide (w32 b ≤ w32 a) = true) ↔ _ from decide_eq_true_iff.trans Int32.le_iff_toInt_le.symm)
theorem cm_4 {a b : Int} : cmpI 4 a b = true ↔ Int32.ofInt b < Int32.ofInt a := (show (decide (w32 b < w32 a) = true) ↔ _ from decide_eq_true_iff.trans Int32.lt_iff_toInt_lt.symm)
theorem cm_5 {a b : Int} : cmpI 5 a b = true ↔ Int32.ofInt a ≤ Int32.ofInt b := (show (decide (w32 a ≤ w32 b) = true) ↔ _ from decide_eq_true_iff.trans Int32.le_iff_toInt_le.symm)
theorem fb_icmp_eq (a : fw_E (lay, own, cc, nL, d, r) T b pc pc1 0 f) (a2 : fw_E (lay, own, cc, nL, d, r) T (b + 1) pc1 pc2 0 g) (h : decode cc pc2 = .ok (.if_icmp .eq off, 3)) (ht : (pc2 : Int) + off = (tgt : Int)) : fw_B (lay, own, cc, nL, d, r) T b pc tgt (pc2 + 3) (cB 0 f g) := by
  rintro ⟨p, l, e, R, s, m, args, below, meth, c, D, adr, cA, A, cells, slots, Q⟩ ⟨hx, hb, hml, hown, hts, hK, hA, hR⟩ ρ σ x σ' H locs ls st hL hM hst hf k
  have X : fw_X (lay, own, cc, nL, d, r) (p, l, e, R, s, m, args, below, meth, c, D, adr, cA, A, cells, slots, Q) := ⟨hx, hb, hml, hown, hts, hK, hA, hR⟩
  obtain ⟨y, e1, e2⟩ := bind_some hf
  obtain ⟨z, e3, e4⟩ := bind_some e2
  cases e4
  refine a _ X ρ σ y.1 y.2 H locs ls st hL hM hst e1 (fun H1 l1 hM1 => ?_)
  refine a2 _ X ρ y.2 z.1 z.2 H1 l1 ls _ hL hM1 (by simp only [List.map_cons, List.sum_cons]; have : (fw_val (p, l, e, R, s, m, args, below, meth, c, D, adr, cA, A, cells, slots, Q) 0 y.1).category = 1 := rfl; omega) e3 (fun H2 l2 hM2 => ?_)
  have kk := k H2 l2 hM2
  refine lv_icmp_eq hx hb h ht (fun q => ?_) (fun q => ?_)
  · rw [if_pos (cm_0.mpr q)] at kk
    exact kk
  · rw [if_neg (fun z => q (cm_0.mp z))] at kk
    exact kk
theorem fb_if_eq (a : fw_E (lay, own, cc, nL, d, r) T b pc pc1 0 f) (h : decode cc pc1 = .ok (.ifCond .eq off, 3)) (ht : (pc1 : Int) + off = (tgt : Int)) : fw_B (lay, own, cc, nL, d, r) T b pc tgt (pc1 + 3) (zB 0 f) := by
  rintro ⟨p, l, e, R, s, m, args, below, meth, c, D, adr, cA, A, cells, slots, Q⟩ ⟨hx, hb, hml, hown, hts, hK, hA, hR⟩ ρ σ x σ' H locs ls st hL hM hst hf k
  have X : fw_X (lay, own, cc, nL, d, r) (p, l, e, R, s, m, args, below, meth, c, D, adr, cA, A, cells, slots, Q) := ⟨hx, hb, hml, hown, hts, hK, hA, hR⟩
  obtain ⟨y, e1, e2⟩ := bind_some hf
  cases e2
  refine a _ X ρ σ y.1 y.2 H locs ls st hL hM hst e1 (fun H1 l1 hM1 => ?_)
  have kk := k H1 l1 hM1
  refine lv_if_eq hx hb h ht (fun q => ?_) (fun q => ?_)
  · rw [if_pos ((cm_0 (a := y.1) (b := 0)).mpr q)] at kk
    exact kk
  · rw [if_neg (fun z => q ((cm_0 (a := y.1) (b := 0)).mp z))] at kk
    exact kk
theorem fb_icmp_ne (a : fw_E (lay, own, cc, nL, d, r) T b pc pc1 0 f) (a2 : fw_E (lay, own, cc, nL, d, r) T (b + 1) pc1 pc2 0 g) (h : decode cc pc2 = .ok (.if_icmp .ne off, 3)) (ht : (pc2 : Int) + off = (tgt : Int)) : fw_B (lay, own, cc, nL, d, r) T b pc tgt (pc2 + 3) (cB 1 f g) := by
  rintro ⟨p, l, e, R, s, m, args, below, meth, c, D, adr, cA, A, cells, slots, Q⟩ ⟨hx, hb, hml, hown, hts, hK, hA, hR⟩ ρ σ x σ' H locs ls st hL hM hst hf k
  have X : fw_X (lay, own, cc, nL, d, r) (p, l, e, R, s, m, args, below, meth, c, D, adr, cA, A, cells, slots, Q) := ⟨hx, hb, hml, hown, hts, hK, hA, hR⟩
  obtain ⟨y, e1, e2⟩ := bind_some hf
  obtain ⟨z, e3, e4⟩ := bind_some e2
  cases e4
  refine a _ X ρ σ y.1 y.2 H locs ls st hL hM hst e1 (fun H1 l1 hM1 => ?_)
  refine a2 _ X ρ y.2 z.1 z.2 H1 l1 ls _ hL hM1 (by simp only [List.map_cons, List.sum_cons]; have : (fw_val (p, l, e, R, s, m, args, below, meth, c, D, adr, cA, A, cells, slots, Q) 0 y.1).category = 1 := rfl; omega) e3 (fun H2 l2 hM2 => ?_)
  have kk := k H2 l2 hM2
  refine lv_icmp_ne hx hb h ht (fun q => ?_) (fun q => ?_)
  · rw [if_pos (cm_1.mpr q)] at kk
    exact kk
  · rw [if_neg (fun z => (cm_1.mp z) q)] at kk
    exact kk
theorem fb_if_ne (a : fw_E (lay, own, cc, nL, d, r) T b pc pc1 0 f) (h : decode cc pc1 = .ok (.ifCond .ne off, 3)) (ht : (pc1 : Int) + off = (tgt : Int)) : fw_B (lay, own, cc, nL, d, r) T b pc tgt (pc1 + 3) (zB 1 f) := by
  rintro ⟨p, l, e, R, s, m, args, below, meth, c, D, adr, cA, A, cells, slots, Q⟩ ⟨hx, hb, hml, hown, hts, hK, hA, hR⟩ ρ σ x σ' H locs ls st hL hM hst hf k
  have X : fw_X (lay, own, cc, nL, d, r) (p, l, e, R, s, m, args, below, meth, c, D, adr, cA, A, cells, slots, Q) := ⟨hx, hb, hml, hown, hts, hK, hA, hR⟩
  obtain ⟨y, e1, e2⟩ := bind_some hf
  cases e2
  refine a _ X ρ σ y.1 y.2 H locs ls st hL hM hst e1 (fun H1 l1 hM1 => ?_)
  have kk := k H1 l1 hM1
  refine lv_if_ne hx hb h ht (fun q => ?_) (fun q => ?_)
  · rw [if_pos ((cm_1 (a := y.1) (b := 0)).mpr q)] at kk
    exact kk
  · rw [if_neg (fun z => ((cm_1 (a := y.1) (b := 0)).mp z) q)] at kk
    exact kk
theorem fb_icmp_lt (a : fw_E (lay, own, cc, nL, d, r) T b pc pc1 0 f) (a2 : fw_E (lay, own, cc, nL, d, r) T (b + 1) pc1 pc2 0 g) (h : decode cc pc2 = .ok (.if_icmp .lt off, 3)) (ht : (pc2 : Int) + off = (tgt : Int)) : fw_B (lay, own, cc, nL, d, r) T b pc tgt (pc2 + 3) (cB 2 f g) := by
  rintro ⟨p, l, e, R, s, m, args, below, meth, c, D, adr, cA, A, cells, slots, Q⟩ ⟨hx, hb, hml, hown, hts, hK, hA, hR⟩ ρ σ x σ' H locs ls st hL hM hst hf k
  have X : fw_X (lay, own, cc, nL, d, r) (p, l, e, R, s, m, args, below, meth, c, D, adr, cA, A, cells, slots, Q) := ⟨hx, hb, hml, hown, hts, hK, hA, hR⟩
  obtain ⟨y, e1, e2⟩ := bind_some hf
  obtain ⟨z, e3, e4⟩ := bind_some e2
  cases e4
  refine a _ X ρ σ y.1 y.2 H locs ls st hL hM hst e1 (fun H1 l1 hM1 => ?_)
  refine a2 _ X ρ y.2 z.1 z.2 H1 l1 ls _ hL hM1 (by simp only [List.map_cons, List.sum_cons]; have : (fw_val (p, l, e, R, s, m, args, below, meth, c, D, adr, cA, A, cells, slots, Q) 0 y.1).category = 1 := rfl; omega) e3 (fun H2 l2 hM2 => ?_)
  have kk := k H2 l2 hM2
  refine lv_icmp_lt hx hb h ht (fun q => ?_) (fun q => ?_)
  · rw [if_pos (cm_2.mpr q)] at kk
    exact kk
  · rw [if_neg (fun z => q (cm_2.mp z))] at kk
    exact kk
theorem fb_if_lt (a : fw_E (lay, own, cc, nL, d, r) T b pc pc1 0 f) (h : decode cc pc1 = .ok (.ifCond .lt off, 3)) (ht : (pc1 : Int) + off = (tgt : Int)) : fw_B (lay, own, cc, nL, d, r) T b pc tgt (pc1 + 3) (zB 2 f) := by
  rintro ⟨p, l, e, R, s, m, args, below, meth, c, D, adr, cA, A, cells, slots, Q⟩ ⟨hx, hb, hml, hown, hts, hK, hA, hR⟩ ρ σ x σ' H locs ls st hL hM hst hf k
  have X : fw_X (lay, own, cc, nL, d, r) (p, l, e, R, s, m, args, below, meth, c, D, adr, cA, A, cells, slots, Q) := ⟨hx, hb, hml, hown, hts, hK, hA, hR⟩
  obtain ⟨y, e1, e2⟩ := bind_some hf
  cases e2
  refine a _ X ρ σ y.1 y.2 H locs ls st hL hM hst e1 (fun H1 l1 hM1 => ?_)
  have kk := k H1 l1 hM1
  refine lv_if_lt hx hb h ht (fun q => ?_) (fun q => ?_)
  · rw [if_pos ((cm_2 (a := y.1) (b := 0)).mpr q)] at kk
    exact kk
  · rw [if_neg (fun z => q ((cm_2 (a := y.1) (b := 0)).mp z))] at kk
    exact kk
theorem fb_icmp_ge (a : fw_E (lay, own, cc, nL, d, r) T b pc pc1 0 f) (a2 : fw_E (lay, own, cc, nL, d, r) T (b + 1) pc1 pc2 0 g) (h : decode cc pc2 = .ok (.if_icmp .ge off, 3)) (ht : (pc2 : Int) + off = (tgt : Int)) : fw_B (lay, own, cc, nL, d, r) T b pc tgt (pc2 + 3) (cB 3 f g) := by
  rintro ⟨p, l, e, R, s, m, args, below, meth, c, D, adr, cA, A, cells, slots, Q⟩ ⟨hx, hb, hml, hown, hts, hK, hA, hR⟩ ρ σ x σ' H locs ls st hL hM hst hf k
  have X : fw_X (lay, own, cc, nL, d, r) (p, l, e, R, s, m, args, below, meth, c, D, adr, cA, A, cells, slots, Q) := ⟨hx, hb, hml, hown, hts, hK, hA, hR⟩
  obtain ⟨y, e1, e2⟩ := bind_some hf
  obtain ⟨z, e3, e4⟩ := bind_some e2
  cases e4
  refine a _ X ρ σ y.1 y.2 H locs ls st hL hM hst e1 (fun H1 l1 hM1 => ?_)
  refine a2 _ X ρ y.2 z.1 z.2 H1 l1 ls _ hL hM1 (by simp only [List.map_cons, List.sum_cons]; have : (fw_val (p, l, e, R, s, m, args, below, meth, c, D, adr, cA, A, cells, slots, Q) 0 y.1).category = 1 := rfl; omega) e3 (fun H2 l2 hM2 => ?_)
  have kk := k H2 l2 hM2
  refine lv_icmp_ge hx hb h ht (fun q => ?_) (fun q => ?_)
  · rw [if_pos (cm_3.mpr q)] at kk
    exact kk
  · rw [if_neg (fun z => q (cm_3.mp z))] at kk
    exact kk
theorem fb_if_ge (a : fw_E (lay, own, cc, nL, d, r) T b pc pc1 0 f) (h : decode cc pc1 = .ok (.ifCond .ge off, 3)) (ht : (pc1 : Int) + off = (tgt : Int)) : fw_B (lay, own, cc, nL, d, r) T b pc tgt (pc1 + 3) (zB 3 f) := by
  rintro ⟨p, l, e, R, s, m, args, below, meth, c, D, adr, cA, A, cells, slots, Q⟩ ⟨hx, hb, hml, hown, hts, hK, hA, hR⟩ ρ σ x σ' H locs ls st hL hM hst hf k
  have X : fw_X (lay, own, cc, nL, d, r) (p, l, e, R, s, m, args, below, meth, c, D, adr, cA, A, cells, slots, Q) := ⟨hx, hb, hml, hown, hts, hK, hA, hR⟩
  obtain ⟨y, e1, e2⟩ := bind_some hf
  cases e2
  refine a _ X ρ σ y.1 y.2 H locs ls st hL hM hst e1 (fun H1 l1 hM1 => ?_)
  have kk := k H1 l1 hM1
  refine lv_if_ge hx hb h ht (fun q => ?_) (fun q => ?_)
  · rw [if_pos ((cm_3 (a := y.1) (b := 0)).mpr q)] at kk
    exact kk
  · rw [if_neg (fun z => q ((cm_3 (a := y.1) (b := 0)).mp z))] at kk
    exact kk
theorem fb_icmp_gt (a : fw_E (lay, own, cc, nL, d, r) T b pc pc1 0 f) (a2 : fw_E (lay, own, cc, nL, d, r) T (b + 1) pc1 pc2 0 g) (h : decode cc pc2 = .ok (.if_icmp .gt off, 3)) (ht : (pc2 : Int) + off = (tgt : Int)) : fw_B (lay, own, cc, nL, d, r) T b pc tgt (pc2 + 3) (cB 4 f g) := by
  rintro ⟨p, l, e, R, s, m, args, below, meth, c, D, adr, cA, A, cells, slots, Q⟩ ⟨hx, hb, hml, hown, hts, hK, hA, hR⟩ ρ σ x σ' H locs ls st hL hM hst hf k
  have X : fw_X (lay, own, cc, nL, d, r) (p, l, e, R, s, m, args, below, meth, c, D, adr, cA, A, cells, slots, Q) := ⟨hx, hb, hml, hown, hts, hK, hA, hR⟩
  obtain ⟨y, e1, e2⟩ := bind_some hf
  obtain ⟨z, e3, e4⟩ := bind_some e2
  cases e4
  refine a _ X ρ σ y.1 y.2 H locs ls st hL hM hst e1 (fun H1 l1 hM1 => ?_)
  refine a2 _ X ρ y.2 z.1 z.2 H1 l1 ls _ hL hM1 (by simp only [List.map_cons, List.sum_cons]; have : (fw_val (p, l, e, R, s, m, args, below, meth, c, D, adr, cA, A, cells, slots, Q) 0 y.1).category = 1 := rfl; omega) e3 (fun H2 l2 hM2 => ?_)
  have kk := k H2 l2 hM2
  refine lv_icmp_gt hx hb h ht (fun q => ?_) (fun q => ?_)
  · rw [if_pos (cm_4.mpr q)] at kk
    exact kk
  · rw [if_neg (fun z => q (cm_4.mp z))] at kk
    exact kk
theorem fb_if_gt (a : fw_E (lay, own, cc, nL, d, r) T b pc pc1 0 f) (h : decode cc pc1 = .ok (.ifCond .gt off, 3)) (ht : (pc1 : Int) + off = (tgt : Int)) : fw_B (lay, own, cc, nL, d, r) T b pc tgt (pc1 + 3) (zB 4 f) := by
  rintro ⟨p, l, e, R, s, m, args, below, meth, c, D, adr, cA, A, cells, slots, Q⟩ ⟨hx, hb, hml, hown, hts, hK, hA, hR⟩ ρ σ x σ' H locs ls st hL hM hst hf k
  have X : fw_X (lay, own, cc, nL, d, r) (p, l, e, R, s, m, args, below, meth, c, D, adr, cA, A, cells, slots, Q) := ⟨hx, hb, hml, hown, hts, hK, hA, hR⟩
  obtain ⟨y, e1, e2⟩ := bind_some hf
  cases e2
  refine a _ X ρ σ y.1 y.2 H locs ls st hL hM hst e1 (fun H1 l1 hM1 => ?_)
  have kk := k H1 l1 hM1
  refine lv_if_gt hx hb h ht (fun q => ?_) (fun q => ?_)
  · rw [if_pos ((cm_4 (a := y.1) (b := 0)).mpr q)] at kk
    exact kk
  · rw [if_neg (fun z => q ((cm_4 (a := y.1) (b := 0)).mp z))] at kk
    exact kk
theorem fb_icmp_le (a : fw_E (lay, own, cc, nL, d, r) T b pc pc1 0 f) (a2 : fw_E (lay, own, cc, nL, d, r) T (b + 1) pc1 pc2 0 g) (h : decode cc pc2 = .ok (.if_icmp .le off, 3)) (ht : (pc2 : Int) + off = (tgt : Int)) : fw_B (lay, own, cc, nL, d, r) T b pc tgt (pc2 + 3) (cB 5 f g) := by
  rintro ⟨p, l, e, R, s, m, args, below, meth, c, D, adr, cA, A, cells, slots, Q⟩ ⟨hx, hb, hml, hown, hts, hK, hA, hR⟩ ρ σ x σ' H locs ls st hL hM hst hf k
  have X : fw_X (lay, own, cc, nL, d, r) (p, l, e, R, s, m, args, below, meth, c, D, adr, cA, A, cells, slots, Q) := ⟨hx, hb, hml, hown, hts, hK, hA, hR⟩
  obtain ⟨y, e1, e2⟩ := bind_some hf
  obtain ⟨z, e3, e4⟩ := bind_some e2
  cases e4
  refine a _ X ρ σ y.1 y.2 H locs ls st hL hM hst e1 (fun H1 l1 hM1 => ?_)
  refine a2 _ X ρ y.2 z.1 z.2 H1 l1 ls _ hL hM1 (by simp only [List.map_cons, List.sum_cons]; have : (fw_val (p, l, e, R, s, m, args, below, meth, c, D, adr, cA, A, cells, slots, Q) 0 y.1).category = 1 := rfl; omega) e3 (fun H2 l2 hM2 => ?_)
  have kk := k H2 l2 hM2
  refine lv_icmp_le hx hb h ht (fun q => ?_) (fun q => ?_)
  · rw [if_pos (cm_5.mpr q)] at kk
    exact kk
  · rw [if_neg (fun z => q (cm_5.mp z))] at kk
    exact kk
theorem fb_if_le (a : fw_E (lay, own, cc, nL, d, r) T b pc pc1 0 f) (h : decode cc pc1 = .ok (.ifCond .le off, 3)) (ht : (pc1 : Int) + off = (tgt : Int)) : fw_B (lay, own, cc, nL, d, r) T b pc tgt (pc1 + 3) (zB 5 f) := by
  rintro ⟨p, l, e, R, s, m, args, below, meth, c, D, adr, cA, A, cells, slots, Q⟩ ⟨hx, hb, hml, hown, hts, hK, hA, hR⟩ ρ σ x σ' H locs ls st hL hM hst hf k
  have X : fw_X (lay, own, cc, nL, d, r) (p, l, e, R, s, m, args, below, meth, c, D, adr, cA, A, cells, slots, Q) := ⟨hx, hb, hml, hown, hts, hK, hA, hR⟩
  obtain ⟨y, e1, e2⟩ := bind_some hf
  cases e2
  refine a _ X ρ σ y.1 y.2 H locs ls st hL hM hst e1 (fun H1 l1 hM1 => ?_)
  have kk := k H1 l1 hM1
  refine lv_if_le hx hb h ht (fun q => ?_) (fun q => ?_)
  · rw [if_pos ((cm_5 (a := y.1) (b := 0)).mpr q)] at kk
    exact kk
  · rw [if_neg (fun z => q ((cm_5 (a := y.1) (b := 0)).mp z))] at kk
    exact kk
theorem fb_not {c : BM} (a : fw_B (lay, own, cc, nL, d, r) T b pc pt pf c) : fw_B (lay, own, cc, nL, d, r) T b pc pf pt (nB c) := by
  intro G X ρ σ x σ' H locs ls st hL hM hst hf k
  obtain ⟨y, e1, e2⟩ := bind_some hf
  cases e2
  refine a G X ρ σ y.1 y.2 H locs ls st hL hM hst e1 (fun H1 l1 hM1 => ?_)
  have kk := k H1 l1 hM1
  cases hy : y.1 <;> rw [hy] at kk <;> exact kk
theorem fb_and {c c2 : BM} {pm : Nat} (a : fw_B (lay, own, cc, nL, d, r) T b pc pm pf c) (a2 : fw_B (lay, own, cc, nL, d, r) T b pm pt pf c2) : fw_B (lay, own, cc, nL, d, r) T b pc pt pf (andB c c2) := by
  intro G X ρ σ x σ' H locs ls st hL hM hst hf k
  obtain ⟨y, e1, e2⟩ := bind_some hf
  refine a G X ρ σ y.1 y.2 H locs ls st hL hM hst e1 (fun H1 l1 hM1 => ?_)
  by_cases hy : y.1 = true
  · rw [if_pos hy] at e2 ⊢
    exact a2 G X ρ y.2 x σ' H1 l1 ls st hL hM1 hst e2 k
  · rw [if_neg hy] at e2 ⊢
    cases e2
    exact k H1 l1 hM1
theorem fb_or {c c2 : BM} {pm : Nat} (a : fw_B (lay, own, cc, nL, d, r) T b pc pt pm c) (a2 : fw_B (lay, own, cc, nL, d, r) T b pm pt pf c2) : fw_B (lay, own, cc, nL, d, r) T b pc pt pf (orB c c2) := by
  intro G X ρ σ x σ' H locs ls st hL hM hst hf k
  obtain ⟨y, e1, e2⟩ := bind_some hf
  refine a G X ρ σ y.1 y.2 H locs ls st hL hM hst e1 (fun H1 l1 hM1 => ?_)
  by_cases hy : y.1 = true
  · rw [if_pos hy] at e2 ⊢
    cases e2
    exact k H1 l1 hM1
  · rw [if_neg hy] at e2 ⊢
    exact a2 G X ρ y.2 x σ' H1 l1 ls st hL hM1 hst e2 k
/-- one of two values: the first one's code ends with a goto -/
theorem fe_tern {c : BM} {pe t : Nat} (a : fw_B (lay, own, cc, nL, d, r) T b pc pt pf c) (v : fw_E (lay, own, cc, nL, d, r) T b pt pc1 t f) (h : decode cc pc1 = .ok (.goto off, 3)) (ht : (pc1 : Int) + off = (pe : Int)) (v2 : fw_E (lay, own, cc, nL, d, r) T b pf pe t g) : fw_E (lay, own, cc, nL, d, r) T b pc pe t (kE c f g) := by
  rintro ⟨p, l, e, R, s, m, args, below, meth, c, D, adr, cA, A, cells, slots, Q⟩ ⟨hx, hb, hml, hown, hts, hK, hA, hR⟩ ρ σ x σ' H locs ls st hL hM hst hf k
  have X : fw_X (lay, own, cc, nL, d, r) (p, l, e, R, s, m, args, below, meth, c, D, adr, cA, A, cells, slots, Q) := ⟨hx, hb, hml, hown, hts, hK, hA, hR⟩
  obtain ⟨y, e1, e2⟩ := bind_some hf
  refine a _ X ρ σ y.1 y.2 H locs ls st hL hM hst e1 (fun H1 l1 hM1 => ?_)
  by_cases hy : y.1 = true
  · rw [if_pos hy] at e2 ⊢
    refine v _ X ρ y.2 x σ' H1 l1 ls st hL hM1 hst e2 (fun H2 l2 hM2 => ?_)
    exact lv_goto hx hb h ht (k H2 l2 hM2)
  · rw [if_neg hy] at e2 ⊢
    exact v2 _ X ρ y.2 x σ' H1 l1 ls st hL hM1 hst e2 k
end FWB
end
section
section FWS
variable {lay : List CD} {own : String} {cc : ByteArray} {nL d : Nat} {r : Option Nat} {T T' : FT} {b pc pc1 pc2 pc3 pt pf tgt : Nat} {f g h3 : EM} {off : Int} {N B C : Nat × FT}
/-- what is known of the locals behind a store: T' -/
def fw_tc (T' T : FT) (i t : Nat) : Bool := T'.all fun q => decide (q = (i, t)) || (T.contains q && !(q.1 == i) && !(q.1 + 1 == i && q.2 == 1))
def fw_tl (T' T : FT) (i : Nat) : Bool := T'.all fun q => decide (q = (i, 1)) || (T.contains q && !(q.1 == i) && !(q.1 == i + 1) && !(q.1 + 1 == i && q.2 == 1))
def fw_ts (T' T : FT) : Bool := T'.all fun q => T.contains q
theorem fw_cat {adr : Nat → Nat} {t : Nat} {x : Int} : ((fw_v adr t x).category == 2) = (t == 1) := by
  unfold fw_v
  split <;> rfl
theorem fw_L_sub {G : GX} {S : SI} {ρ : Lo} {ls : Array Slot} (h : fw_ts T' T = true) (hL : fw_L S G T ρ ls) : fw_L S G T' ρ ls := by
  obtain ⟨h1, h2, h3⟩ := hL
  refine ⟨h1, h2, fun q hq => ?_⟩
  obtain ⟨z, hz, rfl⟩ := List.mem_map.mp hq
  have := List.all_eq_true.mp h z hz
  exact h3 _ (List.mem_map.mpr ⟨z, by simpa using this, rfl⟩)
theorem fw_L_st {adr : Nat → Nat} {ρ : Lo} {ls : Array Slot} {i t : Nat} {x : Int} (h : fw_tc T' T i t = true) (hL : lv_has ls nL ((i, fw_v adr t x) :: (T.map fun q => (q.1, fw_v adr q.2 (ρ q.1))).filter (fun q => !(q.1 == i) && !(q.1 + 1 == i && q.2.category == 2)))) : lv_has ls nL (T'.map fun q => (q.1, fw_v adr q.2 (up ρ i x q.1))) := by
  obtain ⟨h1, h2, h3⟩ := hL
  refine ⟨h1, h2, fun q hq => ?_⟩
  obtain ⟨z, hz, rfl⟩ := List.mem_map.mp hq
  have hc := List.all_eq_true.mp h z hz
  simp only [Bool.or_eq_true, Bool.and_eq_true, decide_eq_true_eq, Bool.not_eq_true', List.contains_iff_mem] at hc
  rcases hc with rfl | ⟨⟨c1, c2⟩, c3⟩
  · have : up ρ i x i = x := by simp [up]
    simp only [this]
    exact h3 _ List.mem_cons_self
  · have hne : z.1 ≠ i := by simpa using c2
    have : up ρ i x z.1 = ρ z.1 := by simp [up, hne]
    simp only [this]
    refine h3 _ (List.mem_cons_of_mem _ (List.mem_filter.mpr ⟨List.mem_map.mpr ⟨z, c1, rfl⟩, ?_⟩))
    simp only [fw_cat, c2, c3, Bool.not_false, Bool.and_self]
theorem fw_L_sl {adr : Nat → Nat} {ρ : Lo} {ls : Array Slot} {i : Nat} {x : Int} (h : fw_tl T' T i = true) (hL : lv_has ls nL ((i, fw_v adr 1 x) :: (T.map fun q => (q.1, fw_v adr q.2 (ρ q.1))).filter (fun q => !(q.1 == i) && (!(q.1 == i + 1) && !(q.1 + 1 == i && q.2.category == 2))))) : lv_has ls nL (T'.map fun q => (q.1, fw_v adr q.2 (up ρ i x q.1))) := by
  obtain ⟨h1, h2, h3⟩ := hL
  refine ⟨h1, h2, fun q hq => ?_⟩
  obtain ⟨z, hz, rfl⟩ := List.mem_map.mp hq
  have hc := List.all_eq_true.mp h z hz
  simp only [Bool.or_eq_true, Bool.and_eq_true, decide_eq_true_eq, Bool.not_eq_true', List.contains_iff_mem] at hc
  rcases hc with rfl | ⟨⟨⟨c1, c2⟩, c4⟩, c3⟩
  · have : up ρ i x i = x := by simp [up]
    simp only [this]
    exact h3 _ List.mem_cons_self
  · have hne : z.1 ≠ i := by simpa using c2
    have : up ρ i x z.1 = ρ z.1 := by simp [up, hne]
    simp only [this]
    refine h3 _ (List.mem_cons_of_mem _ (List.mem_filter.mpr ⟨List.mem_map.mpr ⟨z, c1, rfl⟩, ?_⟩))
    simp only [fw_cat, c2, c3, c4, Bool.not_false, Bool.and_self]
theorem fs_ist {i : Nat} (a : fw_E (lay, own, cc, nL, d, r) T 0 pc pc1 0 f) (h : decode cc pc1 = .ok (.istore i, 2)) (hn : i < nL) (hT : fw_tc T' T i 0 = true) : fw_S (lay, own, cc, nL, d, r) T pc (stS i f) (pc1 + 2, T') B C := by
  rintro ⟨p, l, e, R, s, m, args, below, meth, c, D, adr, cA, A, cells, slots, Q⟩ ⟨hx, hb, hml, hown, hts, hK, hA, hR⟩ ρ σ o x ρ' σ' H locs ls hL hM hf k
  have X : fw_X (lay, own, cc, nL, d, r) (p, l, e, R, s, m, args, below, meth, c, D, adr, cA, A, cells, slots, Q) := ⟨hx, hb, hml, hown, hts, hK, hA, hR⟩
  obtain ⟨y, e1, e2⟩ := bind_some hf
  cases e2
  refine a _ X ρ σ y.1 y.2 H locs ls [] hL hM (Nat.le_refl _) e1 (fun H1 l1 hM1 => ?_)
  exact lv_istore hx hb h hL hn rfl (fun ls' hl => k.1 rfl H1 l1 ls' (fw_L_st hT hl) hM1)
theorem fs_istn {i : Nat} {n : Fin 4} (a : fw_E (lay, own, cc, nL, d, r) T 0 pc pc1 0 f) (h : decode cc pc1 = .ok (.istore_n n, 1)) (hn : i < nL) (hT : fw_tc T' T i 0 = true) (hi : (n : Nat) = i := by rfl) : fw_S (lay, own, cc, nL, d, r) T pc (stS i f) (pc1 + 1, T') B C := by
  rintro ⟨p, l, e, R, s, m, args, below, meth, c, D, adr, cA, A, cells, slots, Q⟩ ⟨hx, hb, hml, hown, hts, hK, hA, hR⟩ ρ σ o x ρ' σ' H locs ls hL hM hf k
  have X : fw_X (lay, own, cc, nL, d, r) (p, l, e, R, s, m, args, below, meth, c, D, adr, cA, A, cells, slots, Q) := ⟨hx, hb, hml, hown, hts, hK, hA, hR⟩
  obtain ⟨y, e1, e2⟩ := bind_some hf
  cases e2
  refine a _ X ρ σ y.1 y.2 H locs ls [] hL hM (Nat.le_refl _) e1 (fun H1 l1 hM1 => ?_)
  exact lv_istore_n hx hb h hi hL hn rfl (fun ls' hl => k.1 rfl H1 l1 ls' (fw_L_st hT hl) hM1)
theorem fs_lst {i : Nat} (a : fw_E (lay, own, cc, nL, d, r) T 0 pc pc1 1 f) (h : decode cc pc1 = .ok (.lstore i, 2)) (hn : i + 1 < nL) (hT : fw_tl T' T i = true) : fw_S (lay, own, cc, nL, d, r) T pc (stS i f) (pc1 + 2, T') B C := by
  rintro ⟨p, l, e, R, s, m, args, below, meth, c, D, adr, cA, A, cells, slots, Q⟩ ⟨hx, hb, hml, hown, hts, hK, hA, hR⟩ ρ σ o x ρ' σ' H locs ls hL hM hf k
  have X : fw_X (lay, own, cc, nL, d, r) (p, l, e, R, s, m, args, below, meth, c, D, adr, cA, A, cells, slots, Q) := ⟨hx, hb, hml, hown, hts, hK, hA, hR⟩
  obtain ⟨y, e1, e2⟩ := bind_some hf
  cases e2
  refine a _ X ρ σ y.1 y.2 H locs ls [] hL hM (Nat.le_refl _) e1 (fun H1 l1 hM1 => ?_)
  exact lv_lstore hx hb h hL hn rfl (fun ls' hl => k.1 rfl H1 l1 ls' (fw_L_sl hT hl) hM1)
theorem fs_lstn {i : Nat} {n : Fin 4} (a : fw_E (lay, own, cc, nL, d, r) T 0 pc pc1 1 f) (h : decode cc pc1 = .ok (.lstore_n n, 1)) (hn : i + 1 < nL) (hT : fw_tl T' T i = true) (hi : (n : Nat) = i := by rfl) : fw_S (lay, own, cc, nL, d, r) T pc (stS i f) (pc1 + 1, T') B C := by
  rintro ⟨p, l, e, R, s, m, args, below, meth, c, D, adr, cA, A, cells, slots, Q⟩ ⟨hx, hb, hml, hown, hts, hK, hA, hR⟩ ρ σ o x ρ' σ' H locs ls hL hM hf k
  have X : fw_X (lay, own, cc, nL, d, r) (p, l, e, R, s, m, args, below, meth, c, D, adr, cA, A, cells, slots, Q) := ⟨hx, hb, hml, hown, hts, hK, hA, hR⟩
  obtain ⟨y, e1, e2⟩ := bind_some hf
  cases e2
  refine a _ X ρ σ y.1 y.2 H locs ls [] hL hM (Nat.le_refl _) e1 (fun H1 l1 hM1 => ?_)
  exact lv_lstore_n hx hb h hi hL hn rfl (fun ls' hl => k.1 rfl H1 l1 ls' (fw_L_sl hT hl) hM1)
theorem fs_ast {i q : Nat} (a : fw_E (lay, own, cc, nL, d, r) T 0 pc pc1 (q + 2) f) (h : decode cc pc1 = .ok (.astore i, 2)) (hn : i < nL) (hT : fw_tc T' T i (q + 2) = true) : fw_S (lay, own, cc, nL, d, r) T pc (stS i f) (pc1 + 2, T') B C := by
  rintro ⟨p, l, e, R, s, m, args, below, meth, c, D, adr, cA, A, cells, slots, Q⟩ ⟨hx, hb, hml, hown, hts, hK, hA, hR⟩ ρ σ o x ρ' σ' H locs ls hL hM hf k
  have X : fw_X (lay, own, cc, nL, d, r) (p, l, e, R, s, m, args, below, meth, c, D, adr, cA, A, cells, slots, Q) := ⟨hx, hb, hml, hown, hts, hK, hA, hR⟩
  obtain ⟨y, e1, e2⟩ := bind_some hf
  cases e2
  refine a _ X ρ σ y.1 y.2 H locs ls [] hL hM (Nat.le_refl _) e1 (fun H1 l1 hM1 => ?_)
  exact lv_astore hx hb h hL hn rfl (fun ls' hl => k.1 rfl H1 l1 ls' (fw_L_st hT hl) hM1)
theorem fs_astn {i q : Nat} {n : Fin 4} (a : fw_E (lay, own, cc, nL, d, r) T 0 pc pc1 (q + 2) f) (h : decode cc pc1 = .ok (.astore_n n, 1)) (hn : i < nL) (hT : fw_tc T' T i (q + 2) = true) (hi : (n : Nat) = i := by rfl) : fw_S (lay, own, cc, nL, d, r) T pc (stS i f) (pc1 + 1, T') B C := by
  rintro ⟨p, l, e, R, s, m, args, below, meth, c, D, adr, cA, A, cells, slots, Q⟩ ⟨hx, hb, hml, hown, hts, hK, hA, hR⟩ ρ σ o x ρ' σ' H locs ls hL hM hf k
  have X : fw_X (lay, own, cc, nL, d, r) (p, l, e, R, s, m, args, below, meth, c, D, adr, cA, A, cells, slots, Q) := ⟨hx, hb, hml, hown, hts, hK, hA, hR⟩
  obtain ⟨y, e1, e2⟩ := bind_some hf
  cases e2
  refine a _ X ρ σ y.1 y.2 H locs ls [] hL hM (Nat.le_refl _) e1 (fun H1 l1 hM1 => ?_)
  exact lv_astore_n hx hb h hi hL hn rfl (fun ls' hl => k.1 rfl H1 l1 ls' (fw_L_st hT hl) hM1)
theorem fs_inc {i j : Nat} {n : Int} (hj : T[j]? = some (i, 0)) (h : decode cc pc = .ok (.iinc i n, 3)) (hn : i < nL) (hT : fw_tc T' T i 0 = true) : fw_S (lay, own, cc, nL, d, r) T pc (inS i n) (pc + 3, T') B C := by
  rintro ⟨p, l, e, R, s, m, args, below, meth, c, D, adr, cA, A, cells, slots, Q⟩ ⟨hx, hb, hml, hown, hts, hK, hA, hR⟩ ρ σ o x ρ' σ' H locs ls hL hM hf k
  cases hf
  refine lv_iinc (k := j) (x := Int32.ofInt (ρ i)) (v := Int32.ofInt (ρ i + n)) hx hb h hL (by rw [List.getElem?_map, hj]; rfl) (Int32.ofInt_add _ _).symm hn rfl (fun ls' hl => k.1 rfl H locs ls' (fw_L_st (t := 0) hT hl) hM)
theorem fs_skip (hT : fw_ts T' T = true) : fw_S (lay, own, cc, nL, d, r) T pc skS (pc, T') B C := by
  intro G X ρ σ o x ρ' σ' H locs ls hL hM hf k
  cases hf
  exact k.1 rfl H locs ls (fw_L_sub hT hL) hM
theorem fs_goto {a : SM} (A1 : fw_S (lay, own, cc, nL, d, r) T pc a (pc1, T') B C) (h : decode cc pc1 = .ok (.goto off, 3)) (ht : (pc1 : Int) + off = (tgt : Int)) : fw_S (lay, own, cc, nL, d, r) T pc a (tgt, T') B C := by
  rintro ⟨p, l, e, R, s, m, args, below, meth, c, D, adr, cA, A, cells, slots, Q⟩ ⟨hx, hb, hml, hown, hts, hK, hA, hR⟩ ρ σ o x ρ' σ' H locs ls hL hM hf k
  have X : fw_X (lay, own, cc, nL, d, r) (p, l, e, R, s, m, args, below, meth, c, D, adr, cA, A, cells, slots, Q) := ⟨hx, hb, hml, hown, hts, hK, hA, hR⟩
  refine A1 _ X ρ σ o x ρ' σ' H locs ls hL hM hf ⟨fun e0 H1 l1 ls1 hL1 hM1 => ?_, k.2⟩
  exact lv_goto hx hb h ht (k.1 e0 H1 l1 ls1 hL1 hM1)
theorem fs_weak {a : SM} (A1 : fw_S (lay, own, cc, nL, d, r) T pc a (pc1, T) B C) (hT : fw_ts T' T = true) : fw_S (lay, own, cc, nL, d, r) T pc a (pc1, T') B C := by
  intro G X ρ σ o x ρ' σ' H locs ls hL hM hf k
  exact A1 G X ρ σ o x ρ' σ' H locs ls hL hM hf ⟨fun e0 H1 l1 ls1 hL1 hM1 => k.1 e0 H1 l1 ls1 (fw_L_sub hT hL1) hM1, k.2⟩
theorem fw_K0 {S : SI} {G : GX} {x : Int} {ρ' : Lo} {σ' : Me} (h : ∀ H' locs' ls', fw_L S G N.2 ρ' ls' → fw_M S G σ' H' locs' → fw_W G H' locs' N.1 ls' []) : fw_K S G N B C 0 x ρ' σ' := by
  unfold fw_K
  refine ⟨fun _ => h, ?_, ?_, ?_, ?_⟩ <;> intro z <;> exact absurd z (by decide)
theorem fs_seq {a a2 : SM} {T2 : FT} (A1 : fw_S (lay, own, cc, nL, d, r) T pc a (pc1, T2) B C) (A2 : fw_S (lay, own, cc, nL, d, r) T2 pc1 a2 N B C) : fw_S (lay, own, cc, nL, d, r) T pc (sq a a2) N B C := by
  intro G X ρ σ o x ρ' σ' H locs ls hL hM hf k
  obtain ⟨⟨o1, x1, ρ1, σ1⟩, e1, e2⟩ := bind_some hf
  refine A1 G X ρ σ o1 x1 ρ1 σ1 H locs ls hL hM e1 ?_
  by_cases h0 : o1 = 0
  · subst h0
    exact fw_K0 (fun H1 l1 ls1 hL1 hM1 => A2 G X ρ1 σ1 o x ρ' σ' H1 l1 ls1 hL1 hM1 e2 k)
  · rw [if_neg (show ¬ ((o1, x1, ρ1, σ1) : Nat × Int × Lo × Me).1 = 0 from h0)] at e2
    cases e2
    exact ⟨fun z => absurd z h0, k.2⟩
theorem fs_if {c : BM} {a a2 : SM} (h : fw_B (lay, own, cc, nL, d, r) T 0 pc pt pf c) (A1 : fw_S (lay, own, cc, nL, d, r) T pt a N B C) (A2 : fw_S (lay, own, cc, nL, d, r) T pf a2 N B C) : fw_S (lay, own, cc, nL, d, r) T pc (ifS c a a2) N B C := by
  intro G X ρ σ o x ρ' σ' H locs ls hL hM hf k
  obtain ⟨y, e1, e2⟩ := bind_some hf
  refine h G X ρ σ y.1 y.2 H locs ls [] hL hM (Nat.le_refl _) e1 (fun H1 l1 hM1 => ?_)
  by_cases hy : y.1 = true
  · rw [if_pos hy] at e2 ⊢
    exact A1 G X ρ y.2 o x ρ' σ' H1 l1 ls hL hM1 e2 k
  · rw [if_neg hy] at e2 ⊢
    exact A2 G X ρ y.2 o x ρ' σ' H1 l1 ls hL hM1 e2 k
theorem fs_brk (h : decode cc pc = .ok (.goto off, 3)) (ht : (pc : Int) + off = (tgt : Int)) (hT : fw_ts T' T = true) : fw_S (lay, own, cc, nL, d, r) T pc brS N (tgt, T') C := by
  rintro ⟨p, l, e, R, s, m, args, below, meth, c, D, adr, cA, A, cells, slots, Q⟩ ⟨hx, hb, hml, hown, hts, hK, hA, hR⟩ ρ σ o x ρ' σ' H locs ls hL hM hf k
  cases hf
  exact lv_goto hx hb h ht (k.2.1 rfl H locs ls (fw_L_sub hT hL) hM)
theorem fs_cnt (h : decode cc pc = .ok (.goto off, 3)) (ht : (pc : Int) + off = (tgt : Int)) (hT : fw_ts T' T = true) : fw_S (lay, own, cc, nL, d, r) T pc ctS N B (tgt, T') := by
  rintro ⟨p, l, e, R, s, m, args, below, meth, c, D, adr, cA, A, cells, slots, Q⟩ ⟨hx, hb, hml, hown, hts, hK, hA, hR⟩ ρ σ o x ρ' σ' H locs ls hL hM hf k
  cases hf
  exact lv_goto hx hb h ht (k.2.2.1 rfl H locs ls (fw_L_sub hT hL) hM)
/-- a break, a continue without a jump of its own: what comes next is where it goes -/
theorem fs_brk0 (hT : fw_ts T' T = true) : fw_S (lay, own, cc, nL, d, r) T pc brS N (pc, T') C := by
  intro G X ρ σ o x ρ' σ' H locs ls hL hM hf k
  cases hf
  exact k.2.1 rfl H locs ls (fw_L_sub hT hL) hM
theorem fs_cnt0 (hT : fw_ts T' T = true) : fw_S (lay, own, cc, nL, d, r) T pc ctS N B (pc, T') := by
  intro G X ρ σ o x ρ' σ' H locs ls hL hM hf k
  cases hf
  exact k.2.2.1 rfl H locs ls (fw_L_sub hT hL) hM
theorem fs_ret {t : Nat} (a : fw_E (lay, own, cc, nL, d, some t) T 0 pc pc1 t f) (h : fw_rd cc (some t) pc1) : fw_S (lay, own, cc, nL, d, some t) T pc (rtS f) N B C := by
  intro G X ρ σ o x ρ' σ' H locs ls hL hM hf k
  obtain ⟨y, e1, e2⟩ := bind_some hf
  cases e2
  refine a _ X ρ σ y.1 y.2 H locs ls [] hL hM (Nat.le_refl _) e1 (fun H1 l1 hM1 => ?_)
  exact k.2.2.2.1 rfl H1 l1 ls pc1 h hM1
theorem fs_rv (h : decode cc pc = .ok (.return_, 1)) : fw_S (lay, own, cc, nL, d, none) T pc rvS N B C := by
  intro G X ρ σ o x ρ' σ' H locs ls hL hM hf k
  cases hf
  exact k.2.2.2.1 rfl H locs ls pc h hM
theorem fs_thr (h : fw_td cc pc) : fw_S (lay, own, cc, nL, d, r) T pc thS N B C := by
  intro G X ρ σ o x ρ' σ' H locs ls hL hM hf k
  cases hf
  exact k.2.2.2.2 rfl H locs ls pc h hM
theorem fs_while {c : BM} {a u : SM} {n pu : Nat} (h : fw_B (lay, own, cc, nL, d, r) T 0 pc pt pf c) (A1 : fw_S (lay, own, cc, nL, d, r) T pt a (pu, T) (pf, T) (pu, T)) (A2 : fw_S (lay, own, cc, nL, d, r) T pu u (pc, T) (pc, T) (pc, T)) : fw_S (lay, own, cc, nL, d, r) T pc (whS c a u n) (pf, T) B C := by
  intro G X
  induction n with
  | zero => intro ρ σ o x ρ' σ' H locs ls hL hM hf k; cases hf
  | succ n ih =>
    intro ρ σ o x ρ' σ' H locs ls hL hM hf k
    obtain ⟨y, e1, e2⟩ := bind_some hf
    refine h G X ρ σ y.1 y.2 H locs ls [] hL hM (Nat.le_refl _) e1 (fun H1 l1 hM1 => ?_)
    by_cases hy : y.1 = true
    · rw [if_pos hy] at e2 ⊢
      obtain ⟨⟨o1, x1, ρ1, σ1⟩, e3, e4⟩ := bind_some e2
      have next : o1 = 0 ∨ o1 = 2 → ∀ H' locs' ls', fw_L (lay, own, cc, nL, d, r) G T ρ1 ls' → fw_M (lay, own, cc, nL, d, r) G σ1 H' locs' → fw_W G H' locs' pu ls' [] := by
        intro h02 H2 l2 ls2 hL2 hM2
        rw [if_pos (show ((o1, x1, ρ1, σ1) : Nat × Int × Lo × Me).1 = 0 ∨ ((o1, x1, ρ1, σ1) : Nat × Int × Lo × Me).1 = 2 from h02)] at e4
        obtain ⟨⟨o2, x2, ρ2, σ2⟩, e5, e6⟩ := bind_some e4
        by_cases h0 : o2 = 0
        · subst h0
          exact A2 G X ρ1 σ1 0 x2 ρ2 σ2 H2 l2 ls2 hL2 hM2 e5 (fw_K0 (fun H3 l3 ls3 hL3 hM3 => ih ρ2 σ2 o x ρ' σ' H3 l3 ls3 hL3 hM3 e6 k))
        · rw [if_neg (show ¬ ((o2, x2, ρ2, σ2) : Nat × Int × Lo × Me).1 = 0 from h0)] at e6
          cases e6
      refine A1 G X ρ y.2 o1 x1 ρ1 σ1 H1 l1 ls hL hM1 e3 ⟨fun z => next (Or.inl z), fun z => ?_, fun z => next (Or.inr z), fun z => ?_, fun z => ?_⟩
      · subst z
        cases e4
        exact k.1 rfl
      · subst z
        cases e4
        exact k.2.2.2.1 rfl
      · subst z
        cases e4
        exact k.2.2.2.2 rfl
    · rw [if_neg hy] at e2 ⊢
      cases e2
      exact k.1 rfl H1 l1 ls hL hM1
end FWS
end
section
section FWP
variable {lay : List CD} {own : String} {cc : ByteArray} {nL d : Nat} {r : Option Nat} {T T' : FT} {b pc pc1 pc2 pc3 pt pf tgt : Nat} {f g h3 : EM} {off : Int} {N B C : Nat × FT}
theorem fw_D {lay : List CD} {adr : Nat → Nat} {cA : Nat → ClassId} {σ σ' : Me} {A : Nat → Prop} (h : va_D A (fw_w lay adr cA σ)) : va_D A (fw_w lay adr cA σ') := by
  refine ⟨fun i j u v hi hj huv => ?_, fun k q hk => ?_⟩
  · obtain ⟨a, ha, rfl⟩ := fw_w_of hi
    obtain ⟨b, hb, rfl⟩ := fw_w_of hj
    exact h.1 i j _ _ (fw_w_at ha) (fw_w_at hb) huv
  · obtain ⟨a, ha, rfl⟩ := fw_w_of hk
    exact h.2 k (adr k, fw_c adr cA σ k a) (fw_w_at ha)
theorem fw_M_put {S : SI} {p : Program} {l : Launch} {e : Env} {R : Room} {s : State} {m : MethodId} {args : Array Value} {below : List Frame} {meth : Method} {c : Code} {D : va_G} {adr : Nat → Nat} {cA : Nat → ClassId} {A : Nat → Prop} {cells slots : Nat} {Q : State → Prop} {σ : Me} {v i k : Nat} {x : Int} {q : CD} {e1 : va_E} {H : Heap} {locs : List Loc}
    (hok : fw_ok S.1) (hk : S.1[k]? = some q) (hv : ∃ j, j < 64 ∧ v = 64 * k + j) (he : fw_c adr cA (u2 σ v i x) k q = e1) (hP : va_P D vwCl ((fw_w S.1 adr cA σ).set k (adr k, e1)) H) (hD : va_D A ((fw_w S.1 adr cA σ).set k (adr k, e1))) (hS : va_S A s.heap H locs) : fw_M S (p, l, e, R, s, m, args, below, meth, c, D, adr, cA, A, cells, slots, Q) (u2 σ v i x) H locs := by
  rw [fw_w_set hok hk hv he] at hP hD
  exact ⟨hP, hD, hS⟩
theorem fw_jlt {k ci j : Nat} {fs : List (Nat × Nat)} {z : Nat × Nat} (hok : fw_ok lay) (hk : lay[k]? = some (.inl (ci, fs))) (hj : fs[j]? = some z) : j < 64 := by
  have h1 : fs.length ≤ 64 := hok k (ci, fs) hk
  have h2 := (List.getElem?_eq_some_iff.mp hj).1
  omega
theorem fs_put {k ci j q index : Nat} {fs : List (Nat × Nat)} (ob : fw_E (lay, own, cc, nL, d, r) T 0 pc pc1 (k + 2) f) (a : fw_E (lay, own, cc, nL, d, r) T 1 pc1 pc2 0 g) (hl : fw_fp own index ci j .int) (hk : lay[k]? = some (.inl (ci, fs))) (hj : fs[j]? = some (1, q)) (h : decode cc pc2 = .ok (.putfield index, 3)) (hT : fw_ts T' T = true) : fw_S (lay, own, cc, nL, d, r) T pc (pfS (64 * k + j) f g) (pc2 + 3, T') B C := by
  rintro ⟨p, l, e, R, s, m, args, below, meth, c, D, adr, cA, A, cells, slots, Q⟩ ⟨hx, hb, hml, hown, hts, hK, hA, hR⟩ ρ σ o x ρ' σ' H locs ls hL hM hf k_
  have X : fw_X (lay, own, cc, nL, d, r) (p, l, e, R, s, m, args, below, meth, c, D, adr, cA, A, cells, slots, Q) := ⟨hx, hb, hml, hown, hts, hK, hA, hR⟩
  obtain ⟨y, e1, e2⟩ := bind_some hf
  obtain ⟨z, e3, e4⟩ := bind_some e2
  obtain ⟨C1, Tt, N1, t0, hc, hin, hjN, hw, hty, hnm, hfin, ht0⟩ := hl
  cases e4
  refine ob _ X ρ σ y.1 y.2 H locs ls [] hL hM (Nat.le_refl _) e1 (fun H1 l1 hM1 => ?_)
  refine a _ X ρ y.2 z.1 z.2 H1 l1 ls _ hL hM1 (by simp only [List.map_cons, List.sum_cons]; have : (fw_val (p, l, e, R, s, m, args, below, meth, c, D, adr, cA, A, cells, slots, Q) (k + 2) y.1).category = 1 := rfl; simp only [this, List.map_nil, List.sum_nil]; omega) e3 (fun H2 l2 hM2 => ?_)
  refine va_put hx hb hts hin t0 hty hnm hown hK hM2.1 hM2.2.1 hM2.2.2 k (fw_w_at hk) hc j hjN (hts _ hw) (fun _ z => z) hfin (ht0 ▸ hty j hjN) rfl rfl (by simpa using (List.getElem?_eq_some_iff.mp hj).1) h (fun H3 l3 hP hD hS => ?_)
  exact k_.1 rfl H3 l3 ls (fw_L_sub hT hL) (fw_M_put (S := (lay, own, cc, nL, d, r)) hR.2.2.2.2.1 hk ⟨j, fw_jlt hR.2.2.2.2.1 hk hj, rfl⟩ (fw_c_fld hj (by simp only [fw_f, u2_s]; rfl)) hP hD hS)
theorem fs_putL {k ci j q index : Nat} {fs : List (Nat × Nat)} (ob : fw_E (lay, own, cc, nL, d, r) T 0 pc pc1 (k + 2) f) (a : fw_E (lay, own, cc, nL, d, r) T 1 pc1 pc2 1 g) (hl : fw_fp own index ci j .long) (hk : lay[k]? = some (.inl (ci, fs))) (hj : fs[j]? = some (2, q)) (h : decode cc pc2 = .ok (.putfield index, 3)) (hT : fw_ts T' T = true) : fw_S (lay, own, cc, nL, d, r) T pc (pfS (64 * k + j) f g) (pc2 + 3, T') B C := by
  rintro ⟨p, l, e, R, s, m, args, below, meth, c, D, adr, cA, A, cells, slots, Q⟩ ⟨hx, hb, hml, hown, hts, hK, hA, hR⟩ ρ σ o x ρ' σ' H locs ls hL hM hf k_
  have X : fw_X (lay, own, cc, nL, d, r) (p, l, e, R, s, m, args, below, meth, c, D, adr, cA, A, cells, slots, Q) := ⟨hx, hb, hml, hown, hts, hK, hA, hR⟩
  obtain ⟨y, e1, e2⟩ := bind_some hf
  obtain ⟨z, e3, e4⟩ := bind_some e2
  obtain ⟨C1, Tt, N1, t0, hc, hin, hjN, hw, hty, hnm, hfin, ht0⟩ := hl
  cases e4
  refine ob _ X ρ σ y.1 y.2 H locs ls [] hL hM (Nat.le_refl _) e1 (fun H1 l1 hM1 => ?_)
  refine a _ X ρ y.2 z.1 z.2 H1 l1 ls _ hL hM1 (by simp only [List.map_cons, List.sum_cons]; have : (fw_val (p, l, e, R, s, m, args, below, meth, c, D, adr, cA, A, cells, slots, Q) (k + 2) y.1).category = 1 := rfl; simp only [this, List.map_nil, List.sum_nil]; omega) e3 (fun H2 l2 hM2 => ?_)
  refine va_put hx hb hts hin t0 hty hnm hown hK hM2.1 hM2.2.1 hM2.2.2 k (fw_w_at hk) hc j hjN (hts _ hw) (fun _ z => z) hfin (ht0 ▸ hty j hjN) rfl rfl (by simpa using (List.getElem?_eq_some_iff.mp hj).1) h (fun H3 l3 hP hD hS => ?_)
  exact k_.1 rfl H3 l3 ls (fw_L_sub hT hL) (fw_M_put (S := (lay, own, cc, nL, d, r)) hR.2.2.2.2.1 hk ⟨j, fw_jlt hR.2.2.2.2.1 hk hj, rfl⟩ (fw_c_fld hj (by simp only [fw_f, u2_s]; rfl)) hP hD hS)
theorem fs_putZ {k ci j q index : Nat} {fs : List (Nat × Nat)} (ob : fw_E (lay, own, cc, nL, d, r) T 0 pc pc1 (k + 2) f) (a : fw_E (lay, own, cc, nL, d, r) T 1 pc1 pc2 0 g) (hl : fw_fp own index ci j .boolean) (hk : lay[k]? = some (.inl (ci, fs))) (hj : fs[j]? = some (1, q)) (h : decode cc pc2 = .ok (.putfield index, 3)) (hT : fw_ts T' T = true) : fw_S (lay, own, cc, nL, d, r) T pc (pzS (64 * k + j) f g) (pc2 + 3, T') B C := by
  rintro ⟨p, l, e, R, s, m, args, below, meth, c, D, adr, cA, A, cells, slots, Q⟩ ⟨hx, hb, hml, hown, hts, hK, hA, hR⟩ ρ σ o x ρ' σ' H locs ls hL hM hf k_
  have X : fw_X (lay, own, cc, nL, d, r) (p, l, e, R, s, m, args, below, meth, c, D, adr, cA, A, cells, slots, Q) := ⟨hx, hb, hml, hown, hts, hK, hA, hR⟩
  obtain ⟨y, e1, e2⟩ := bind_some hf
  obtain ⟨z, e3, e4⟩ := bind_some e2
  obtain ⟨C1, Tt, N1, t0, hc, hin, hjN, hw, hty, hnm, hfin, ht0⟩ := hl
  split at e4
  case isFalse => cases e4
  rename_i hz
  cases e4
  refine ob _ X ρ σ y.1 y.2 H locs ls [] hL hM (Nat.le_refl _) e1 (fun H1 l1 hM1 => ?_)
  refine a _ X ρ y.2 z.1 z.2 H1 l1 ls _ hL hM1 (by simp only [List.map_cons, List.sum_cons]; have : (fw_val (p, l, e, R, s, m, args, below, meth, c, D, adr, cA, A, cells, slots, Q) (k + 2) y.1).category = 1 := rfl; simp only [this, List.map_nil, List.sum_nil]; omega) e3 (fun H2 l2 hM2 => ?_)
  refine va_put hx hb hts hin t0 hty hnm hown hK hM2.1 hM2.2.1 hM2.2.2 k (fw_w_at hk) hc j hjN (hts _ hw) (fun _ z => z) hfin (ht0 ▸ hty j hjN) (by rcases hz with hz | hz <;> rw [hz] <;> rfl) (by rcases hz with hz | hz <;> rw [hz] <;> rfl) (by simpa using (List.getElem?_eq_some_iff.mp hj).1) h (fun H3 l3 hP hD hS => ?_)
  exact k_.1 rfl H3 l3 ls (fw_L_sub hT hL) (fw_M_put (S := (lay, own, cc, nL, d, r)) hR.2.2.2.2.1 hk ⟨j, fw_jlt hR.2.2.2.2.1 hk hj, rfl⟩ (fw_c_fld hj (by simp only [fw_f, u2_s]; rfl)) hP hD hS)
theorem fs_po_add {k ci j q index : Nat} {fs : List (Nat × Nat)} (ob : fw_E (lay, own, cc, nL, d, r) T 0 pc pc1 (k + 2) f) (h1 : decode cc pc1 = .ok (.dup, 1)) (h2 : decode cc (pc1 + 1) = .ok (.getfield index, 3)) (a : fw_E (lay, own, cc, nL, d, r) T 2 (pc1 + 1 + 3) pc2 0 g) (h3 : decode cc pc2 = .ok (.iadd, 1)) (hl : fw_fp own index ci j .int) (hk : lay[k]? = some (.inl (ci, fs))) (hj : fs[j]? = some (1, q)) (h : decode cc (pc2 + 1) = .ok (.putfield index, 3)) (hT : fw_ts T' T = true) : fw_S (lay, own, cc, nL, d, r) T pc (poS (64 * k + j) addI f g) (pc2 + 1 + 3, T') B C := by
  rintro ⟨p, l, e, R, s, m, args, below, meth, c, D, adr, cA, A, cells, slots, Q⟩ ⟨hx, hb, hml, hown, hts, hK, hA, hR⟩ ρ σ o x ρ' σ' H locs ls hL hM hf k_
  have X : fw_X (lay, own, cc, nL, d, r) (p, l, e, R, s, m, args, below, meth, c, D, adr, cA, A, cells, slots, Q) := ⟨hx, hb, hml, hown, hts, hK, hA, hR⟩
  obtain ⟨y, e1, e2⟩ := bind_some hf
  obtain ⟨z, e3, e4⟩ := bind_some e2
  obtain ⟨C1, Tt, N1, t0, hc, hin, hjN, hw, hty, hnm, hfin, ht0⟩ := hl
  cases e4
  refine ob _ X ρ σ y.1 y.2 H locs ls [] hL hM (Nat.le_refl _) e1 (fun H1 l1 hM1 => ?_)
  refine lv_dup hx hb h1 rfl ?_
  refine va_get hx hb hts hin hown hK hM1.1 k (fw_w_at hk) hc j hjN (hts _ hw) (fun _ z => z) (fw_fv hj) h2 ?_
  refine a _ X ρ y.2 z.1 z.2 H1 l1 ls [.int (Int32.ofInt (y.2 (64 * k + j) 0)), .ref (adr k)] hL hM1 (Nat.le_refl _) e3 (fun H2 l2 hM2 => ?_)
  refine lv_iadd hx hb h3 ?_
  refine va_put hx hb hts hin t0 hty hnm hown hK hM2.1 hM2.2.1 hM2.2.2 k (fw_w_at hk) hc j hjN (hts _ hw) (fun _ z => z) hfin (ht0 ▸ hty j hjN) rfl rfl (by simpa using (List.getElem?_eq_some_iff.mp hj).1) h (fun H3 l3 hP hD hS => ?_)
  exact k_.1 rfl H3 l3 ls (fw_L_sub hT hL) (fw_M_put (S := (lay, own, cc, nL, d, r)) hR.2.2.2.2.1 hk ⟨j, fw_jlt hR.2.2.2.2.1 hk hj, rfl⟩ (fw_c_fld hj (by simp only [fw_f, u2_s]; exact congrArg Value.int (Int32.ofInt_add _ _))) hP hD hS)
theorem fs_po_sub {k ci j q index : Nat} {fs : List (Nat × Nat)} (ob : fw_E (lay, own, cc, nL, d, r) T 0 pc pc1 (k + 2) f) (h1 : decode cc pc1 = .ok (.dup, 1)) (h2 : decode cc (pc1 + 1) = .ok (.getfield index, 3)) (a : fw_E (lay, own, cc, nL, d, r) T 2 (pc1 + 1 + 3) pc2 0 g) (h3 : decode cc pc2 = .ok (.isub, 1)) (hl : fw_fp own index ci j .int) (hk : lay[k]? = some (.inl (ci, fs))) (hj : fs[j]? = some (1, q)) (h : decode cc (pc2 + 1) = .ok (.putfield index, 3)) (hT : fw_ts T' T = true) : fw_S (lay, own, cc, nL, d, r) T pc (poS (64 * k + j) subI f g) (pc2 + 1 + 3, T') B C := by
  rintro ⟨p, l, e, R, s, m, args, below, meth, c, D, adr, cA, A, cells, slots, Q⟩ ⟨hx, hb, hml, hown, hts, hK, hA, hR⟩ ρ σ o x ρ' σ' H locs ls hL hM hf k_
  have X : fw_X (lay, own, cc, nL, d, r) (p, l, e, R, s, m, args, below, meth, c, D, adr, cA, A, cells, slots, Q) := ⟨hx, hb, hml, hown, hts, hK, hA, hR⟩
  obtain ⟨y, e1, e2⟩ := bind_some hf
  obtain ⟨z, e3, e4⟩ := bind_some e2
  obtain ⟨C1, Tt, N1, t0, hc, hin, hjN, hw, hty, hnm, hfin, ht0⟩ := hl
  cases e4
  refine ob _ X ρ σ y.1 y.2 H locs ls [] hL hM (Nat.le_refl _) e1 (fun H1 l1 hM1 => ?_)
  refine lv_dup hx hb h1 rfl ?_
  refine va_get hx hb hts hin hown hK hM1.1 k (fw_w_at hk) hc j hjN (hts _ hw) (fun _ z => z) (fw_fv hj) h2 ?_
  refine a _ X ρ y.2 z.1 z.2 H1 l1 ls [.int (Int32.ofInt (y.2 (64 * k + j) 0)), .ref (adr k)] hL hM1 (Nat.le_refl _) e3 (fun H2 l2 hM2 => ?_)
  refine lv_isub hx hb h3 ?_
  refine va_put hx hb hts hin t0 hty hnm hown hK hM2.1 hM2.2.1 hM2.2.2 k (fw_w_at hk) hc j hjN (hts _ hw) (fun _ z => z) hfin (ht0 ▸ hty j hjN) rfl rfl (by simpa using (List.getElem?_eq_some_iff.mp hj).1) h (fun H3 l3 hP hD hS => ?_)
  exact k_.1 rfl H3 l3 ls (fw_L_sub hT hL) (fw_M_put (S := (lay, own, cc, nL, d, r)) hR.2.2.2.2.1 hk ⟨j, fw_jlt hR.2.2.2.2.1 hk hj, rfl⟩ (fw_c_fld hj (by simp only [fw_f, u2_s]; exact congrArg Value.int (Int32.ofInt_sub _ _))) hP hD hS)
theorem fs_po_or {k ci j q index : Nat} {fs : List (Nat × Nat)} (ob : fw_E (lay, own, cc, nL, d, r) T 0 pc pc1 (k + 2) f) (h1 : decode cc pc1 = .ok (.dup, 1)) (h2 : decode cc (pc1 + 1) = .ok (.getfield index, 3)) (a : fw_E (lay, own, cc, nL, d, r) T 2 (pc1 + 1 + 3) pc2 0 g) (h3 : decode cc pc2 = .ok (.ior, 1)) (hl : fw_fp own index ci j .int) (hk : lay[k]? = some (.inl (ci, fs))) (hj : fs[j]? = some (1, q)) (h : decode cc (pc2 + 1) = .ok (.putfield index, 3)) (hT : fw_ts T' T = true) : fw_S (lay, own, cc, nL, d, r) T pc (poS (64 * k + j) iorI f g) (pc2 + 1 + 3, T') B C := by
  rintro ⟨p, l, e, R, s, m, args, below, meth, c, D, adr, cA, A, cells, slots, Q⟩ ⟨hx, hb, hml, hown, hts, hK, hA, hR⟩ ρ σ o x ρ' σ' H locs ls hL hM hf k_
  have X : fw_X (lay, own, cc, nL, d, r) (p, l, e, R, s, m, args, below, meth, c, D, adr, cA, A, cells, slots, Q) := ⟨hx, hb, hml, hown, hts, hK, hA, hR⟩
  obtain ⟨y, e1, e2⟩ := bind_some hf
  obtain ⟨z, e3, e4⟩ := bind_some e2
  obtain ⟨C1, Tt, N1, t0, hc, hin, hjN, hw, hty, hnm, hfin, ht0⟩ := hl
  cases e4
  refine ob _ X ρ σ y.1 y.2 H locs ls [] hL hM (Nat.le_refl _) e1 (fun H1 l1 hM1 => ?_)
  refine lv_dup hx hb h1 rfl ?_
  refine va_get hx hb hts hin hown hK hM1.1 k (fw_w_at hk) hc j hjN (hts _ hw) (fun _ z => z) (fw_fv hj) h2 ?_
  refine a _ X ρ y.2 z.1 z.2 H1 l1 ls [.int (Int32.ofInt (y.2 (64 * k + j) 0)), .ref (adr k)] hL hM1 (Nat.le_refl _) e3 (fun H2 l2 hM2 => ?_)
  refine lv_ior hx hb h3 ?_
  refine va_put hx hb hts hin t0 hty hnm hown hK hM2.1 hM2.2.1 hM2.2.2 k (fw_w_at hk) hc j hjN (hts _ hw) (fun _ z => z) hfin (ht0 ▸ hty j hjN) rfl rfl (by simpa using (List.getElem?_eq_some_iff.mp hj).1) h (fun H3 l3 hP hD hS => ?_)
  exact k_.1 rfl H3 l3 ls (fw_L_sub hT hL) (fw_M_put (S := (lay, own, cc, nL, d, r)) hR.2.2.2.2.1 hk ⟨j, fw_jlt hR.2.2.2.2.1 hk hj, rfl⟩ (fw_c_fld hj (by simp only [fw_f, u2_s]; exact congrArg Value.int (Int32.ofInt_toInt _))) hP hD hS)
def nzI (x : Int) : Int := (vp_nar .boolean (Int32.ofInt x)).toInt
def idI (x : Int) : Int := x
theorem fs_iast {k n : Nat} (ar : fw_E (lay, own, cc, nL, d, r) T 0 pc pc1 (k + 2) f) (ix : fw_E (lay, own, cc, nL, d, r) T 1 pc1 pc2 0 g) (a : fw_E (lay, own, cc, nL, d, r) T 2 pc2 pc3 0 h3) (hk : lay[k]? = some (.inr (0, n))) (h : decode cc pc3 = .ok (.iastore, 1)) (hT : fw_ts T' T = true) : fw_S (lay, own, cc, nL, d, r) T pc (asS (64 * k) n idI f g h3) (pc3 + 1, T') B C := by
  rintro ⟨p, l, e, R, s, m, args, below, meth, c, D, adr, cA, A, cells, slots, Q⟩ ⟨hx, hb, hml, hown, hts, hK, hA, hR⟩ ρ σ o x ρ' σ' H locs ls hL hM hf k_
  have X : fw_X (lay, own, cc, nL, d, r) (p, l, e, R, s, m, args, below, meth, c, D, adr, cA, A, cells, slots, Q) := ⟨hx, hb, hml, hown, hts, hK, hA, hR⟩
  obtain ⟨y, e1, e2⟩ := bind_some hf
  obtain ⟨z, e3, e4⟩ := bind_some e2
  obtain ⟨u, e5, e6⟩ := bind_some e4
  obtain ⟨w, e7, e8⟩ := bind_some e6
  cases e8
  obtain ⟨h1, h2⟩ := fw_in e7
  refine ar _ X ρ σ y.1 y.2 H locs ls [] hL hM (Nat.le_refl _) e1 (fun H1 l1 hM1 => ?_)
  refine ix _ X ρ y.2 z.1 z.2 H1 l1 ls [.ref (adr k)] hL hM1 (Nat.le_refl _) e3 (fun H2 l2 hM2 => ?_)
  refine a _ X ρ z.2 u.1 u.2 H2 l2 ls [.int (Int32.ofInt z.1), .ref (adr k)] hL hM2 (Nat.le_refl _) e5 (fun H3 l3 hM3 => ?_)
  subst h2
  refine va_iast hx hb hK hM3.1 hM3.2.1 hM3.2.2 k 0 (fw_w_at hk) rfl h1 h (fun H4 l4 hP hD hS => ?_)
  exact k_.1 rfl H4 l4 ls (fw_L_sub hT hL) (fw_M_put (S := (lay, own, cc, nL, d, r)) hR.2.2.2.2.1 hk ⟨0, by decide, rfl⟩ (fw_c_arr (by decide)) hP hD hS)
theorem fs_bast {k n : Nat} (ar : fw_E (lay, own, cc, nL, d, r) T 0 pc pc1 (k + 2) f) (ix : fw_E (lay, own, cc, nL, d, r) T 1 pc1 pc2 0 g) (a : fw_E (lay, own, cc, nL, d, r) T 2 pc2 pc3 0 h3) (hk : lay[k]? = some (.inr (2, n))) (h : decode cc pc3 = .ok (.bastore, 1)) (hT : fw_ts T' T = true) : fw_S (lay, own, cc, nL, d, r) T pc (asS (64 * k) n i2bI f g h3) (pc3 + 1, T') B C := by
  rintro ⟨p, l, e, R, s, m, args, below, meth, c, D, adr, cA, A, cells, slots, Q⟩ ⟨hx, hb, hml, hown, hts, hK, hA, hR⟩ ρ σ o x ρ' σ' H locs ls hL hM hf k_
  have X : fw_X (lay, own, cc, nL, d, r) (p, l, e, R, s, m, args, below, meth, c, D, adr, cA, A, cells, slots, Q) := ⟨hx, hb, hml, hown, hts, hK, hA, hR⟩
  obtain ⟨y, e1, e2⟩ := bind_some hf
  obtain ⟨z, e3, e4⟩ := bind_some e2
  obtain ⟨u, e5, e6⟩ := bind_some e4
  obtain ⟨w, e7, e8⟩ := bind_some e6
  cases e8
  obtain ⟨h1, h2⟩ := fw_in e7
  refine ar _ X ρ σ y.1 y.2 H locs ls [] hL hM (Nat.le_refl _) e1 (fun H1 l1 hM1 => ?_)
  refine ix _ X ρ y.2 z.1 z.2 H1 l1 ls [.ref (adr k)] hL hM1 (Nat.le_refl _) e3 (fun H2 l2 hM2 => ?_)
  refine a _ X ρ z.2 u.1 u.2 H2 l2 ls [.int (Int32.ofInt z.1), .ref (adr k)] hL hM2 (Nat.le_refl _) e5 (fun H3 l3 hM3 => ?_)
  subst h2
  refine va_bast hx hb hK hM3.1 hM3.2.1 hM3.2.2 k 2 (fw_w_at hk) rfl h1 h (fun H4 l4 hP hD hS => ?_)
  exact k_.1 rfl H4 l4 ls (fw_L_sub hT hL) (fw_M_put (S := (lay, own, cc, nL, d, r)) hR.2.2.2.2.1 hk ⟨0, by decide, rfl⟩ ((fw_c_arr (by decide)).trans (by rw [i2bI, Int32.ofInt_toInt, vp_nar_byte])) hP hD hS)
theorem fs_zast {k n : Nat} (ar : fw_E (lay, own, cc, nL, d, r) T 0 pc pc1 (k + 2) f) (ix : fw_E (lay, own, cc, nL, d, r) T 1 pc1 pc2 0 g) (a : fw_E (lay, own, cc, nL, d, r) T 2 pc2 pc3 0 h3) (hk : lay[k]? = some (.inr (3, n))) (h : decode cc pc3 = .ok (.bastore, 1)) (hT : fw_ts T' T = true) : fw_S (lay, own, cc, nL, d, r) T pc (asS (64 * k) n nzI f g h3) (pc3 + 1, T') B C := by
  rintro ⟨p, l, e, R, s, m, args, below, meth, c, D, adr, cA, A, cells, slots, Q⟩ ⟨hx, hb, hml, hown, hts, hK, hA, hR⟩ ρ σ o x ρ' σ' H locs ls hL hM hf k_
  have X : fw_X (lay, own, cc, nL, d, r) (p, l, e, R, s, m, args, below, meth, c, D, adr, cA, A, cells, slots, Q) := ⟨hx, hb, hml, hown, hts, hK, hA, hR⟩
  obtain ⟨y, e1, e2⟩ := bind_some hf
  obtain ⟨z, e3, e4⟩ := bind_some e2
  obtain ⟨u, e5, e6⟩ := bind_some e4
  obtain ⟨w, e7, e8⟩ := bind_some e6
  cases e8
  obtain ⟨h1, h2⟩ := fw_in e7
  refine ar _ X ρ σ y.1 y.2 H locs ls [] hL hM (Nat.le_refl _) e1 (fun H1 l1 hM1 => ?_)
  refine ix _ X ρ y.2 z.1 z.2 H1 l1 ls [.ref (adr k)] hL hM1 (Nat.le_refl _) e3 (fun H2 l2 hM2 => ?_)
  refine a _ X ρ z.2 u.1 u.2 H2 l2 ls [.int (Int32.ofInt z.1), .ref (adr k)] hL hM2 (Nat.le_refl _) e5 (fun H3 l3 hM3 => ?_)
  subst h2
  refine va_zast hx hb hK hM3.1 hM3.2.1 hM3.2.2 k 3 (fw_w_at hk) rfl h1 h (fun H4 l4 hP hD hS => ?_)
  exact k_.1 rfl H4 l4 ls (fw_L_sub hT hL) (fw_M_put (S := (lay, own, cc, nL, d, r)) hR.2.2.2.2.1 hk ⟨0, by decide, rfl⟩ ((fw_c_arr (by decide)).trans (by rw [nzI, Int32.ofInt_toInt])) hP hD hS)
theorem fs_last {k n : Nat} (ar : fw_E (lay, own, cc, nL, d, r) T 0 pc pc1 (k + 2) f) (ix : fw_E (lay, own, cc, nL, d, r) T 1 pc1 pc2 0 g) (a : fw_E (lay, own, cc, nL, d, r) T 2 pc2 pc3 1 h3) (hk : lay[k]? = some (.inr (1, n))) (h : decode cc pc3 = .ok (.lastore, 1)) (hT : fw_ts T' T = true) : fw_S (lay, own, cc, nL, d, r) T pc (asS (64 * k) n idI f g h3) (pc3 + 1, T') B C := by
  rintro ⟨p, l, e, R, s, m, args, below, meth, c, D, adr, cA, A, cells, slots, Q⟩ ⟨hx, hb, hml, hown, hts, hK, hA, hR⟩ ρ σ o x ρ' σ' H locs ls hL hM hf k_
  have X : fw_X (lay, own, cc, nL, d, r) (p, l, e, R, s, m, args, below, meth, c, D, adr, cA, A, cells, slots, Q) := ⟨hx, hb, hml, hown, hts, hK, hA, hR⟩
  obtain ⟨y, e1, e2⟩ := bind_some hf
  obtain ⟨z, e3, e4⟩ := bind_some e2
  obtain ⟨u, e5, e6⟩ := bind_some e4
  obtain ⟨w, e7, e8⟩ := bind_some e6
  cases e8
  obtain ⟨h1, h2⟩ := fw_in e7
  refine ar _ X ρ σ y.1 y.2 H locs ls [] hL hM (Nat.le_refl _) e1 (fun H1 l1 hM1 => ?_)
  refine ix _ X ρ y.2 z.1 z.2 H1 l1 ls [.ref (adr k)] hL hM1 (Nat.le_refl _) e3 (fun H2 l2 hM2 => ?_)
  refine a _ X ρ z.2 u.1 u.2 H2 l2 ls [.int (Int32.ofInt z.1), .ref (adr k)] hL hM2 (Nat.le_refl _) e5 (fun H3 l3 hM3 => ?_)
  subst h2
  refine va_last hx hb hK hM3.1 hM3.2.1 hM3.2.2 k 1 (fw_w_at hk) rfl h1 h (fun H4 l4 hP hD hS => ?_)
  exact k_.1 rfl H4 l4 ls (fw_L_sub hT hL) (fw_M_put (S := (lay, own, cc, nL, d, r)) hR.2.2.2.2.1 hk ⟨0, by decide, rfl⟩ (fw_c_arL) hP hD hS)
theorem fs_ao_add {k n : Nat} (ar : fw_E (lay, own, cc, nL, d, r) T 0 pc pc1 (k + 2) f) (ix : fw_E (lay, own, cc, nL, d, r) T 1 pc1 pc2 0 g) (h1 : decode cc pc2 = .ok (.dup2, 1)) (h2 : decode cc (pc2 + 1) = .ok (.iaload, 1)) (a : fw_E (lay, own, cc, nL, d, r) T 3 (pc2 + 1 + 1) pc3 0 h3) (h4 : decode cc pc3 = .ok (.iadd, 1)) (hk : lay[k]? = some (.inr (0, n))) (h : decode cc (pc3 + 1) = .ok (.iastore, 1)) (hT : fw_ts T' T = true) : fw_S (lay, own, cc, nL, d, r) T pc (aoS (64 * k) n addI f g h3) (pc3 + 1 + 1, T') B C := by
  rintro ⟨p, l, e, R, s, m, args, below, meth, c, D, adr, cA, A, cells, slots, Q⟩ ⟨hx, hb, hml, hown, hts, hK, hA, hR⟩ ρ σ o x ρ' σ' H locs ls hL hM hf k_
  have X : fw_X (lay, own, cc, nL, d, r) (p, l, e, R, s, m, args, below, meth, c, D, adr, cA, A, cells, slots, Q) := ⟨hx, hb, hml, hown, hts, hK, hA, hR⟩
  obtain ⟨y, e1, e2⟩ := bind_some hf
  obtain ⟨z, e3, e4⟩ := bind_some e2
  obtain ⟨w, e7, e6⟩ := bind_some e4
  obtain ⟨u, e5, e8⟩ := bind_some e6
  cases e8
  obtain ⟨i1, i2⟩ := fw_in e7
  refine ar _ X ρ σ y.1 y.2 H locs ls [] hL hM (Nat.le_refl _) e1 (fun H1 l1 hM1 => ?_)
  refine ix _ X ρ y.2 z.1 z.2 H1 l1 ls [.ref (adr k)] hL hM1 (Nat.le_refl _) e3 (fun H2 l2 hM2 => ?_)
  subst i2
  refine lv_dup2_11 hx hb h1 rfl rfl ?_
  refine va_iald hx hb hK hM2.1 k 0 (fw_w_at hk) rfl i1 h2 ?_
  refine a _ X ρ z.2 u.1 u.2 H2 l2 ls [.int (Int32.ofInt (z.2 (64 * k) (Int32.ofInt z.1).toNatClampNeg)), .int (Int32.ofInt z.1), .ref (adr k)] hL hM2 (Nat.le_refl _) e5 (fun H3 l3 hM3 => ?_)
  refine lv_iadd hx hb h4 ?_
  refine va_iast hx hb hK hM3.1 hM3.2.1 hM3.2.2 k 0 (fw_w_at hk) rfl i1 h (fun H4 l4 hP hD hS => ?_)
  exact k_.1 rfl H4 l4 ls (fw_L_sub hT hL) (fw_M_put (S := (lay, own, cc, nL, d, r)) hR.2.2.2.2.1 hk ⟨0, by decide, rfl⟩ ((fw_c_arr (by decide)).trans (by rw [addI, Int32.ofInt_add])) hP hD hS)
theorem fs_ao_sub {k n : Nat} (ar : fw_E (lay, own, cc, nL, d, r) T 0 pc pc1 (k + 2) f) (ix : fw_E (lay, own, cc, nL, d, r) T 1 pc1 pc2 0 g) (h1 : decode cc pc2 = .ok (.dup2, 1)) (h2 : decode cc (pc2 + 1) = .ok (.iaload, 1)) (a : fw_E (lay, own, cc, nL, d, r) T 3 (pc2 + 1 + 1) pc3 0 h3) (h4 : decode cc pc3 = .ok (.isub, 1)) (hk : lay[k]? = some (.inr (0, n))) (h : decode cc (pc3 + 1) = .ok (.iastore, 1)) (hT : fw_ts T' T = true) : fw_S (lay, own, cc, nL, d, r) T pc (aoS (64 * k) n subI f g h3) (pc3 + 1 + 1, T') B C := by
  rintro ⟨p, l, e, R, s, m, args, below, meth, c, D, adr, cA, A, cells, slots, Q⟩ ⟨hx, hb, hml, hown, hts, hK, hA, hR⟩ ρ σ o x ρ' σ' H locs ls hL hM hf k_
  have X : fw_X (lay, own, cc, nL, d, r) (p, l, e, R, s, m, args, below, meth, c, D, adr, cA, A, cells, slots, Q) := ⟨hx, hb, hml, hown, hts, hK, hA, hR⟩
  obtain ⟨y, e1, e2⟩ := bind_some hf
  obtain ⟨z, e3, e4⟩ := bind_some e2
  obtain ⟨w, e7, e6⟩ := bind_some e4
  obtain ⟨u, e5, e8⟩ := bind_some e6
  cases e8
  obtain ⟨i1, i2⟩ := fw_in e7
  refine ar _ X ρ σ y.1 y.2 H locs ls [] hL hM (Nat.le_refl _) e1 (fun H1 l1 hM1 => ?_)
  refine ix _ X ρ y.2 z.1 z.2 H1 l1 ls [.ref (adr k)] hL hM1 (Nat.le_refl _) e3 (fun H2 l2 hM2 => ?_)
  subst i2
  refine lv_dup2_11 hx hb h1 rfl rfl ?_
  refine va_iald hx hb hK hM2.1 k 0 (fw_w_at hk) rfl i1 h2 ?_
  refine a _ X ρ z.2 u.1 u.2 H2 l2 ls [.int (Int32.ofInt (z.2 (64 * k) (Int32.ofInt z.1).toNatClampNeg)), .int (Int32.ofInt z.1), .ref (adr k)] hL hM2 (Nat.le_refl _) e5 (fun H3 l3 hM3 => ?_)
  refine lv_isub hx hb h4 ?_
  refine va_iast hx hb hK hM3.1 hM3.2.1 hM3.2.2 k 0 (fw_w_at hk) rfl i1 h (fun H4 l4 hP hD hS => ?_)
  exact k_.1 rfl H4 l4 ls (fw_L_sub hT hL) (fw_M_put (S := (lay, own, cc, nL, d, r)) hR.2.2.2.2.1 hk ⟨0, by decide, rfl⟩ ((fw_c_arr (by decide)).trans (by rw [subI, Int32.ofInt_sub])) hP hD hS)
theorem fs_ao_or {k n : Nat} (ar : fw_E (lay, own, cc, nL, d, r) T 0 pc pc1 (k + 2) f) (ix : fw_E (lay, own, cc, nL, d, r) T 1 pc1 pc2 0 g) (h1 : decode cc pc2 = .ok (.dup2, 1)) (h2 : decode cc (pc2 + 1) = .ok (.iaload, 1)) (a : fw_E (lay, own, cc, nL, d, r) T 3 (pc2 + 1 + 1) pc3 0 h3) (h4 : decode cc pc3 = .ok (.ior, 1)) (hk : lay[k]? = some (.inr (0, n))) (h : decode cc (pc3 + 1) = .ok (.iastore, 1)) (hT : fw_ts T' T = true) : fw_S (lay, own, cc, nL, d, r) T pc (aoS (64 * k) n iorI f g h3) (pc3 + 1 + 1, T') B C := by
  rintro ⟨p, l, e, R, s, m, args, below, meth, c, D, adr, cA, A, cells, slots, Q⟩ ⟨hx, hb, hml, hown, hts, hK, hA, hR⟩ ρ σ o x ρ' σ' H locs ls hL hM hf k_
  have X : fw_X (lay, own, cc, nL, d, r) (p, l, e, R, s, m, args, below, meth, c, D, adr, cA, A, cells, slots, Q) := ⟨hx, hb, hml, hown, hts, hK, hA, hR⟩
  obtain ⟨y, e1, e2⟩ := bind_some hf
  obtain ⟨z, e3, e4⟩ := bind_some e2
  obtain ⟨w, e7, e6⟩ := bind_some e4
  obtain ⟨u, e5, e8⟩ := bind_some e6
  cases e8
  obtain ⟨i1, i2⟩ := fw_in e7
  refine ar _ X ρ σ y.1 y.2 H locs ls [] hL hM (Nat.le_refl _) e1 (fun H1 l1 hM1 => ?_)
  refine ix _ X ρ y.2 z.1 z.2 H1 l1 ls [.ref (adr k)] hL hM1 (Nat.le_refl _) e3 (fun H2 l2 hM2 => ?_)
  subst i2
  refine lv_dup2_11 hx hb h1 rfl rfl ?_
  refine va_iald hx hb hK hM2.1 k 0 (fw_w_at hk) rfl i1 h2 ?_
  refine a _ X ρ z.2 u.1 u.2 H2 l2 ls [.int (Int32.ofInt (z.2 (64 * k) (Int32.ofInt z.1).toNatClampNeg)), .int (Int32.ofInt z.1), .ref (adr k)] hL hM2 (Nat.le_refl _) e5 (fun H3 l3 hM3 => ?_)
  refine lv_ior hx hb h4 ?_
  refine va_iast hx hb hK hM3.1 hM3.2.1 hM3.2.2 k 0 (fw_w_at hk) rfl i1 h (fun H4 l4 hP hD hS => ?_)
  exact k_.1 rfl H4 l4 ls (fw_L_sub hT hL) (fw_M_put (S := (lay, own, cc, nL, d, r)) hR.2.2.2.2.1 hk ⟨0, by decide, rfl⟩ ((fw_c_arr (by decide)).trans (by rw [iorI, Int32.ofInt_toInt])) hP hD hS)
theorem fs_ao_and {k n : Nat} (ar : fw_E (lay, own, cc, nL, d, r) T 0 pc pc1 (k + 2) f) (ix : fw_E (lay, own, cc, nL, d, r) T 1 pc1 pc2 0 g) (h1 : decode cc pc2 = .ok (.dup2, 1)) (h2 : decode cc (pc2 + 1) = .ok (.iaload, 1)) (a : fw_E (lay, own, cc, nL, d, r) T 3 (pc2 + 1 + 1) pc3 0 h3) (h4 : decode cc pc3 = .ok (.iand, 1)) (hk : lay[k]? = some (.inr (0, n))) (h : decode cc (pc3 + 1) = .ok (.iastore, 1)) (hT : fw_ts T' T = true) : fw_S (lay, own, cc, nL, d, r) T pc (aoS (64 * k) n andI f g h3) (pc3 + 1 + 1, T') B C := by
  rintro ⟨p, l, e, R, s, m, args, below, meth, c, D, adr, cA, A, cells, slots, Q⟩ ⟨hx, hb, hml, hown, hts, hK, hA, hR⟩ ρ σ o x ρ' σ' H locs ls hL hM hf k_
  have X : fw_X (lay, own, cc, nL, d, r) (p, l, e, R, s, m, args, below, meth, c, D, adr, cA, A, cells, slots, Q) := ⟨hx, hb, hml, hown, hts, hK, hA, hR⟩
  obtain ⟨y, e1, e2⟩ := bind_some hf
  obtain ⟨z, e3, e4⟩ := bind_some e2
  obtain ⟨w, e7, e6⟩ := bind_some e4
  obtain ⟨u, e5, e8⟩ := bind_some e6
  cases e8
  obtain ⟨i1, i2⟩ := fw_in e7
  refine ar _ X ρ σ y.1 y.2 H locs ls [] hL hM (Nat.le_refl _) e1 (fun H1 l1 hM1 => ?_)
  refine ix _ X ρ y.2 z.1 z.2 H1 l1 ls [.ref (adr k)] hL hM1 (Nat.le_refl _) e3 (fun H2 l2 hM2 => ?_)
  subst i2
  refine lv_dup2_11 hx hb h1 rfl rfl ?_
  refine va_iald hx hb hK hM2.1 k 0 (fw_w_at hk) rfl i1 h2 ?_
  refine a _ X ρ z.2 u.1 u.2 H2 l2 ls [.int (Int32.ofInt (z.2 (64 * k) (Int32.ofInt z.1).toNatClampNeg)), .int (Int32.ofInt z.1), .ref (adr k)] hL hM2 (Nat.le_refl _) e5 (fun H3 l3 hM3 => ?_)
  refine lv_iand hx hb h4 ?_
  refine va_iast hx hb hK hM3.1 hM3.2.1 hM3.2.2 k 0 (fw_w_at hk) rfl i1 h (fun H4 l4 hP hD hS => ?_)
  exact k_.1 rfl H4 l4 ls (fw_L_sub hT hL) (fw_M_put (S := (lay, own, cc, nL, d, r)) hR.2.2.2.2.1 hk ⟨0, by decide, rfl⟩ ((fw_c_arr (by decide)).trans (by rw [andI, Int32.ofInt_toInt])) hP hD hS)
end FWP
end
section
section FWC
variable {lay : List CD} {own : String} {cc : ByteArray} {nL d : Nat} {r : Option Nat} {T T' : FT} {b pc pc1 pc2 pc3 pt pf tgt : Nat} {f g h3 : EM} {off : Int} {N B C : Nat × FT}
/-- arguments, one behind the other -/
def fw_A (S : SI) (T : FT) (b pc pc' : Nat) (ts : List Nat) (l : List EM) : Prop := ∀ G, fw_X S G → ∀ (ρ : Lo) (σ : Me) (xs : List Int) (σ' : Me) (H : Heap) (locs : List Loc) (ls : Array Slot) (st : List Value),
  fw_L S G T ρ ls → fw_M S G σ H locs → (st.map fun v => v.category).sum ≤ b → aE l ρ σ = some (xs, σ') →
  (∀ H' locs', fw_M S G σ' H' locs' → fw_W G H' locs' pc' ls ((List.zipWith (fw_val G) ts xs).reverse ++ st)) → fw_W G H locs pc ls st
def tcat (t : Nat) : Nat := if t = 1 then 2 else 1
theorem fw_tcat {G : GX} {t : Nat} {x : Int} : (fw_val G t x).category = tcat t := by
  obtain ⟨p, l, e, R, s, m, args, below, meth, c, D, adr, cA, A, cells, slots, Q⟩ := G
  show (fw_v adr t x).category = tcat t
  unfold fw_v tcat
  split
  · rfl
  · rfl
  · rw [if_neg (by omega)]
    rfl
theorem fa_nil : fw_A (lay, own, cc, nL, d, r) T b pc pc [] [] := by
  intro G X ρ σ xs σ' H locs ls st hL hM hst hf k
  cases hf
  exact k H locs hM
theorem fa_cons {t : Nat} {ts : List Nat} {l : List EM} (a : fw_E (lay, own, cc, nL, d, r) T b pc pc1 t f) (a2 : fw_A (lay, own, cc, nL, d, r) T (b + tcat t) pc1 pc2 ts l) : fw_A (lay, own, cc, nL, d, r) T b pc pc2 (t :: ts) (f :: l) := by
  intro G X ρ σ xs σ' H locs ls st hL hM hst hf k
  obtain ⟨y, e1, e2⟩ := bind_some hf
  obtain ⟨z, e3, e4⟩ := bind_some e2
  cases e4
  refine a G X ρ σ y.1 y.2 H locs ls st hL hM hst e1 (fun H1 l1 hM1 => ?_)
  refine a2 G X ρ y.2 z.1 z.2 H1 l1 ls _ hL hM1 (by simp only [List.map_cons, List.sum_cons, fw_tcat]; omega) e3 (fun H2 l2 hM2 => ?_)
  have kk := k H2 l2 hM2
  simp only [List.zipWith_cons_cons, List.reverse_cons, List.append_assoc, List.cons_append, List.nil_append] at kk
  exact kk
theorem aE_len : ∀ (l : List EM) {ρ : Lo} {σ σ' : Me} {xs : List Int}, aE l ρ σ = some (xs, σ') → xs.length = l.length
  | [], _, _, _, _, h => by cases h; rfl
  | a :: l, ρ, σ, σ', xs, h => by
    obtain ⟨y, e1, e2⟩ := bind_some h
    obtain ⟨z, e3, e4⟩ := bind_some e2
    cases e4
    simp [aE_len l e3]
/-- where a method ends -/
def fw_Q (lay : List CD) (D : va_G) (adr : Nat → Nat) (cA : Nat → ClassId) (σ σ' : Me) (sz : Nat) (rt : Option Nat) (x : Int) : Array Value → State → Outcome → State → Prop := fun _ st oc t =>
  (oc = .returned (rt.map fun t => fw_v adr t x) ∧ va_P D vwCl (fw_w lay adr cA σ') t.heap) ∧ va_F (va_A (fw_w lay adr cA σ) sz) st t
def fw_rm (d : Nat) : Room := { frames := d, cells := 0, slots := 0, locals := 40 * d }
/-- A METHOD'S CONTRACT: it does what fm says -/
def fw_C (lay : List CD) (y : MethodName) (cy : ByteArray) (maxL : Nat) (ret : Option FieldType) (d : Nat) (ts : List Nat) (rt : Option Nat) (fm : FM) : Prop :=
  ∀ (l : Launch) (D : va_G) (adr : Nat → Nat) (cA : Nat → ClassId) (xs : List Int) (σ σ' : Me) (x : Int) (sz : Nat), xs.length = ts.length → fm xs σ = some (x, σ') →
    Met l y (.code y cy maxL ret :: lw_tb) (fw_rm d) (va_Pc (List.zipWith (fw_v adr) ts xs) (fun U => U.heap.size = sz ∧ va_P D vwCl (fw_w lay adr cA σ) U.heap ∧ va_K D vwCl (fw_t cA) U ∧ fw_nw U ∧ va_D (fun _ => True) (fw_w lay adr cA σ)))
      (fw_Q lay D adr cA σ σ' sz rt x) 0 0 (va_A (fw_w lay adr cA σ) sz)
theorem fw_free {adr : Nat → Nat} {cA : Nat → ClassId} {σ : Me} {A : Nat → Prop} {H0 H : Heap} {locs : List Loc} (hD : va_D A (fw_w lay adr cA σ)) (hS : va_S A H0 H locs) (hA : ∀ q, H0.size ≤ q → A q) : ∀ q, va_A (fw_w lay adr cA σ) H.size q → A q := by
  rintro q (⟨k, e, h⟩ | h)
  · exact hD.2 k (q, e) h
  · exact hA q (Nat.le_trans hS.1 h)
/-- behind a call -/
theorem fw_back {p : Program} {l : Launch} {e : Env} {R : Room} {s : State} {m : MethodId} {args : Array Value} {below : List Frame} {meth : Method} {c : Code} {D : va_G} {adr : Nat → Nat} {cA : Nat → ClassId} {A : Nat → Prop} {cells slots : Nat} {Q : State → Prop} {H : Heap} {locs : List Loc} {ls : Array Slot} {st0 rest : List Value} {σ σ' : Me} {rt : Option Nat} {x : Int} {a : Array Value}
    (hr : va_Run p l e R s m args below meth c H locs cells slots 0 0 (F0 m pc ls st0) rest (fw_Q lay D adr cA σ σ' H.size rt x a) (va_A (fw_w lay adr cA σ) H.size)) (hA : ∀ q, s.heap.size ≤ q → A q) (hM : fw_M (lay, own, cc, nL, d, r) (p, l, e, R, s, m, args, below, meth, c, D, adr, cA, A, cells, slots, Q) σ H locs)
    (kk : ∀ H' locs', fw_M (lay, own, cc, nL, d, r) (p, l, e, R, s, m, args, below, meth, c, D, adr, cA, A, cells, slots, Q) σ' H' locs' → W p l e R s m args below meth c H' locs' cells slots Q (F0 m (pc + 3) ls ((rt.map fun t => fw_v adr t x).toList ++ rest))) : W p l e R s m args below meth c H locs cells slots Q (F0 m pc ls st0) := by
  obtain ⟨hP, hD, hS⟩ := hM
  have hF := fw_free hD hS hA
  intro T hT X
  obtain ⟨v, st₀, t, T', L, h0, X', hL, e1, e2, ⟨⟨hv, hp⟩, hz, hk⟩, st⟩ := hr T hT X
  cases hv
  rw [h0] at hz hk
  obtain ⟨t2, a1, b1⟩ := kk T'.heap (locs ++ L) ⟨by rw [e1]; exact hp, fw_D hD, Nat.le_trans hS.1 (by rw [e1]; exact hz), fun q h1 h2 => by
      rw [e1, hk q (Nat.lt_of_lt_of_le h1 hS.1) (fun z => h2 (hF q z))]
      exact hS.2.1 q h1 h2, fun q hq => by
      rcases List.mem_append.mp hq with h | h
      · exact hS.2.2 q h
      · exact hF _ (hL q h)⟩ T' rfl X'
  exact ⟨t2, st t2 a1, b1⟩
theorem fw_blind {adr : Nat → Nat} {D : va_G} {cA : Nat → ClassId} {σ : Me} {vs : List Value} {sz : Nat} : FrameBlind (va_Pc vs (fun U => U.heap.size = sz ∧ va_P D vwCl (fw_w lay adr cA σ) U.heap ∧ va_K D vwCl (fw_t cA) U ∧ fw_nw U ∧ va_D (fun _ => True) (fw_w lay adr cA σ))) := by
  rintro a U g mk ⟨q0, q1, qP, qK, qN, qD⟩
  exact ⟨q0, q1, qP, va_K.moved (u := U) (U := U.calling g mk a) (Vm.Alike.refl U.vm) qK, fun a' i x t hw => va_Nw.same rfl rfl (qN a' i x t hw), qD⟩
end FWC
end
section
section FWD
variable {lay : List CD} {own : String} {cc : ByteArray} {nL d : Nat} {r : Option Nat} {T T' : FT} {b pc pc1 pc2 pc3 pt pf tgt : Nat} {f g h3 : EM} {off : Int} {N B C : Nat × FT}
theorem lw_good : lw_tb.all goodWord = true := List.all_eq_true.mpr fun _ h => (List.mem_filter.mp h).2
/-- a call's words, and how many it takes -/
def fw_lv (own : String) (index : Nat) (y : MethodName) (cy : ByteArray) (maxL : Nat) (ret : Option FieldType) (n : Nat) : Prop := (∀ w ∈ wsV own index y.cls y [.code y cy maxL ret], w ∈ lw_tb) ∧ y.cls ≠ "java/lang/invoke/MethodHandle" ∧ y.cls ≠ "java/lang/invoke/VarHandle" ∧ (parseMethodDescriptor y.desc).map (fun d => d.parameters.length) = some n
def fw_ls (own : String) (index : Nat) (y : MethodName) (cy : ByteArray) (maxL : Nat) (ret : Option FieldType) (n : Nat) : Prop := (∀ w ∈ va_wsS own index y [.code y cy maxL ret], w ∈ lw_tb) ∧ y.cls ≠ "java/lang/invoke/MethodHandle" ∧ y.cls ≠ "java/lang/invoke/VarHandle" ∧ (parseMethodDescriptor y.desc).map (fun d => d.parameters.length) = some n
theorem fw_goodV {own C : String} {index : Nat} {y : MethodName} {cd : Cond} (h : ∀ w ∈ wsV own index C y [cd], w ∈ lw_tb) : GoodIn lw_tb (wsV own index C y (cd :: lw_tb)) := by
  intro w hw
  have hm : w ∈ lw_tb := by
    unfold wsV at hw h
    rcases List.mem_append.mp hw with z | z
    · exact h w (List.mem_append_left _ z)
    · rcases List.mem_cons.mp z with rfl | z
      · exact h _ (List.mem_append_right _ List.mem_cons_self)
      · exact z
  exact ⟨hm, good_of_word (List.all_eq_true.mp lw_good w hm)⟩
theorem fw_goodS {own : String} {index : Nat} {y : MethodName} {cd : Cond} (h : ∀ w ∈ va_wsS own index y [cd], w ∈ lw_tb) : GoodIn lw_tb (va_wsS own index y (cd :: lw_tb)) := by
  intro w hw
  have hm : w ∈ lw_tb := by
    unfold va_wsS at hw h
    rcases List.mem_append.mp hw with z | z
    · exact h w (List.mem_append_left _ z)
    · rcases List.mem_cons.mp z with rfl | z
      · exact h _ (List.mem_append_right _ List.mem_cons_self)
      · exact z
  exact ⟨hm, good_of_word (List.all_eq_true.mp lw_good w hm)⟩
theorem fe_callV {k ci index d' maxL Nc : Nat} {t : Nat} {ts : List Nat} {l1 : List EM} {y : MethodName} {cy : ByteArray} {ret : Option FieldType} {fm : FM} {fs : List (Nat × Nat)} {Tt : u_T} (as : fw_A (lay, own, cc, nL, d, r) T b pc pc1 ((k + 2) :: ts) l1) (M : fw_C lay y cy maxL ret d' ((k + 2) :: ts) (some t) fm) (hw : fw_lv own index y cy maxL ret ts.length) (hk : lay[k]? = some (.inl (ci, fs))) (hc : vwCl[ci]? = some (y.cls, Tt, Nc)) (hn : l1.length = ts.length + 1) (hd : d' + 1 ≤ d) (hm : maxL ≤ 21) (hb8 : b ≤ 8) (h : decode cc pc1 = .ok (.invokevirtual index, 3)) : fw_E (lay, own, cc, nL, d, r) T b pc (pc1 + 3) t (clE fm l1) := by
  rintro ⟨p, l, e, R, s, m, args, below, meth, c, D, adr, cA, A, cells, slots, Q⟩ ⟨hx, hb, hml, hown, hts, hK, hA, hR⟩ ρ σ x σ' H locs ls st hL hM hst hf k_
  have X : fw_X (lay, own, cc, nL, d, r) (p, l, e, R, s, m, args, below, meth, c, D, adr, cA, A, cells, slots, Q) := ⟨hx, hb, hml, hown, hts, hK, hA, hR⟩
  obtain ⟨z, e1, e2⟩ := bind_some hf
  obtain ⟨xs, σ1⟩ := z
  have hlen : xs.length = ts.length + 1 := (aE_len l1 e1).trans hn
  cases xs with
  | nil => simp at hlen
  | cons x0 xr =>
    refine as _ X ρ σ (x0 :: xr) σ1 H locs ls st hL hM hst e1 (fun H1 l2 hM1 => ?_)
    have hl2 : xr.length = ts.length := by simpa using hlen
    have run := va_runV (e := e) (below := below) (meth := meth) (g := F0 m pc1 ls ((List.zipWith (fw_v adr) ts xr).reverse ++ .ref (adr k) :: st)) (As := List.zipWith (fw_v adr) ts xr) (rest := st) ⟨hx, hb, hml, hown, hts⟩ (M l D adr cA (x0 :: xr) σ1 σ' x H1.size (by simp [hl2]) e2) (cwV (R := R) ts.length hts (fw_goodV hw.1) rfl rfl rfl ⟨rfl, hw.2⟩ ⟨by show d' + 1 ≤ R.frames; omega, by show 8 + (maxL + 11) + 40 * d' ≤ R.locals; omega⟩) ⟨fw_blind, va_recv hK hM1.1 hc (fw_w_at hk), fun U hU hW => ⟨rfl, by rw [hU], by rw [hU]; exact hM1.1, va_K.moved hW.alike hK, fw_nw_warm hW hR.2.2.2.2.2, hM1.2.1.weaken (fun _ _ _ _ => trivial)⟩⟩ rfl (by simp [hl2]) (show lv_has ls nL _ from hL).1 rfl (lv_room (Nat.le_trans hst hb8)) h (cells := cells) (slots := slots) (locs := l2) ⟨by omega, by omega⟩
    have kk := fw_back (nL := nL) (own := own) (cc := cc) (d := d) (r := r) (Q := Q) run hA hM1 (fun H' l' hM' => k_ H' l' hM')
    simp only [fw_W, fw_val, List.zipWith_cons_cons, List.reverse_cons, List.append_assoc, List.cons_append, List.nil_append] at kk ⊢
    exact kk
theorem fs_callV {k ci index d' maxL Nc : Nat} {t : Nat} {ts : List Nat} {l1 : List EM} {y : MethodName} {cy : ByteArray} {ret : Option FieldType} {fm : FM} {fs : List (Nat × Nat)} {Tt : u_T} (as : fw_A (lay, own, cc, nL, d, r) T 0 pc pc1 ((k + 2) :: ts) l1) (M : fw_C lay y cy maxL ret d' ((k + 2) :: ts) none fm) (hw : fw_lv own index y cy maxL ret ts.length) (hk : lay[k]? = some (.inl (ci, fs))) (hc : vwCl[ci]? = some (y.cls, Tt, Nc)) (hn : l1.length = ts.length + 1) (hd : d' + 1 ≤ d) (hm : maxL ≤ 21) (h : decode cc pc1 = .ok (.invokevirtual index, 3)) (hT : fw_ts T' T = true) : fw_S (lay, own, cc, nL, d, r) T pc (exS (clE fm l1)) (pc1 + 3, T') B C := by
  rintro ⟨p, l, e, R, s, m, args, below, meth, c, D, adr, cA, A, cells, slots, Q⟩ ⟨hx, hb, hml, hown, hts, hK, hA, hR⟩ ρ σ o x ρ' σ' H locs ls hL hM hf k_
  have X : fw_X (lay, own, cc, nL, d, r) (p, l, e, R, s, m, args, below, meth, c, D, adr, cA, A, cells, slots, Q) := ⟨hx, hb, hml, hown, hts, hK, hA, hR⟩
  obtain ⟨y0, e0, e00⟩ := bind_some hf
  cases e00
  obtain ⟨z, e1, e2⟩ := bind_some e0
  obtain ⟨xs, σ1⟩ := z
  have hlen : xs.length = ts.length + 1 := (aE_len l1 e1).trans hn
  cases xs with
  | nil => simp at hlen
  | cons x0 xr =>
    refine as _ X ρ σ (x0 :: xr) σ1 H locs ls [] hL hM (Nat.le_refl _) e1 (fun H1 l2 hM1 => ?_)
    have hl2 : xr.length = ts.length := by simpa using hlen
    have run := va_runV (e := e) (below := below) (meth := meth) (g := F0 m pc1 ls ((List.zipWith (fw_v adr) ts xr).reverse ++ .ref (adr k) :: [])) (As := List.zipWith (fw_v adr) ts xr) (rest := []) ⟨hx, hb, hml, hown, hts⟩ (M l D adr cA (x0 :: xr) σ1 y0.2 y0.1 H1.size (by simp [hl2]) e2) (cwV (R := R) ts.length hts (fw_goodV hw.1) rfl rfl rfl ⟨rfl, hw.2⟩ ⟨by show d' + 1 ≤ R.frames; omega, by show 8 + (maxL + 11) + 40 * d' ≤ R.locals; omega⟩) ⟨fw_blind, va_recv hK hM1.1 hc (fw_w_at hk), fun U hU hW => ⟨rfl, by rw [hU], by rw [hU]; exact hM1.1, va_K.moved hW.alike hK, fw_nw_warm hW hR.2.2.2.2.2, hM1.2.1.weaken (fun _ _ _ _ => trivial)⟩⟩ rfl (by simp [hl2]) (show lv_has ls nL _ from hL).1 rfl (lv_room (by simp)) h (cells := cells) (slots := slots) (locs := l2) ⟨by omega, by omega⟩
    have kk := fw_back (nL := nL) (own := own) (cc := cc) (d := d) (r := r) (Q := Q) run hA hM1 (fun H' l' hM' => k_.1 rfl H' l' ls (fw_L_sub hT hL) hM')
    simp only [fw_W, fw_val, List.zipWith_cons_cons, List.reverse_cons, List.append_assoc, List.cons_append, List.nil_append] at kk ⊢
    exact kk
theorem fe_callS {index d' maxL : Nat} {t : Nat} {ts : List Nat} {l1 : List EM} {y : MethodName} {cy : ByteArray} {ret : Option FieldType} {fm : FM} (as : fw_A (lay, own, cc, nL, d, r) T b pc pc1 ts l1) (M : fw_C lay y cy maxL ret d' ts (some t) fm) (hw : fw_ls own index y cy maxL ret ts.length) (hn : l1.length = ts.length) (hd : d' + 1 ≤ d) (hm : maxL ≤ 21) (hb8 : b ≤ 8) (h : decode cc pc1 = .ok (.invokestatic index, 3)) : fw_E (lay, own, cc, nL, d, r) T b pc (pc1 + 3) t (clE fm l1) := by
  rintro ⟨p, l, e, R, s, m, args, below, meth, c, D, adr, cA, A, cells, slots, Q⟩ ⟨hx, hb, hml, hown, hts, hK, hA, hR⟩ ρ σ x σ' H locs ls st hL hM hst hf k_
  have X : fw_X (lay, own, cc, nL, d, r) (p, l, e, R, s, m, args, below, meth, c, D, adr, cA, A, cells, slots, Q) := ⟨hx, hb, hml, hown, hts, hK, hA, hR⟩
  obtain ⟨z, e1, e2⟩ := bind_some hf
  obtain ⟨xs, σ1⟩ := z
  have hlen : xs.length = ts.length := (aE_len l1 e1).trans hn
  refine as _ X ρ σ xs σ1 H locs ls st hL hM hst e1 (fun H1 l2 hM1 => ?_)
  have run := va_runS (e := e) (below := below) (meth := meth) (g := F0 m pc1 ls ((List.zipWith (fw_v adr) ts xs).reverse ++ st)) (As := List.zipWith (fw_v adr) ts xs) (rest := st) ⟨hx, hb, hml, hown, hts⟩ (M l D adr cA xs σ1 σ' x H1.size hlen e2) (va_cwS (R := R) ts.length hts (fw_goodS hw.1) rfl rfl rfl hw.2 ⟨by show d' + 1 ≤ R.frames; omega, by show 8 + (maxL + 11) + 40 * d' ≤ R.locals; omega⟩) ⟨fw_blind, fun U hU hW => ⟨rfl, by rw [hU], by rw [hU]; exact hM1.1, va_K.moved hW.alike hK, fw_nw_warm hW hR.2.2.2.2.2, hM1.2.1.weaken (fun _ _ _ _ => trivial)⟩⟩ rfl (by simp [hlen]) (show lv_has ls nL _ from hL).1 rfl (lv_room (Nat.le_trans hst hb8)) h (cells := cells) (slots := slots) (locs := l2) ⟨by omega, by omega⟩
  exact fw_back (nL := nL) (own := own) (cc := cc) (d := d) (r := r) (Q := Q) run hA hM1 (fun H' l' hM' => k_ H' l' hM')
theorem fs_callS {index d' maxL : Nat} {t : Nat} {ts : List Nat} {l1 : List EM} {y : MethodName} {cy : ByteArray} {ret : Option FieldType} {fm : FM} (as : fw_A (lay, own, cc, nL, d, r) T 0 pc pc1 ts l1) (M : fw_C lay y cy maxL ret d' ts none fm) (hw : fw_ls own index y cy maxL ret ts.length) (hn : l1.length = ts.length) (hd : d' + 1 ≤ d) (hm : maxL ≤ 21) (h : decode cc pc1 = .ok (.invokestatic index, 3)) (hT : fw_ts T' T = true) : fw_S (lay, own, cc, nL, d, r) T pc (exS (clE fm l1)) (pc1 + 3, T') B C := by
  rintro ⟨p, l, e, R, s, m, args, below, meth, c, D, adr, cA, A, cells, slots, Q⟩ ⟨hx, hb, hml, hown, hts, hK, hA, hR⟩ ρ σ o x ρ' σ' H locs ls hL hM hf k_
  have X : fw_X (lay, own, cc, nL, d, r) (p, l, e, R, s, m, args, below, meth, c, D, adr, cA, A, cells, slots, Q) := ⟨hx, hb, hml, hown, hts, hK, hA, hR⟩
  obtain ⟨y0, e0, e00⟩ := bind_some hf
  cases e00
  obtain ⟨z, e1, e2⟩ := bind_some e0
  obtain ⟨xs, σ1⟩ := z
  have hlen : xs.length = ts.length := (aE_len l1 e1).trans hn
  refine as _ X ρ σ xs σ1 H locs ls [] hL hM (Nat.le_refl _) e1 (fun H1 l2 hM1 => ?_)
  have run := va_runS (e := e) (below := below) (meth := meth) (g := F0 m pc1 ls ((List.zipWith (fw_v adr) ts xs).reverse ++ [])) (As := List.zipWith (fw_v adr) ts xs) (rest := []) ⟨hx, hb, hml, hown, hts⟩ (M l D adr cA xs σ1 y0.2 y0.1 H1.size hlen e2) (va_cwS (R := R) ts.length hts (fw_goodS hw.1) rfl rfl rfl hw.2 ⟨by show d' + 1 ≤ R.frames; omega, by show 8 + (maxL + 11) + 40 * d' ≤ R.locals; omega⟩) ⟨fw_blind, fun U hU hW => ⟨rfl, by rw [hU], by rw [hU]; exact hM1.1, va_K.moved hW.alike hK, fw_nw_warm hW hR.2.2.2.2.2, hM1.2.1.weaken (fun _ _ _ _ => trivial)⟩⟩ rfl (by simp [hlen]) (show lv_has ls nL _ from hL).1 rfl (lv_room (by simp)) h (cells := cells) (slots := slots) (locs := l2) ⟨by omega, by omega⟩
  exact fw_back (nL := nL) (own := own) (cc := cc) (d := d) (r := r) (Q := Q) run hA hM1 (fun H' l' hM' => k_.1 rfl H' l' ls (fw_L_sub hT hL) hM')
end FWD
end
section
section FWM
variable {lay : List CD} {own : String} {cc : ByteArray} {nL d : Nat} {r : Option Nat} {T T' : FT} {b pc pc1 pc2 pc3 pt pf tgt : Nat} {f g h3 : EM} {off : Int} {N B C : Nat × FT}
/-- a static method of the nest's host, private there -/
def fw_ln (own : String) (index : Nat) (y : MethodName) (host : String) (cy : ByteArray) (maxL : Nat) (ret : Option FieldType) (n : Nat) : Prop := Cond.methodLinkNest own index y host ∈ lw_tbl ∧ Cond.static y ∈ lw_tb ∧ Cond.initialized y.cls ∈ lw_tb ∧ Cond.code y cy maxL ret ∈ lw_tb ∧ y.cls ≠ "java/lang/invoke/MethodHandle" ∧ y.cls ≠ "java/lang/invoke/VarHandle" ∧ (parseMethodDescriptor y.desc).map (fun d => d.parameters.length) = some n
theorem fe_callSN {index d' maxL : Nat} {t : Nat} {ts : List Nat} {l1 : List EM} {y : MethodName} {host : String} {cy : ByteArray} {ret : Option FieldType} {fm : FM} (as : fw_A (lay, own, cc, nL, d, r) T b pc pc1 ts l1) (M : fw_C lay y cy maxL ret d' ts (some t) fm) (hw : fw_ln own index y host cy maxL ret ts.length) (hn : l1.length = ts.length) (hd : d' + 1 ≤ d) (hm : maxL ≤ 21) (hb8 : b ≤ 8) (h : decode cc pc1 = .ok (.invokestatic index, 3)) : fw_E (lay, own, cc, nL, d, r) T b pc (pc1 + 3) t (clE fm l1) := by
  rintro ⟨p, l, e, R, s, m, args, below, meth, c, D, adr, cA, A, cells, slots, Q⟩ ⟨hx, hb, hml, hown, hts, hK, hA, hR⟩ ρ σ x σ' H locs ls st hL hM hst hf k_
  have X : fw_X (lay, own, cc, nL, d, r) (p, l, e, R, s, m, args, below, meth, c, D, adr, cA, A, cells, slots, Q) := ⟨hx, hb, hml, hown, hts, hK, hA, hR⟩
  obtain ⟨z, e1, e2⟩ := bind_some hf
  obtain ⟨xs, σ1⟩ := z
  have hlen : xs.length = ts.length := (aE_len l1 e1).trans hn
  refine as _ X ρ σ xs σ1 H locs ls st hL hM hst e1 (fun H1 l2 hM1 => ?_)
  have hg : GoodIn lw_tb (Cond.code y cy maxL ret :: lw_tb) := by
    intro w hw'
    have hm : w ∈ lw_tb := by
      rcases List.mem_cons.mp hw' with rfl | z
      · exact hw.2.2.2.1
      · exact z
    exact ⟨hm, good_of_word (List.all_eq_true.mp lw_good w hm)⟩
  have run := va_runSN (e := e) (below := below) (meth := meth) (g := F0 m pc1 ls ((List.zipWith (fw_v adr) ts xs).reverse ++ st)) (As := List.zipWith (fw_v adr) ts xs) (rest := st) ⟨hx, hb, hml, hown, hts⟩ (M l D adr cA xs σ1 σ' x H1.size hlen e2) ⟨va_cnB (R := R) ts.length hts hg rfl rfl rfl (hR.2.2.2.2.2 _ _ _ _ hw.1) (hts _ hw.2.2.1) hw.2.2.2.2 ⟨by show d' + 1 ≤ R.frames; omega, by show 8 + (maxL + 11) + 40 * d' ≤ R.locals; omega⟩, hts _ hw.2.1, trivial⟩ ⟨fw_blind, fun U hU hW => ⟨rfl, by rw [hU], by rw [hU]; exact hM1.1, va_K.moved hW.alike hK, fw_nw_warm hW hR.2.2.2.2.2, hM1.2.1.weaken (fun _ _ _ _ => trivial)⟩⟩ rfl (by simp [hlen]) (show lv_has ls nL _ from hL).1 rfl (lv_room (Nat.le_trans hst hb8)) h (cells := cells) (slots := slots) (locs := l2) ⟨by omega, by omega⟩
  exact fw_back (nL := nL) (own := own) (cc := cc) (d := d) (r := r) (Q := Q) run hA hM1 (fun H' l' hM' => k_ H' l' hM')
/-- a value that nobody wants -/
theorem fs_pop {t : Nat} (a : fw_E (lay, own, cc, nL, d, r) T 0 pc pc1 t f) (ht : tcat t = 1) (h : decode cc pc1 = .ok (.pop, 1)) (hT : fw_ts T' T = true) : fw_S (lay, own, cc, nL, d, r) T pc (exS f) (pc1 + 1, T') B C := by
  rintro ⟨p, l, e, R, s, m, args, below, meth, c, D, adr, cA, A, cells, slots, Q⟩ ⟨hx, hb, hml, hown, hts, hK, hA, hR⟩ ρ σ o x ρ' σ' H locs ls hL hM hf k_
  have X : fw_X (lay, own, cc, nL, d, r) (p, l, e, R, s, m, args, below, meth, c, D, adr, cA, A, cells, slots, Q) := ⟨hx, hb, hml, hown, hts, hK, hA, hR⟩
  obtain ⟨y, e1, e2⟩ := bind_some hf
  cases e2
  refine a _ X ρ σ y.1 y.2 H locs ls [] hL hM (Nat.le_refl _) e1 (fun H1 l1 hM1 => ?_)
  refine lv_pop hx hb h ?_ (k_.1 rfl H1 l1 ls (fw_L_sub hT hL) hM1)
  exact (fw_tcat (G := (p, l, e, R, s, m, args, below, meth, c, D, adr, cA, A, cells, slots, Q)) (t := t) (x := y.1)).trans ht
/-- the words of Math.min, Math.max -/
def fw_mn (own : String) (index : Nat) : Prop := Cond.methodLink own index Lib.Math.min.name ∈ lw_tb ∧ Cond.static Lib.Math.min.name ∈ lw_tb ∧ Cond.initialized "java/lang/Math" ∈ lw_tb ∧ Cond.code Lib.Math.min.name Lib.Math.min.code 2 (some .int) ∈ lw_tb
def fw_mx (own : String) (index : Nat) : Prop := Cond.methodLink own index Lib.Math.max.name ∈ lw_tb ∧ Cond.static Lib.Math.max.name ∈ lw_tb ∧ Cond.initialized "java/lang/Math" ∈ lw_tb ∧ Cond.code Lib.Math.max.name Lib.Math.max.code 2 (some .int) ∈ lw_tb
theorem fe_min {index : Nat} (a : fw_E (lay, own, cc, nL, d, r) T b pc pc1 0 f) (a2 : fw_E (lay, own, cc, nL, d, r) T (b + 1) pc1 pc2 0 g) (hw : fw_mn own index) (hd : 1 ≤ d) (hb8 : b ≤ 8) (h : decode cc pc2 = .ok (.invokestatic index, 3)) : fw_E (lay, own, cc, nL, d, r) T b pc (pc2 + 3) 0 (o2 minI f g) := by
  rintro ⟨p, l, e, R, s, m, args, below, meth, c, D, adr, cA, A, cells, slots, Q⟩ ⟨hx, hb, hml, hown, hts, hK, hA, hR⟩ ρ σ x σ' H locs ls st hL hM hst hf k_
  have X : fw_X (lay, own, cc, nL, d, r) (p, l, e, R, s, m, args, below, meth, c, D, adr, cA, A, cells, slots, Q) := ⟨hx, hb, hml, hown, hts, hK, hA, hR⟩
  obtain ⟨y, e1, e2⟩ := bind_some hf
  obtain ⟨z, e3, e4⟩ := bind_some e2
  cases e4
  refine a _ X ρ σ y.1 y.2 H locs ls st hL hM hst e1 (fun H1 l1 hM1 => ?_)
  refine a2 _ X ρ y.2 z.1 z.2 H1 l1 ls _ hL hM1 (by simp only [List.map_cons, List.sum_cons, fw_tcat]; have : tcat 0 = 1 := rfl; omega) e3 (fun H2 l2 hM2 => ?_)
  have kk := k_ H2 l2 hM2
  refine va_mmin hx hb (hml.trans (show lv_has ls nL _ from hL).1.symm) hown (hts _ hw.1) (hts _ hw.2.1) (hts _ hw.2.2.1) (hts _ hw.2.2.2) (by omega) (by omega) hR.2.2.1 hR.2.2.2.1 h ?_
  by_cases hc : w32 z.1 < w32 y.1
  · rw [if_pos (Int32.lt_iff_toInt_lt.mpr hc)]
    simp only [minI, if_pos hc] at kk
    exact kk
  · rw [if_neg (fun q => hc (Int32.lt_iff_toInt_lt.mp q))]
    simp only [minI, if_neg hc] at kk
    exact kk
theorem fe_max {index : Nat} (a : fw_E (lay, own, cc, nL, d, r) T b pc pc1 0 f) (a2 : fw_E (lay, own, cc, nL, d, r) T (b + 1) pc1 pc2 0 g) (hw : fw_mx own index) (hd : 1 ≤ d) (hb8 : b ≤ 8) (h : decode cc pc2 = .ok (.invokestatic index, 3)) : fw_E (lay, own, cc, nL, d, r) T b pc (pc2 + 3) 0 (o2 maxI f g) := by
  rintro ⟨p, l, e, R, s, m, args, below, meth, c, D, adr, cA, A, cells, slots, Q⟩ ⟨hx, hb, hml, hown, hts, hK, hA, hR⟩ ρ σ x σ' H locs ls st hL hM hst hf k_
  have X : fw_X (lay, own, cc, nL, d, r) (p, l, e, R, s, m, args, below, meth, c, D, adr, cA, A, cells, slots, Q) := ⟨hx, hb, hml, hown, hts, hK, hA, hR⟩
  obtain ⟨y, e1, e2⟩ := bind_some hf
  obtain ⟨z, e3, e4⟩ := bind_some e2
  cases e4
  refine a _ X ρ σ y.1 y.2 H locs ls st hL hM hst e1 (fun H1 l1 hM1 => ?_)
  refine a2 _ X ρ y.2 z.1 z.2 H1 l1 ls _ hL hM1 (by simp only [List.map_cons, List.sum_cons, fw_tcat]; have : tcat 0 = 1 := rfl; omega) e3 (fun H2 l2 hM2 => ?_)
  have kk := k_ H2 l2 hM2
  refine va_mmax hx hb (hml.trans (show lv_has ls nL _ from hL).1.symm) hown (hts _ hw.1) (hts _ hw.2.1) (hts _ hw.2.2.1) (hts _ hw.2.2.2) (by omega) (by omega) hR.2.2.1 hR.2.2.2.1 h ?_
  by_cases hc : w32 y.1 < w32 z.1
  · rw [if_pos (Int32.lt_iff_toInt_lt.mpr hc)]
    simp only [maxI, if_pos hc] at kk
    exact kk
  · rw [if_neg (fun q => hc (Int32.lt_iff_toInt_lt.mp q))]
    simp only [maxI, if_neg hc] at kk
    exact kk
end FWM
end
section
section FWN
variable {lay : List CD} {own : String} {cc : ByteArray} {nL d : Nat} {r : Option Nat} {T T' : FT} {b pc pc1 pc2 pc3 pt pf tgt : Nat} {f g h3 : EM} {off : Int} {N B C : Nat × FT}
theorem fw_c_g {adr : Nat → Nat} {cA : Nat → ClassId} {σ σ' : Me} {k : Nat} {q : CD} (h : ∀ j, j < 64 → σ' (64 * k + j) = σ (64 * k + j)) (ho : ∀ o, q = .inl o → o.2.length ≤ 64) : fw_c adr cA σ' k q = fw_c adr cA σ k q := by
  cases q with
  | inl o =>
    simp only [fw_c]
    congr 2
    apply List.ext_getElem?
    intro j
    rw [List.getElem?_mapIdx, List.getElem?_mapIdx]
    cases hj : o.2[j]? with
    | none => rfl
    | some z =>
      have hl := (List.getElem?_eq_some_iff.mp hj).1
      have := ho o rfl
      simp only [Option.map_some, fw_f, h j (by omega)]
  | inr a =>
    have h0 := h 0 (by omega)
    rw [Nat.add_zero] at h0
    simp only [fw_c, fw_a, h0]
theorem fw_w_g {adr : Nat → Nat} {cA : Nat → ClassId} {σ σ' : Me} {k : Nat} {q : CD} {e : va_E} (hok : fw_ok lay) (hk : lay[k]? = some q) (hv : ∀ n j, n ≠ k → j < 64 → σ' (64 * n + j) = σ (64 * n + j)) (he : fw_c adr cA σ' k q = e) : (fw_w lay adr cA σ).set k (adr k, e) = fw_w lay adr cA σ' := by
  apply List.ext_getElem?
  intro n
  have hl := (List.getElem?_eq_some_iff.mp hk).1
  by_cases hn : n = k
  · subst hn
    rw [List.getElem?_set_self (by simpa [fw_w] using hl), fw_w_at hk, he]
  · rw [List.getElem?_set_ne (Ne.symm hn)]
    unfold fw_w
    rw [List.getElem?_mapIdx, List.getElem?_mapIdx]
    cases hq : lay[n]? with
    | none => rfl
    | some z =>
      simp only [Option.map_some]
      rw [fw_c_g (fun j hj => hv n j hn hj) (fun o ho => hok n o (by rw [hq, ho]))]
def cpM (σ : Me) (v0 v1 sp dp n : Nat) : Me := fun b j => if b = v1 ∧ dp ≤ j ∧ j < dp + n then σ v0 (sp + (j - dp)) else σ b j
def cpS (v0 n0 v1 n1 : Nat) (l : List EM) : SM := fun ρ σ => (aE l ρ σ).bind fun x => match x.1 with
  | [_, sp, _, dp, n] => if 0 ≤ w32 sp ∧ 0 ≤ w32 dp ∧ 0 ≤ w32 n ∧ w32 sp + w32 n ≤ n0 ∧ w32 dp + w32 n ≤ n1 then some (0, 0, ρ, cpM x.2 v0 v1 (w32 sp).toNat (w32 dp).toNat (w32 n).toNat) else none
  | _ => none
def fw_ac (own : String) (index : Nat) : Prop := Cond.methodLink own index arraycopyName ∈ lw_tb ∧ Cond.native arraycopyName ∈ lw_tb ∧ Cond.static arraycopyName ∈ lw_tb ∧ Cond.initialized "java/lang/System" ∈ lw_tb
theorem ac_words : nativeFrameWords "java/lang/System" "arraycopy" 5 + 11 ≤ 40 := by decide +kernel
theorem cl_n {x : Int} : (Int32.ofInt x).toNatClampNeg = (w32 x).toNat := rfl
theorem i32_nn {x : Int} (h : 0 ≤ w32 x) : ¬ Int32.ofInt x < 0 := fun q => by
  have := Int32.lt_iff_toInt_lt.mp q
  have e : Int32.toInt 0 = 0 := rfl
  unfold w32 at h
  omega
theorem fs_cpy {k0 k1 n0 n1 index : Nat} {l1 : List EM} (as : fw_A (lay, own, cc, nL, d, r) T 0 pc pc1 [k0 + 2, 0, k1 + 2, 0, 0] l1) (hk0 : lay[k0]? = some (.inr (0, n0))) (hk1 : lay[k1]? = some (.inr (0, n1))) (hw : fw_ac own index) (hd : 1 ≤ d) (h : decode cc pc1 = .ok (.invokestatic index, 3)) (hT : fw_ts T' T = true) : fw_S (lay, own, cc, nL, d, r) T pc (cpS (64 * k0) n0 (64 * k1) n1 l1) (pc1 + 3, T') B C := by
  rintro ⟨p, l, e, R, s, m, args, below, meth, c, D, adr, cA, A, cells, slots, Q⟩ ⟨hx, hb, hml, hown, hts, hK, hA, hR⟩ ρ σ o x ρ' σ' H locs ls hL hM hf k_
  have X : fw_X (lay, own, cc, nL, d, r) (p, l, e, R, s, m, args, below, meth, c, D, adr, cA, A, cells, slots, Q) := ⟨hx, hb, hml, hown, hts, hK, hA, hR⟩
  obtain ⟨⟨xs, σ1⟩, e1, e2⟩ := bind_some hf
  refine as _ X ρ σ xs σ1 H locs ls [] hL hM (Nat.le_refl _) e1 (fun H1 l2 hM1 => ?_)
  dsimp only at e2
  split at e2
  case h_2 => cases e2
  rename_i a0 sp a1 dp n
  split at e2
  case isFalse => cases e2
  rename_i hc
  obtain ⟨c1, c2, c3, c4, c5⟩ := hc
  cases e2
  have hw40 := ac_words
  refine va_copyi (s := s) (rest := []) hx hb (hml.trans (show lv_has ls nL _ from hL).1.symm) hown (hts _ hw.1) (hts _ hw.2.1) (hts _ hw.2.2.1) (hts _ hw.2.2.2) hK hM1.1 hM1.2.1 hM1.2.2 k0 k1 0 0 (fw_w_at hk0) (fw_w_at hk1) rfl rfl rfl (i32_nn c1) (i32_nn c2) (i32_nn c3) (by rw [cl_n, cl_n]; omega) (by rw [cl_n, cl_n]; omega) (fun _ _ => rfl) (by omega) (by simp only [List.map_nil, List.sum_nil]; omega) h (fun H4 l4 hP hD hS => ?_)
  have hset := fw_w_g (lay := lay) (adr := adr) (cA := cA) (σ := σ1) (σ' := cpM σ1 (64 * k0) (64 * k1) (w32 sp).toNat (w32 dp).toNat (w32 n).toNat) hR.2.2.2.2.1 hk1 (fun n' j hn hj => by
    funext j'
    simp only [cpM]
    rw [if_neg (by omega)]) rfl
  refine k_.1 rfl H4 l4 ls (fw_L_sub hT hL) ⟨?_, fw_D hM1.2.1, hS⟩
  rw [← hset]
  have he : fw_c adr cA (cpM σ1 (64 * k0) (64 * k1) (w32 sp).toNat (w32 dp).toNat (w32 n).toNat) k1 (.inr (0, n1)) = .inl (cA 0, n1, .inl (va_cpy (fun i => Int32.ofInt (σ1 (64 * k0) i)) (fun i => Int32.ofInt (σ1 (64 * k1) i)) (w32 sp).toNat (w32 dp).toNat (w32 n).toNat)) := by
    simp only [fw_c, fw_a]
    congr 4
    funext j
    simp only [cpM, va_cpy, true_and]
    split <;> rfl
  rw [he]
  exact hP
theorem fs_cpyL {k0 k1 n0 n1 index : Nat} {l1 : List EM} (as : fw_A (lay, own, cc, nL, d, r) T 0 pc pc1 [k0 + 2, 0, k1 + 2, 0, 0] l1) (hk0 : lay[k0]? = some (.inr (1, n0))) (hk1 : lay[k1]? = some (.inr (1, n1))) (hw : fw_ac own index) (hd : 1 ≤ d) (h : decode cc pc1 = .ok (.invokestatic index, 3)) (hT : fw_ts T' T = true) : fw_S (lay, own, cc, nL, d, r) T pc (cpS (64 * k0) n0 (64 * k1) n1 l1) (pc1 + 3, T') B C := by
  rintro ⟨p, l, e, R, s, m, args, below, meth, c, D, adr, cA, A, cells, slots, Q⟩ ⟨hx, hb, hml, hown, hts, hK, hA, hR⟩ ρ σ o x ρ' σ' H locs ls hL hM hf k_
  have X : fw_X (lay, own, cc, nL, d, r) (p, l, e, R, s, m, args, below, meth, c, D, adr, cA, A, cells, slots, Q) := ⟨hx, hb, hml, hown, hts, hK, hA, hR⟩
  obtain ⟨⟨xs, σ1⟩, e1, e2⟩ := bind_some hf
  refine as _ X ρ σ xs σ1 H locs ls [] hL hM (Nat.le_refl _) e1 (fun H1 l2 hM1 => ?_)
  dsimp only at e2
  split at e2
  case h_2 => cases e2
  rename_i a0 sp a1 dp n
  split at e2
  case isFalse => cases e2
  rename_i hc
  obtain ⟨c1, c2, c3, c4, c5⟩ := hc
  cases e2
  have hw40 := ac_words
  refine va_copyl (s := s) (rest := []) hx hb (hml.trans (show lv_has ls nL _ from hL).1.symm) hown (hts _ hw.1) (hts _ hw.2.1) (hts _ hw.2.2.1) (hts _ hw.2.2.2) hK hM1.1 hM1.2.1 hM1.2.2 k0 k1 1 1 (fw_w_at hk0) (fw_w_at hk1) rfl rfl rfl (i32_nn c1) (i32_nn c2) (i32_nn c3) (by rw [cl_n, cl_n]; omega) (by rw [cl_n, cl_n]; omega) (fun _ _ => rfl) (by omega) (by simp only [List.map_nil, List.sum_nil]; omega) h (fun H4 l4 hP hD hS => ?_)
  have hset := fw_w_g (lay := lay) (adr := adr) (cA := cA) (σ := σ1) (σ' := cpM σ1 (64 * k0) (64 * k1) (w32 sp).toNat (w32 dp).toNat (w32 n).toNat) hR.2.2.2.2.1 hk1 (fun n' j hn hj => by
    funext j'
    simp only [cpM]
    rw [if_neg (by omega)]) rfl
  refine k_.1 rfl H4 l4 ls (fw_L_sub hT hL) ⟨?_, fw_D hM1.2.1, hS⟩
  rw [← hset]
  have he : fw_c adr cA (cpM σ1 (64 * k0) (64 * k1) (w32 sp).toNat (w32 dp).toNat (w32 n).toNat) k1 (.inr (1, n1)) = .inl (cA 1, n1, .inr (.inl (va_cpy (fun i => Int64.ofInt (σ1 (64 * k0) i)) (fun i => Int64.ofInt (σ1 (64 * k1) i)) (w32 sp).toNat (w32 dp).toNat (w32 n).toNat))) := by
    simp only [fw_c, fw_a]
    congr 5
    funext j
    simp only [cpM, va_cpy, true_and]
    split <;> rfl
  rw [he]
  exact hP
/-- a switch over lo, lo + 1 .. -/
def tsS (a : EM) (lo : Int) (cs : List SM) (df : SM) : SM := fun ρ σ => (a ρ σ).bind fun x => if lo ≤ w32 x.1 ∧ w32 x.1 < lo + cs.length then (match cs[(w32 x.1 - lo).toNat]? with
  | some s => s ρ x.2
  | none => none) else df ρ x.2
def fw_cs (S : SI) (T : FT) (pc : Nat) (offs : Array Int) (N B C : Nat × FT) : Nat → List (Nat × SM) → Prop
  | _, [] => True
  | i, q :: l => (∃ off, offs[i]? = some off ∧ (pc : Int) + off = (q.1 : Int)) ∧ fw_S S T q.1 q.2 N B C ∧ fw_cs S T pc offs N B C (i + 1) l
theorem fw_cs_at {S : SI} {offs : Array Int} : ∀ (l : List (Nat × SM)) (i j : Nat) (q : Nat × SM), fw_cs S T pc offs N B C i l → l[j]? = some q → (∃ off, offs[i + j]? = some off ∧ (pc : Int) + off = (q.1 : Int)) ∧ fw_S S T q.1 q.2 N B C
  | [], i, j, q, _, h => by simp at h
  | z :: l, i, 0, q, hc, h => by
    simp only [List.getElem?_cons_zero, Option.some.injEq] at h
    subst h
    exact ⟨hc.1, hc.2.1⟩
  | z :: l, i, j + 1, q, hc, h => by
    rw [List.getElem?_cons_succ] at h
    have := fw_cs_at l (i + 1) j q hc.2.2 h
    rwa [show i + 1 + j = i + (j + 1) by omega] at this
theorem fs_tsw {lo hi dflt : Int} {offs : Array Int} {len pd : Nat} {cs : List (Nat × SM)} {df : SM} (a : fw_E (lay, own, cc, nL, d, r) T 0 pc pc1 0 f) (h : decode cc pc1 = .ok (.tableswitch dflt lo hi offs, len)) (hcs : fw_cs (lay, own, cc, nL, d, r) T pc1 offs N B C 0 cs) (hl : lo + cs.length = hi + 1) (ht : (pc1 : Int) + dflt = (pd : Int)) (hd : fw_S (lay, own, cc, nL, d, r) T pd df N B C) : fw_S (lay, own, cc, nL, d, r) T pc (tsS f lo (cs.map Prod.snd) df) N B C := by
  rintro ⟨p, l, e, R, s, m, args, below, meth, c, D, adr, cA, A, cells, slots, Q⟩ ⟨hx, hb, hml, hown, hts, hK, hA, hR⟩ ρ σ o x ρ' σ' H locs ls hL hM hf k_
  have X : fw_X (lay, own, cc, nL, d, r) (p, l, e, R, s, m, args, below, meth, c, D, adr, cA, A, cells, slots, Q) := ⟨hx, hb, hml, hown, hts, hK, hA, hR⟩
  obtain ⟨y, e1, e2⟩ := bind_some hf
  refine a _ X ρ σ y.1 y.2 H locs ls [] hL hM (Nat.le_refl _) e1 (fun H1 l1 hM1 => ?_)
  rw [List.length_map] at e2
  by_cases hr : lo ≤ w32 y.1 ∧ w32 y.1 < lo + cs.length
  · rw [if_pos hr, List.getElem?_map] at e2
    cases hq : cs[(w32 y.1 - lo).toNat]? with
    | none => rw [hq] at e2; cases e2
    | some q =>
      rw [hq] at e2
      obtain ⟨⟨off, h1, h2⟩, h3⟩ := fw_cs_at cs 0 _ q hcs hq
      rw [Nat.zero_add] at h1
      exact lv_tableIn hx hb h (show ¬ w32 y.1 < lo by omega) (show ¬ hi < w32 y.1 by omega) h1 h2 (h3 _ X ρ y.2 o x ρ' σ' H1 l1 ls hL hM1 e2 k_)
  · rw [if_neg hr] at e2
    exact lv_tableOut hx hb h (show w32 y.1 < lo ∨ hi < w32 y.1 by omega) ht (hd _ X ρ y.2 o x ρ' σ' H1 l1 ls hL hM1 e2 k_)
theorem fs_sw {a : SM} {E : Nat × FT} (A1 : fw_S (lay, own, cc, nL, d, r) T pc a E E C) : fw_S (lay, own, cc, nL, d, r) T pc (swS a) E B C := by
  intro G X ρ σ o x ρ' σ' H locs ls hL hM hf k
  obtain ⟨⟨o1, x1, ρ1, σ1⟩, e1, e2⟩ := bind_some hf
  by_cases h1 : o1 = 1
  · subst h1
    cases e2
    exact A1 G X ρ σ 1 _ _ _ H locs ls hL hM e1 ⟨fun z => absurd z (by decide), fun _ => k.1 rfl, fun z => absurd z (by decide), fun z => absurd z (by decide), fun z => absurd z (by decide)⟩
  · rw [if_neg (show ¬ ((o1, x1, ρ1, σ1) : Nat × Int × Lo × Me).1 = 1 from h1)] at e2
    cases e2
    exact A1 G X ρ σ _ _ _ _ H locs ls hL hM e1 ⟨k.1, fun z => absurd z h1, k.2.2⟩
end FWN
end
section
section FWQ
variable {lay : List CD} {own : String} {cc : ByteArray} {nL d : Nat} {N B C : Nat × FT}
def pT : Nat → List Nat → FT
  | _, [] => []
  | i, t :: ts => (i, t) :: pT (i + tcat t) ts
theorem pT_ge : ∀ (ts : List Nat) (i : Nat) (q : Nat × Nat), q ∈ pT i ts → i ≤ q.1
  | [], _, _, h => by cases h
  | t :: ts, i, q, h => by
    rcases List.mem_cons.mp h with rfl | h
    · exact Nat.le_refl _
    · exact Nat.le_trans (Nat.le_add_right _ _) (pT_ge ts _ q h)
theorem tcat_pos (t : Nat) : 0 < tcat t := by
  unfold tcat
  split <;> decide
theorem fw_vcat {adr : Nat → Nat} {t : Nat} {x : Int} : (fw_v adr t x).category = tcat t := by
  unfold fw_v tcat
  split
  · rfl
  · rfl
  · rw [if_neg (by omega)]
    rfl
theorem ini_args {adr : Nat → Nat} : ∀ (ts : List Nat) (i : Nat) (xs : List Int), xs.length = ts.length → lv_args i (List.zipWith (fw_v adr) ts xs) = (pT i ts).map fun q => (q.1, fw_v adr q.2 (ini ((pT i ts).map Prod.fst) xs q.1))
  | [], _, xs, h => by cases xs <;> rfl
  | t :: ts, i, [], h => by cases h
  | t :: ts, i, x :: xr, h => by
    have h' : xr.length = ts.length := by simpa using h
    have hi : (if (fw_v adr t x).category = 2 then i + 2 else i + 1) = i + tcat t := by
      rw [fw_vcat]
      unfold tcat
      by_cases h1 : t = 1
      · simp [h1]
      · simp [h1]
    simp only [List.zipWith_cons_cons, lv_args, pT, List.map_cons, ini]
    rw [hi, ini_args ts (i + tcat t) xr h']
    congr 1
    · simp [up]
    · apply List.map_congr_left
      intro q hq
      have h1 := pT_ge ts _ q hq
      have h2 := tcat_pos t
      have : q.1 ≠ i := by omega
      simp [up, this]
theorem lg_len {adr : Nat → Nat} : ∀ (ts : List Nat) (xs : List Int), xs.length = ts.length → (lg_sl (List.zipWith (fw_v adr) ts xs)).length = (ts.map tcat).sum
  | [], xs, h => by cases xs <;> rfl
  | t :: ts, [], h => by cases h
  | t :: ts, x :: xr, h => by
    have h' : xr.length = ts.length := by simpa using h
    have ih := lg_len (adr := adr) ts xr h'
    simp only [lg_sl, List.zipWith_cons_cons, List.flatMap_cons, List.length_append, List.map_cons, List.sum_cons] at ih ⊢
    rw [ih, fw_vcat]
    congr 1
    unfold tcat
    by_cases h1 : t = 1 <;> simp [h1]
/-- the body's walk, from the entry -/
theorem fw_start {l : Launch} {y : MethodName} {ret : Option FieldType} {rt : Option Nat} {ts : List Nat} {bd : SM} {D : va_G} {adr : Nat → Nat} {cA : Nat → ClassId} {xs : List Int} {σ σ1 : Me} {x1 : Int} {ρ1 : Lo} {sz : Nat} {Qc : Array Value → State → Outcome → State → Prop}
    (hok : fw_ok lay) (hy : plainName y.cls = true) (body : fw_S (lay, y.cls, cc, nL, d, rt) (pT 0 ts) 0 bd N B C) (hw : (ts.map tcat).sum ≤ nL) (hlen : xs.length = ts.length) (e1 : bd (ini ((pT 0 ts).map Prod.fst) xs) σ = some (3, x1, ρ1, σ1))
    (fin : ∀ (p : Program) (e : Env) (s : State) (m : MethodId) (args : Array Value) (below : List Frame) (meth : Method) (c : Code) (H : Heap) (locs : List Loc) (ls : Array Slot) (pc : Nat), p.tables.exec = Jvm.exec → c.code = cc → meth.sig.returnType = ret → meth.locks = false → s.heap.size = sz → fw_rd cc rt pc → va_P D vwCl (fw_w lay adr cA σ1) H → va_S (va_A (fw_w lay adr cA σ) sz) s.heap H locs → W p l e (headSpec (Cond.code y cc nL ret :: lw_tb) (fw_rm d)).room s m args below meth c H locs 0 0 (MQ below Qc args s 0 0 (va_A (fw_w lay adr cA σ) sz)) (F0 m pc ls ((rt.map fun t => fw_v adr t x1).toList))) :
    Met l y (.code y cc nL ret :: lw_tb) (fw_rm d) (va_Pc (List.zipWith (fw_v adr) ts xs) (fun U => U.heap.size = sz ∧ va_P D vwCl (fw_w lay adr cA σ) U.heap ∧ va_K D vwCl (fw_t cA) U ∧ fw_nw U ∧ va_D (fun _ => True) (fw_w lay adr cA σ))) Qc 0 0 (va_A (fw_w lay adr cA σ) sz) := by
  refine Met.ofW (cc := cc) (maxL := nL) (ret := ret) hy rfl ?_
  intro p e s m args below meth c s₁ Bd hml hv
  obtain ⟨rfl, hsz, hP, hK, hN, hD0⟩ := hv
  have hts0 := atoms_spec (ws := Cond.code y cc nL ret :: lw_tb) Bd.pre
  have hts : ∀ w ∈ lw_tb, w.before (List.zipWith (fw_v adr) ts xs).toArray s = true := fun w h => hts0 w (List.mem_cons_of_mem _ h)
  have hown : s.vm.findClass y.cls = some m.cls := findClass_of_methodNamed Bd.named
  have hD := hD0.self (sz := sz)
  have hl := lv_entry (List.zipWith (fw_v adr) ts xs) (n := nL) (by rw [lg_len ts xs hlen]; exact hw)
  rw [lg_entry_eq]
  generalize (lg_sl (List.zipWith (fw_v adr) ts xs) ++ List.replicate (nL - (lg_sl (List.zipWith (fw_v adr) ts xs)).length) Slot.unset).toArray = ls at hl ⊢
  rw [ini_args ts 0 xs hlen] at hl
  refine body (p, l, e, (headSpec (Cond.code y cc nL ret :: lw_tb) (fw_rm d)).room, s, m, (List.zipWith (fw_v adr) ts xs).toArray, below, meth, c, D, adr, cA, va_A (fw_w lay adr cA σ) sz, 0, 0, MQ below Qc (List.zipWith (fw_v adr) ts xs).toArray s 0 0 (va_A (fw_w lay adr cA σ) sz)) ⟨Bd.exec, Bd.bytes, hml, hown, hts, hK, fun q h => Or.inr (by omega), Nat.le_refl _, Nat.le_refl _, Nat.le_refl _, Nat.le_refl _, hok, hN⟩ (ini ((pT 0 ts).map Prod.fst) xs) σ 3 x1 ρ1 σ1 s.heap [] ls hl ⟨hP, hD, va_S.rf⟩ e1 ⟨fun z => absurd z (by decide), fun z => absurd z (by decide), fun z => absurd z (by decide), fun _ H' l' ls' pc' hrd hM' => ?_, fun z => absurd z (by decide)⟩
  have k := fin p e s m (List.zipWith (fw_v adr) ts xs).toArray below meth c H' l' ls' pc' Bd.exec Bd.bytes Bd.returns Bd.notSynchronized hsz hrd hM'.1 hM'.2.2
  cases rt with
  | none => exact k
  | some t => exact k
theorem fm_i {y : MethodName} {ts : List Nat} {bd : SM} (hok : fw_ok lay) (hy : plainName y.cls = true) (body : fw_S (lay, y.cls, cc, nL, d, some 0) (pT 0 ts) 0 bd N B C) (hw : (ts.map tcat).sum ≤ nL) : fw_C lay y cc nL (some .int) d ts (some 0) (mthF ((pT 0 ts).map Prod.fst) bd) := by
  intro l D adr cA xs σ σ' x sz hlen hf
  obtain ⟨⟨o, x1, ρ1, σ1⟩, e1, e2⟩ := bind_some hf
  split at e2
  case isFalse => cases e2
  rename_i h3
  cases e2
  obtain rfl : o = 3 := h3
  refine fw_start hok hy body hw hlen e1 (fun p e s m args below meth c H locs ls pc hx hb hr hlk hsz hrd hP hS => ?_)
  have hq : ∀ t : State, t.heap = H → s.WarmedH t.vm → fw_Q lay D adr cA σ σ1 sz (some 0) x1 args s (.returned ((some 0 : Option Nat).map fun t => fw_v adr t x1)) t := fun t ht hW => ⟨⟨rfl, by rw [ht]; exact hP⟩, by
    subst hsz
    exact hS.F ht⟩
  exact W.iret hx hb hr hq hS.2.2 hrd hlk
theorem fm_z {y : MethodName} {ts : List Nat} {bd : SM} (hok : fw_ok lay) (hy : plainName y.cls = true) (body : fw_S (lay, y.cls, cc, nL, d, some 0) (pT 0 ts) 0 bd N B C) (hw : (ts.map tcat).sum ≤ nL) : fw_C lay y cc nL (some .boolean) d ts (some 0) (mthZ ((pT 0 ts).map Prod.fst) bd) := by
  intro l D adr cA xs σ σ' x sz hlen hf
  obtain ⟨⟨o, x1, ρ1, σ1⟩, e1, e2⟩ := bind_some hf
  split at e2
  case isFalse => cases e2
  rename_i h3
  cases e2
  obtain rfl : o = 3 := h3.1
  refine fw_start hok hy body hw hlen e1 (fun p e s m args below meth c H locs ls pc hx hb hr hlk hsz hrd hP hS => ?_)
  have hq : ∀ t : State, t.heap = H → s.WarmedH t.vm → fw_Q lay D adr cA σ σ1 sz (some 0) x1 args s (.returned ((some 0 : Option Nat).map fun t => fw_v adr t x1)) t := fun t ht hW => ⟨⟨rfl, by rw [ht]; exact hP⟩, by
    subst hsz
    exact hS.F ht⟩
  exact W.zret (v := Int32.ofInt x1) (ty := .boolean) hx hb hr (by rcases h3.2 with z | z <;> (change x1 = _ at z; rw [z]; rfl)) hq hS.2.2 hrd hlk
theorem fm_l {y : MethodName} {ts : List Nat} {bd : SM} (hok : fw_ok lay) (hy : plainName y.cls = true) (body : fw_S (lay, y.cls, cc, nL, d, some 1) (pT 0 ts) 0 bd N B C) (hw : (ts.map tcat).sum ≤ nL) : fw_C lay y cc nL (some .long) d ts (some 1) (mthF ((pT 0 ts).map Prod.fst) bd) := by
  intro l D adr cA xs σ σ' x sz hlen hf
  obtain ⟨⟨o, x1, ρ1, σ1⟩, e1, e2⟩ := bind_some hf
  split at e2
  case isFalse => cases e2
  rename_i h3
  cases e2
  obtain rfl : o = 3 := h3
  refine fw_start hok hy body hw hlen e1 (fun p e s m args below meth c H locs ls pc hx hb hr hlk hsz hrd hP hS => ?_)
  have hq : ∀ t : State, t.heap = H → s.WarmedH t.vm → fw_Q lay D adr cA σ σ1 sz (some 1) x1 args s (.returned ((some 1 : Option Nat).map fun t => fw_v adr t x1)) t := fun t ht hW => ⟨⟨rfl, by rw [ht]; exact hP⟩, by
    subst hsz
    exact hS.F ht⟩
  exact W.lret hx hb hr hq hS.2.2 hrd hlk
theorem fm_v {y : MethodName} {ts : List Nat} {bd : SM} (hok : fw_ok lay) (hy : plainName y.cls = true) (body : fw_S (lay, y.cls, cc, nL, d, none) (pT 0 ts) 0 bd N B C) (hw : (ts.map tcat).sum ≤ nL) : fw_C lay y cc nL (none) d ts (none) (mthF ((pT 0 ts).map Prod.fst) bd) := by
  intro l D adr cA xs σ σ' x sz hlen hf
  obtain ⟨⟨o, x1, ρ1, σ1⟩, e1, e2⟩ := bind_some hf
  split at e2
  case isFalse => cases e2
  rename_i h3
  cases e2
  obtain rfl : o = 3 := h3
  refine fw_start hok hy body hw hlen e1 (fun p e s m args below meth c H locs ls pc hx hb hr hlk hsz hrd hP hS => ?_)
  have hq : ∀ t : State, t.heap = H → s.WarmedH t.vm → fw_Q lay D adr cA σ σ1 sz (none) x1 args s (.returned ((none : Option Nat).map fun t => fw_v adr t x1)) t := fun t ht hW => ⟨⟨rfl, by rw [ht]; exact hP⟩, by
    subst hsz
    exact hS.F ht⟩
  exact W.vret hx hb hr hq hS.2.2 hrd hlk
theorem fm_r {y : MethodName} {ts : List Nat} {bd : SM} {nm : String} {q : Nat} (hok : fw_ok lay) (hy : plainName y.cls = true) (body : fw_S (lay, y.cls, cc, nL, d, some (q + 2)) (pT 0 ts) 0 bd N B C) (hw : (ts.map tcat).sum ≤ nL) : fw_C lay y cc nL (some (.object nm)) d ts (some (q + 2)) (mthF ((pT 0 ts).map Prod.fst) bd) := by
  intro l D adr cA xs σ σ' x sz hlen hf
  obtain ⟨⟨o, x1, ρ1, σ1⟩, e1, e2⟩ := bind_some hf
  split at e2
  case isFalse => cases e2
  rename_i h3
  cases e2
  obtain rfl : o = 3 := h3
  refine fw_start hok hy body hw hlen e1 (fun p e s m args below meth c H locs ls pc hx hb hr hlk hsz hrd hP hS => ?_)
  have hq : ∀ t : State, t.heap = H → s.WarmedH t.vm → fw_Q lay D adr cA σ σ1 sz (some (q + 2)) x1 args s (.returned ((some (q + 2) : Option Nat).map fun t => fw_v adr t x1)) t := fun t ht hW => ⟨⟨rfl, by rw [ht]; exact hP⟩, by
    subst hsz
    exact hS.F ht⟩
  exact W.aret hx hb hr (Or.inl ⟨nm, rfl⟩) (Or.inr ⟨adr q, rfl⟩) hq hS.2.2 hrd hlk
end FWQ
end
section
section FWT
variable {lay : List CD} {own : String} {cc : ByteArray} {nL d : Nat} {r : Option Nat} {T T' : FT} {b pc pc1 pc2 pc3 pt pf tgt pe : Nat} {f g h3 : EM} {off : Int} {N B C : Nat × FT}
/-- how often a loop may go round, at most: more than any does -/
def FU : Nat := 100000
theorem tbl_at {w : Cond} (i : Nat) (h : tables_1[i]? = some w) : w ∈ lw_tbl := List.mem_append_right _ (List.mem_of_getElem? h)
theorem tb_at {w : Cond} (i : Nat) (h : tables_1[i]? = some w) (hg : goodWord w = true) : w ∈ lw_tb := lw_tb_of (tbl_at i h) hg
theorem tb_sel {w : Cond} (i : Nat) (h : (k2_sels lw_privs)[i]? = some w) (hg : goodWord w = true) : w ∈ lw_tb := lw_tb_of (List.mem_append_left _ (List.mem_of_getElem? h)) hg
theorem fw_lv_mk {index maxL n : Nat} {y : MethodName} {cy : ByteArray} {ret : Option FieldType} (h1 : Cond.methodLink own index y ∈ lw_tb) (h2 : Cond.instanceMethod y ∈ lw_tb) (h3 : Cond.selects y.cls y y ∈ lw_tb) (h4 : Cond.initialized y.cls ∈ lw_tb) (h5 : Cond.code y cy maxL ret ∈ lw_tb) (h6 : y.cls ≠ "java/lang/invoke/MethodHandle" ∧ y.cls ≠ "java/lang/invoke/VarHandle" ∧ (parseMethodDescriptor y.desc).map (fun d => d.parameters.length) = some n) : fw_lv own index y cy maxL ret n := by
  refine ⟨fun w hw => ?_, h6⟩
  simp only [wsV, List.cons_append, List.nil_append, List.mem_cons, List.not_mem_nil, or_false] at hw
  rcases hw with rfl | rfl | rfl | rfl | rfl <;> assumption
theorem fw_ls_mk {index maxL n : Nat} {y : MethodName} {cy : ByteArray} {ret : Option FieldType} (h1 : Cond.methodLink own index y ∈ lw_tb) (h2 : Cond.static y ∈ lw_tb) (h4 : Cond.initialized y.cls ∈ lw_tb) (h5 : Cond.code y cy maxL ret ∈ lw_tb) (h6 : y.cls ≠ "java/lang/invoke/MethodHandle" ∧ y.cls ≠ "java/lang/invoke/VarHandle" ∧ (parseMethodDescriptor y.desc).map (fun d => d.parameters.length) = some n) : fw_ls own index y cy maxL ret n := by
  refine ⟨fun w hw => ?_, h6⟩
  simp only [va_wsS, List.cons_append, List.nil_append, List.mem_cons, List.not_mem_nil, or_false] at hw
  rcases hw with rfl | rfl | rfl | rfl <;> assumption
theorem fe_gt {t : Nat} (a : fw_E (lay, own, cc, nL, d, r) T b pc pc1 t f) (h : decode cc pc1 = .ok (.goto off, 3)) (ht : (pc1 : Int) + off = (tgt : Int)) : fw_E (lay, own, cc, nL, d, r) T b pc tgt t f := by
  rintro ⟨p, l, e, R, s, m, args, below, meth, c, D, adr, cA, A, cells, slots, Q⟩ ⟨hx, hb, hml, hown, hts, hK, hA, hR⟩ ρ σ x σ' H locs ls st hL hM hst hf k
  have X : fw_X (lay, own, cc, nL, d, r) (p, l, e, R, s, m, args, below, meth, c, D, adr, cA, A, cells, slots, Q) := ⟨hx, hb, hml, hown, hts, hK, hA, hR⟩
  exact a _ X ρ σ x σ' H locs ls st hL hM hst hf (fun H1 l1 hM1 => lv_goto hx hb h ht (k H1 l1 hM1))
theorem fe_ternG {c : BM} {t : Nat} (a : fw_B (lay, own, cc, nL, d, r) T b pc pt pf c) (v : fw_E (lay, own, cc, nL, d, r) T b pt pe t f) (v2 : fw_E (lay, own, cc, nL, d, r) T b pf pe t g) : fw_E (lay, own, cc, nL, d, r) T b pc pe t (kE c f g) := by
  intro G X ρ σ x σ' H locs ls st hL hM hst hf k
  obtain ⟨y, e1, e2⟩ := bind_some hf
  refine a G X ρ σ y.1 y.2 H locs ls st hL hM hst e1 (fun H1 l1 hM1 => ?_)
  by_cases hy : y.1 = true
  · rw [if_pos hy] at e2 ⊢
    exact v G X ρ y.2 x σ' H1 l1 ls st hL hM1 hst e2 k
  · rw [if_neg hy] at e2 ⊢
    exact v2 G X ρ y.2 x σ' H1 l1 ls st hL hM1 hst e2 k
theorem fb_gtT {c : BM} (a : fw_B (lay, own, cc, nL, d, r) T b pc pt pf c) (h : decode cc pt = .ok (.goto off, 3)) (ht : (pt : Int) + off = (tgt : Int)) : fw_B (lay, own, cc, nL, d, r) T b pc tgt pf c := by
  rintro ⟨p, l, e, R, s, m, args, below, meth, c, D, adr, cA, A, cells, slots, Q⟩ ⟨hx, hb, hml, hown, hts, hK, hA, hR⟩ ρ σ x σ' H locs ls st hL hM hst hf k
  have X : fw_X (lay, own, cc, nL, d, r) (p, l, e, R, s, m, args, below, meth, c, D, adr, cA, A, cells, slots, Q) := ⟨hx, hb, hml, hown, hts, hK, hA, hR⟩
  refine a _ X ρ σ x σ' H locs ls st hL hM hst hf (fun H1 l1 hM1 => ?_)
  have kk := k H1 l1 hM1
  by_cases hx1 : x = true
  · rw [if_pos hx1] at kk ⊢
    exact lv_goto hx hb h ht kk
  · rw [if_neg hx1] at kk ⊢
    exact kk
def tkB (c a b : BM) : BM := fun ρ σ => (c ρ σ).bind fun x => if x.1 = true then a ρ x.2 else b ρ x.2
theorem fb_tern {c a a2 : BM} {p1 p2 pg : Nat} (hc : fw_B (lay, own, cc, nL, d, r) T b pc p1 p2 c) (ha : fw_B (lay, own, cc, nL, d, r) T b p1 pg pf a) (h : decode cc pg = .ok (.goto off, 3)) (ht : (pg : Int) + off = (pt : Int)) (ha2 : fw_B (lay, own, cc, nL, d, r) T b p2 pt pf a2) : fw_B (lay, own, cc, nL, d, r) T b pc pt pf (tkB c a a2) := by
  intro G X ρ σ x σ' H locs ls st hL hM hst hf k
  obtain ⟨y, e1, e2⟩ := bind_some hf
  refine hc G X ρ σ y.1 y.2 H locs ls st hL hM hst e1 (fun H1 l1 hM1 => ?_)
  by_cases hy : y.1 = true
  · rw [if_pos hy] at e2 ⊢
    exact fb_gtT ha h ht G X ρ y.2 x σ' H1 l1 ls st hL hM1 hst e2 k
  · rw [if_neg hy] at e2 ⊢
    exact ha2 G X ρ y.2 x σ' H1 l1 ls st hL hM1 hst e2 k
theorem fe_alen {k n ty : Nat} (a : fw_E (lay, own, cc, nL, d, r) T b pc pc1 (k + 2) f) (hk : lay[k]? = some (.inr (ty, n))) (ht : ty < 4) (h : decode cc pc1 = .ok (.arraylength, 1)) : fw_E (lay, own, cc, nL, d, r) T b pc (pc1 + 1) 0 (thE f (cE n)) := by
  rintro ⟨p, l, e, R, s, m, args, below, meth, c, D, adr, cA, A, cells, slots, Q⟩ ⟨hx, hb, hml, hown, hts, hK, hA, hR⟩ ρ σ x σ' H locs ls st hL hM hst hf k_
  have X : fw_X (lay, own, cc, nL, d, r) (p, l, e, R, s, m, args, below, meth, c, D, adr, cA, A, cells, slots, Q) := ⟨hx, hb, hml, hown, hts, hK, hA, hR⟩
  obtain ⟨y, e1, e2⟩ := bind_some hf
  cases e2
  refine a _ X ρ σ y.1 y.2 H locs ls st hL hM hst e1 (fun H1 l1 hM1 => ?_)
  have ht2 : (fw_t cA)[ty]? = some (cA ty, ([.int, .long, .byte, .boolean] : List FieldType).getD ty .int) := by
    match ty, ht with
    | 0, _ => rfl
    | 1, _ => rfl
    | 2, _ => rfl
    | 3, _ => rfl
  exact va_alen hx hb hK hM1.1 k ty (fw_w_at hk) ht2 rfl h (k_ H1 l1 hM1)
/-- the call itself, its arguments on the stack -/
theorem fw_inv {k ci index d' maxL Nc : Nat} {rt : Option Nat} {ts : List Nat} {y : MethodName} {cy : ByteArray} {ret : Option FieldType} {fm : FM} {fs : List (Nat × Nat)} {Tt : u_T} {p : Program} {l : Launch} {e : Env} {R : Room} {s : State} {m : MethodId} {args : Array Value} {below : List Frame} {meth : Method} {c : Code} {D : va_G} {adr : Nat → Nat} {cA : Nat → ClassId} {A : Nat → Prop} {cells slots : Nat} {Q : State → Prop} {ρ : Lo} {σ1 σ' : Me} {x x0 : Int} {xr : List Int} {H1 : Heap} {l2 : List Loc} {ls : Array Slot} {st : List Value} (M : fw_C lay y cy maxL ret d' ((k + 2) :: ts) rt fm) (hw : fw_lv own index y cy maxL ret ts.length) (hk : lay[k]? = some (.inl (ci, fs))) (hc : vwCl[ci]? = some (y.cls, Tt, Nc)) (hd : d' + 1 ≤ d) (hm : maxL ≤ 21) (h : decode cc pc1 = .ok (.invokevirtual index, 3)) (X : fw_X (lay, own, cc, nL, d, r) (p, l, e, R, s, m, args, below, meth, c, D, adr, cA, A, cells, slots, Q)) (hL : fw_L (lay, own, cc, nL, d, r) (p, l, e, R, s, m, args, below, meth, c, D, adr, cA, A, cells, slots, Q) T ρ ls) (hM1 : fw_M (lay, own, cc, nL, d, r) (p, l, e, R, s, m, args, below, meth, c, D, adr, cA, A, cells, slots, Q) σ1 H1 l2) (hst : (st.map fun v => v.category).sum ≤ 8) (hl2 : xr.length = ts.length) (e2 : fm (x0 :: xr) σ1 = some (x, σ')) (kk : ∀ H' locs', fw_M (lay, own, cc, nL, d, r) (p, l, e, R, s, m, args, below, meth, c, D, adr, cA, A, cells, slots, Q) σ' H' locs' → fw_W (p, l, e, R, s, m, args, below, meth, c, D, adr, cA, A, cells, slots, Q) H' locs' (pc1 + 3) ls ((rt.map fun t => fw_v adr t x).toList ++ st)) : fw_W (p, l, e, R, s, m, args, below, meth, c, D, adr, cA, A, cells, slots, Q) H1 l2 pc1 ls ((List.zipWith (fw_v adr) ts xr).reverse ++ .ref (adr k) :: st) := by
  obtain ⟨hx, hb, hml, hown, hts, hK, hA, hR⟩ := X
  have run := va_runV (e := e) (below := below) (meth := meth) (g := F0 m pc1 ls ((List.zipWith (fw_v adr) ts xr).reverse ++ .ref (adr k) :: st)) (As := List.zipWith (fw_v adr) ts xr) (rest := st) ⟨hx, hb, hml, hown, hts⟩ (M l D adr cA (x0 :: xr) σ1 σ' x H1.size (by simp [hl2]) e2) (cwV (R := R) ts.length hts (fw_goodV hw.1) rfl rfl rfl ⟨rfl, hw.2⟩ ⟨by show d' + 1 ≤ R.frames; omega, by show 8 + (maxL + 11) + 40 * d' ≤ R.locals; omega⟩) ⟨fw_blind, va_recv hK hM1.1 hc (fw_w_at hk), fun U hU hW => ⟨rfl, by rw [hU], by rw [hU]; exact hM1.1, va_K.moved hW.alike hK, fw_nw_warm hW hR.2.2.2.2.2, hM1.2.1.weaken (fun _ _ _ _ => trivial)⟩⟩ rfl (by simp [hl2]) (show lv_has ls nL _ from hL).1 rfl (lv_room hst) h (cells := cells) (slots := slots) (locs := l2) ⟨by omega, by omega⟩
  exact fw_back (nL := nL) (own := own) (cc := cc) (d := d) (r := r) (Q := Q) run hA hM1 kk
/-- x.m(c ? a : b) -/
theorem fs_callT {k k1 k2 ci index d1 d2 maxL Nc : Nat} {c : BM} {y : MethodName} {cy : ByteArray} {ret : Option FieldType} {f1 f2 : FM} {fs : List (Nat × Nat)} {Tt : u_T} (ob : fw_E (lay, own, cc, nL, d, r) T 0 pc pc1 (k + 2) f) (hc : fw_B (lay, own, cc, nL, d, r) T 1 pc1 pt pf c) (a1 : fw_E (lay, own, cc, nL, d, r) T 1 pt pe (k1 + 2) g) (a2 : fw_E (lay, own, cc, nL, d, r) T 1 pf pe (k2 + 2) h3)
    (M1 : fw_C lay y cy maxL ret d1 [k + 2, k1 + 2] none f1) (M2 : fw_C lay y cy maxL ret d2 [k + 2, k2 + 2] none f2) (hw : fw_lv own index y cy maxL ret 1) (hk : lay[k]? = some (.inl (ci, fs))) (hci : vwCl[ci]? = some (y.cls, Tt, Nc)) (hd1 : d1 + 1 ≤ d) (hd2 : d2 + 1 ≤ d) (hm : maxL ≤ 21) (h : decode cc pe = .ok (.invokevirtual index, 3)) (hT : fw_ts T' T = true) (hpure : ∀ ρ σ, f ρ σ = some (0, σ)) : fw_S (lay, own, cc, nL, d, r) T pc (ifS c (exS (clE f1 [f, g])) (exS (clE f2 [f, h3]))) (pe + 3, T') B C := by
  rintro ⟨p, l, e, R, s, m, args, below, meth, c, D, adr, cA, A, cells, slots, Q⟩ ⟨hx, hb, hml, hown, hts, hK, hA, hR⟩ ρ σ o x ρ' σ' H locs ls hL hM hf k_
  have X : fw_X (lay, own, cc, nL, d, r) (p, l, e, R, s, m, args, below, meth, c, D, adr, cA, A, cells, slots, Q) := ⟨hx, hb, hml, hown, hts, hK, hA, hR⟩
  obtain ⟨y1, e1, e2⟩ := bind_some hf
  have c1 : tcat (k + 2) = 1 := if_neg (by omega)
  refine ob _ X ρ σ 0 σ H locs ls [] hL hM (Nat.le_refl _) (hpure ρ σ) (fun H1 l1 hM1 => ?_)
  refine hc _ X ρ σ y1.1 y1.2 H1 l1 ls _ hL hM1 (by simp only [List.map_cons, List.sum_cons, List.map_nil, List.sum_nil, fw_tcat]; omega) e1 (fun H2 l2 hM2 => ?_)
  by_cases hy : y1.1 = true
  · rw [if_pos hy] at e2 ⊢
    obtain ⟨y0, e0, e00⟩ := bind_some e2
    cases e00
    obtain ⟨⟨xs, σ1⟩, e3, e4⟩ := bind_some e0
    obtain ⟨u0, u1, u2⟩ := bind_some e3
    rw [hpure] at u1
    cases u1
    obtain ⟨⟨xs2, σ2⟩, v1, v2⟩ := bind_some u2
    cases v2
    obtain ⟨w0, w1, w2⟩ := bind_some v1
    cases w2
    refine a1 _ X ρ y1.2 w0.1 w0.2 H2 l2 ls _ hL hM2 (by simp only [List.map_cons, List.sum_cons, List.map_nil, List.sum_nil, fw_tcat]; omega) w1 (fun H3 l3 hM3 => ?_)
    exact fw_inv (xr := [w0.1]) (st := []) M1 hw hk hci hd1 hm h X hL hM3 (by simp) rfl e4 (fun H' l' hM' => k_.1 rfl H' l' ls (fw_L_sub hT hL) hM')
  · rw [if_neg hy] at e2 ⊢
    obtain ⟨y0, e0, e00⟩ := bind_some e2
    cases e00
    obtain ⟨⟨xs, σ1⟩, e3, e4⟩ := bind_some e0
    obtain ⟨u0, u1, u2⟩ := bind_some e3
    rw [hpure] at u1
    cases u1
    obtain ⟨⟨xs2, σ2⟩, v1, v2⟩ := bind_some u2
    cases v2
    obtain ⟨w0, w1, w2⟩ := bind_some v1
    cases w2
    refine a2 _ X ρ y1.2 w0.1 w0.2 H2 l2 ls _ hL hM2 (by simp only [List.map_cons, List.sum_cons, List.map_nil, List.sum_nil, fw_tcat]; omega) w1 (fun H3 l3 hM3 => ?_)
    exact fw_inv (xr := [w0.1]) (st := []) M2 hw hk hci hd2 hm h X hL hM3 (by simp) rfl e4 (fun H' l' hM' => k_.1 rfl H' l' ls (fw_L_sub hT hL) hM')
end FWT
end
