section
-- ===== PART A: goes FIRST, ahead of the names: the tables' words, and 'selects' of the private methods out of them =====
/-- a private method of a class that the tables say can be made, by its rows of tables_1 -/
def lw_okq (q : MethodName × Nat) : Prop := (q.1.cls ≠ "java/lang/invoke/MethodHandle" ∧ q.1.cls ≠ "java/lang/invoke/VarHandle") ∧ Cond.instantiable q.1.cls q.2 ∈ tables_1 ∧ Cond.privateMethod q.1 ∈ tables_1 ∧ Cond.instanceMethod q.1 ∈ tables_1
theorem lw_p0 : lw_okq (⟨"StrengthHouse", "sheetAt", "(I)LStrengthHouse$Sheet;"⟩, 11) := ⟨⟨by decide +kernel, by decide +kernel⟩, List.mem_of_getElem? (i := 22) (by decide +kernel), List.mem_of_getElem? (i := 418) (by decide +kernel), List.mem_of_getElem? (i := 419) (by decide +kernel)⟩
theorem lw_p1 : lw_okq (⟨"StrengthHouse", "refuse", "(I)I"⟩, 11) := ⟨⟨by decide +kernel, by decide +kernel⟩, List.mem_of_getElem? (i := 22) (by decide +kernel), List.mem_of_getElem? (i := 428) (by decide +kernel), List.mem_of_getElem? (i := 429) (by decide +kernel)⟩
theorem lw_p2 : lw_okq (⟨"StrengthHouse$Piece", "answerAt", "(I)I"⟩, 6) := ⟨⟨by decide +kernel, by decide +kernel⟩, List.mem_of_getElem? (i := 94) (by decide +kernel), List.mem_of_getElem? (i := 519) (by decide +kernel), List.mem_of_getElem? (i := 520) (by decide +kernel)⟩
theorem lw_p3 : lw_okq (⟨"StrengthHouse$TextReader", "next", "()V"⟩, 4) := ⟨⟨by decide +kernel, by decide +kernel⟩, List.mem_of_getElem? (i := 324) (by decide +kernel), List.mem_of_getElem? (i := 597) (by decide +kernel), List.mem_of_getElem? (i := 598) (by decide +kernel)⟩
theorem lw_p4 : lw_okq (⟨"StrengthHouse$TextReader", "byteAt", "(I)I"⟩, 4) := ⟨⟨by decide +kernel, by decide +kernel⟩, List.mem_of_getElem? (i := 324) (by decide +kernel), List.mem_of_getElem? (i := 601) (by decide +kernel), List.mem_of_getElem? (i := 602) (by decide +kernel)⟩
theorem lw_p5 : lw_okq (⟨"StrengthHouse$TextReader", "isLetter", "(I)Z"⟩, 4) := ⟨⟨by decide +kernel, by decide +kernel⟩, List.mem_of_getElem? (i := 324) (by decide +kernel), List.mem_of_getElem? (i := 605) (by decide +kernel), List.mem_of_getElem? (i := 606) (by decide +kernel)⟩
theorem lw_p6 : lw_okq (⟨"StrengthHouse$TextReader", "isDigit", "(I)Z"⟩, 4) := ⟨⟨by decide +kernel, by decide +kernel⟩, List.mem_of_getElem? (i := 324) (by decide +kernel), List.mem_of_getElem? (i := 610) (by decide +kernel), List.mem_of_getElem? (i := 611) (by decide +kernel)⟩
theorem lw_p7 : lw_okq (⟨"StrengthHouse$TextReader", "isMark", "(Ljava/lang/String;)Z"⟩, 4) := ⟨⟨by decide +kernel, by decide +kernel⟩, List.mem_of_getElem? (i := 324) (by decide +kernel), List.mem_of_getElem? (i := 615) (by decide +kernel), List.mem_of_getElem? (i := 616) (by decide +kernel)⟩
theorem lw_p8 : lw_okq (⟨"StrengthHouse$TextReader", "readPart", "(LStrengthHouse$Program;Z)Z"⟩, 4) := ⟨⟨by decide +kernel, by decide +kernel⟩, List.mem_of_getElem? (i := 324) (by decide +kernel), List.mem_of_getElem? (i := 667) (by decide +kernel), List.mem_of_getElem? (i := 668) (by decide +kernel)⟩
theorem lw_p9 : lw_okq (⟨"StrengthHouse$TextReader", "actHere", "()I"⟩, 4) := ⟨⟨by decide +kernel, by decide +kernel⟩, List.mem_of_getElem? (i := 324) (by decide +kernel), List.mem_of_getElem? (i := 671) (by decide +kernel), List.mem_of_getElem? (i := 672) (by decide +kernel)⟩
theorem lw_p10 : lw_okq (⟨"StrengthHouse$TextReader", "numberHere", "()I"⟩, 4) := ⟨⟨by decide +kernel, by decide +kernel⟩, List.mem_of_getElem? (i := 324) (by decide +kernel), List.mem_of_getElem? (i := 688) (by decide +kernel), List.mem_of_getElem? (i := 689) (by decide +kernel)⟩
theorem lw_p11 : lw_okq (⟨"StrengthHouse$Machine", "begin", "(LStrengthHouse$Piece;LStrengthHouse$State;)V"⟩, 15) := ⟨⟨by decide +kernel, by decide +kernel⟩, List.mem_of_getElem? (i := 262) (by decide +kernel), List.mem_of_getElem? (i := 709) (by decide +kernel), List.mem_of_getElem? (i := 710) (by decide +kernel)⟩
theorem lw_p12 : lw_okq (⟨"StrengthHouse$Machine", "doPart", "(II)V"⟩, 15) := ⟨⟨by decide +kernel, by decide +kernel⟩, List.mem_of_getElem? (i := 262) (by decide +kernel), List.mem_of_getElem? (i := 723) (by decide +kernel), List.mem_of_getElem? (i := 724) (by decide +kernel)⟩
theorem lw_p13 : lw_okq (⟨"StrengthHouse$Machine", "isWanted", "(II)Z"⟩, 15) := ⟨⟨by decide +kernel, by decide +kernel⟩, List.mem_of_getElem? (i := 262) (by decide +kernel), List.mem_of_getElem? (i := 730) (by decide +kernel), List.mem_of_getElem? (i := 731) (by decide +kernel)⟩
theorem lw_p14 : lw_okq (⟨"StrengthHouse$Machine", "load", "()I"⟩, 15) := ⟨⟨by decide +kernel, by decide +kernel⟩, List.mem_of_getElem? (i := 262) (by decide +kernel), List.mem_of_getElem? (i := 734) (by decide +kernel), List.mem_of_getElem? (i := 735) (by decide +kernel)⟩
theorem lw_p15 : lw_okq (⟨"StrengthHouse$Machine", "doOnce", "(I)V"⟩, 15) := ⟨⟨by decide +kernel, by decide +kernel⟩, List.mem_of_getElem? (i := 262) (by decide +kernel), List.mem_of_getElem? (i := 739) (by decide +kernel), List.mem_of_getElem? (i := 740) (by decide +kernel)⟩
def lw_privs_1 : List (MethodName × Nat) := [(⟨"StrengthHouse", "sheetAt", "(I)LStrengthHouse$Sheet;"⟩, 11), (⟨"StrengthHouse", "refuse", "(I)I"⟩, 11), (⟨"StrengthHouse$Piece", "answerAt", "(I)I"⟩, 6), (⟨"StrengthHouse$TextReader", "next", "()V"⟩, 4), (⟨"StrengthHouse$TextReader", "byteAt", "(I)I"⟩, 4), (⟨"StrengthHouse$TextReader", "isLetter", "(I)Z"⟩, 4), (⟨"StrengthHouse$TextReader", "isDigit", "(I)Z"⟩, 4), (⟨"StrengthHouse$TextReader", "isMark", "(Ljava/lang/String;)Z"⟩, 4), (⟨"StrengthHouse$TextReader", "readPart", "(LStrengthHouse$Program;Z)Z"⟩, 4), (⟨"StrengthHouse$TextReader", "actHere", "()I"⟩, 4), (⟨"StrengthHouse$TextReader", "numberHere", "()I"⟩, 4), (⟨"StrengthHouse$Machine", "begin", "(LStrengthHouse$Piece;LStrengthHouse$State;)V"⟩, 15), (⟨"StrengthHouse$Machine", "doPart", "(II)V"⟩, 15), (⟨"StrengthHouse$Machine", "isWanted", "(II)Z"⟩, 15), (⟨"StrengthHouse$Machine", "load", "()I"⟩, 15), (⟨"StrengthHouse$Machine", "doOnce", "(I)V"⟩, 15)]
theorem lw_r1 : ∀ q ∈ lw_privs_1, lw_okq q := List.forall_mem_cons.mpr ⟨lw_p0, List.forall_mem_cons.mpr ⟨lw_p1, List.forall_mem_cons.mpr ⟨lw_p2, List.forall_mem_cons.mpr ⟨lw_p3, List.forall_mem_cons.mpr ⟨lw_p4, List.forall_mem_cons.mpr ⟨lw_p5, List.forall_mem_cons.mpr ⟨lw_p6, List.forall_mem_cons.mpr ⟨lw_p7, List.forall_mem_cons.mpr ⟨lw_p8, List.forall_mem_cons.mpr ⟨lw_p9, List.forall_mem_cons.mpr ⟨lw_p10, List.forall_mem_cons.mpr ⟨lw_p11, List.forall_mem_cons.mpr ⟨lw_p12, List.forall_mem_cons.mpr ⟨lw_p13, List.forall_mem_cons.mpr ⟨lw_p14, List.forall_mem_cons.mpr ⟨lw_p15, fun _ h => absurd h List.not_mem_nil⟩⟩⟩⟩⟩⟩⟩⟩⟩⟩⟩⟩⟩⟩⟩⟩
theorem lw_p16 : lw_okq (⟨"StrengthHouse$Machine", "moreStretch", "(I)I"⟩, 15) := ⟨⟨by decide +kernel, by decide +kernel⟩, List.mem_of_getElem? (i := 262) (by decide +kernel), List.mem_of_getElem? (i := 743) (by decide +kernel), List.mem_of_getElem? (i := 744) (by decide +kernel)⟩
theorem lw_p17 : lw_okq (⟨"StrengthHouse$Machine", "creeps", "()Z"⟩, 15) := ⟨⟨by decide +kernel, by decide +kernel⟩, List.mem_of_getElem? (i := 262) (by decide +kernel), List.mem_of_getElem? (i := 747) (by decide +kernel), List.mem_of_getElem? (i := 748) (by decide +kernel)⟩
theorem lw_p18 : lw_okq (⟨"StrengthHouse$Machine", "take", "()V"⟩, 15) := ⟨⟨by decide +kernel, by decide +kernel⟩, List.mem_of_getElem? (i := 262) (by decide +kernel), List.mem_of_getElem? (i := 757) (by decide +kernel), List.mem_of_getElem? (i := 758) (by decide +kernel)⟩
theorem lw_p19 : lw_okq (⟨"StrengthHouse$Machine", "askLimits", "(I)V"⟩, 15) := ⟨⟨by decide +kernel, by decide +kernel⟩, List.mem_of_getElem? (i := 262) (by decide +kernel), List.mem_of_getElem? (i := 762) (by decide +kernel), List.mem_of_getElem? (i := 763) (by decide +kernel)⟩
theorem lw_p20 : lw_okq (⟨"StrengthHouse$Readings", "tryLine", "(II)V"⟩, 6) := ⟨⟨by decide +kernel, by decide +kernel⟩, List.mem_of_getElem? (i := 100) (by decide +kernel), List.mem_of_getElem? (i := 791) (by decide +kernel), List.mem_of_getElem? (i := 792) (by decide +kernel)⟩
theorem lw_p21 : lw_okq (⟨"StrengthHouse$Readings", "belowLine", "(IIII)J"⟩, 6) := ⟨⟨by decide +kernel, by decide +kernel⟩, List.mem_of_getElem? (i := 100) (by decide +kernel), List.mem_of_getElem? (i := 796) (by decide +kernel), List.mem_of_getElem? (i := 797) (by decide +kernel)⟩
theorem lw_p22 : lw_okq (⟨"StrengthHouse", "orNone", "(I)I"⟩, 11) := ⟨⟨by decide +kernel, by decide +kernel⟩, List.mem_of_getElem? (i := 22) (by decide +kernel), List.mem_of_getElem? (i := 809) (by decide +kernel), List.mem_of_getElem? (i := 810) (by decide +kernel)⟩
theorem lw_p23 : lw_okq (⟨"StrengthHouse$Readings", "topAt", "()I"⟩, 6) := ⟨⟨by decide +kernel, by decide +kernel⟩, List.mem_of_getElem? (i := 100) (by decide +kernel), List.mem_of_getElem? (i := 821) (by decide +kernel), List.mem_of_getElem? (i := 822) (by decide +kernel)⟩
theorem lw_p24 : lw_okq (⟨"StrengthHouse$Readings", "stretchOr", "(I)I"⟩, 6) := ⟨⟨by decide +kernel, by decide +kernel⟩, List.mem_of_getElem? (i := 100) (by decide +kernel), List.mem_of_getElem? (i := 826) (by decide +kernel), List.mem_of_getElem? (i := 827) (by decide +kernel)⟩
theorem lw_p25 : lw_okq (⟨"StrengthHouse$Readings", "spentBetween", "(II)J"⟩, 6) := ⟨⟨by decide +kernel, by decide +kernel⟩, List.mem_of_getElem? (i := 100) (by decide +kernel), List.mem_of_getElem? (i := 840) (by decide +kernel), List.mem_of_getElem? (i := 841) (by decide +kernel)⟩
theorem lw_p26 : lw_okq (⟨"StrengthHouse", "orderCurves", "(II)V"⟩, 11) := ⟨⟨by decide +kernel, by decide +kernel⟩, List.mem_of_getElem? (i := 22) (by decide +kernel), List.mem_of_getElem? (i := 869) (by decide +kernel), List.mem_of_getElem? (i := 870) (by decide +kernel)⟩
theorem lw_p27 : lw_okq (⟨"StrengthHouse", "orderNumbers", "(II)V"⟩, 11) := ⟨⟨by decide +kernel, by decide +kernel⟩, List.mem_of_getElem? (i := 22) (by decide +kernel), List.mem_of_getElem? (i := 894) (by decide +kernel), List.mem_of_getElem? (i := 895) (by decide +kernel)⟩
theorem lw_p28 : lw_okq (⟨"StrengthHouse$Order", "isApart", "(III)Z"⟩, 3) := ⟨⟨by decide +kernel, by decide +kernel⟩, List.mem_of_getElem? (i := 345) (by decide +kernel), List.mem_of_getElem? (i := 902) (by decide +kernel), List.mem_of_getElem? (i := 903) (by decide +kernel)⟩
theorem lw_p29 : lw_okq (⟨"StrengthHouse$Meters", "ledOnce", "(IJ)J"⟩, 4) := ⟨⟨by decide +kernel, by decide +kernel⟩, List.mem_of_getElem? (i := 41) (by decide +kernel), List.mem_of_getElem? (i := 947) (by decide +kernel), List.mem_of_getElem? (i := 948) (by decide +kernel)⟩
theorem lw_p30 : lw_okq (⟨"StrengthHouse$Meters", "otherOf", "(I)I"⟩, 4) := ⟨⟨by decide +kernel, by decide +kernel⟩, List.mem_of_getElem? (i := 41) (by decide +kernel), List.mem_of_getElem? (i := 953) (by decide +kernel), List.mem_of_getElem? (i := 954) (by decide +kernel)⟩
theorem lw_p31 : lw_okq (⟨"StrengthHouse", "fewestPlates", "(LStrengthHouse$Sheet;II)I"⟩, 11) := ⟨⟨by decide +kernel, by decide +kernel⟩, List.mem_of_getElem? (i := 22) (by decide +kernel), List.mem_of_getElem? (i := 1020) (by decide +kernel), List.mem_of_getElem? (i := 1021) (by decide +kernel)⟩
def lw_privs_2 : List (MethodName × Nat) := [(⟨"StrengthHouse$Machine", "moreStretch", "(I)I"⟩, 15), (⟨"StrengthHouse$Machine", "creeps", "()Z"⟩, 15), (⟨"StrengthHouse$Machine", "take", "()V"⟩, 15), (⟨"StrengthHouse$Machine", "askLimits", "(I)V"⟩, 15), (⟨"StrengthHouse$Readings", "tryLine", "(II)V"⟩, 6), (⟨"StrengthHouse$Readings", "belowLine", "(IIII)J"⟩, 6), (⟨"StrengthHouse", "orNone", "(I)I"⟩, 11), (⟨"StrengthHouse$Readings", "topAt", "()I"⟩, 6), (⟨"StrengthHouse$Readings", "stretchOr", "(I)I"⟩, 6), (⟨"StrengthHouse$Readings", "spentBetween", "(II)J"⟩, 6), (⟨"StrengthHouse", "orderCurves", "(II)V"⟩, 11), (⟨"StrengthHouse", "orderNumbers", "(II)V"⟩, 11), (⟨"StrengthHouse$Order", "isApart", "(III)Z"⟩, 3), (⟨"StrengthHouse$Meters", "ledOnce", "(IJ)J"⟩, 4), (⟨"StrengthHouse$Meters", "otherOf", "(I)I"⟩, 4), (⟨"StrengthHouse", "fewestPlates", "(LStrengthHouse$Sheet;II)I"⟩, 11)]
theorem lw_r2 : ∀ q ∈ lw_privs_2, lw_okq q := List.forall_mem_cons.mpr ⟨lw_p16, List.forall_mem_cons.mpr ⟨lw_p17, List.forall_mem_cons.mpr ⟨lw_p18, List.forall_mem_cons.mpr ⟨lw_p19, List.forall_mem_cons.mpr ⟨lw_p20, List.forall_mem_cons.mpr ⟨lw_p21, List.forall_mem_cons.mpr ⟨lw_p22, List.forall_mem_cons.mpr ⟨lw_p23, List.forall_mem_cons.mpr ⟨lw_p24, List.forall_mem_cons.mpr ⟨lw_p25, List.forall_mem_cons.mpr ⟨lw_p26, List.forall_mem_cons.mpr ⟨lw_p27, List.forall_mem_cons.mpr ⟨lw_p28, List.forall_mem_cons.mpr ⟨lw_p29, List.forall_mem_cons.mpr ⟨lw_p30, List.forall_mem_cons.mpr ⟨lw_p31, fun _ h => absurd h List.not_mem_nil⟩⟩⟩⟩⟩⟩⟩⟩⟩⟩⟩⟩⟩⟩⟩⟩
theorem lw_p32 : lw_okq (⟨"StrengthHouse$Voices", "say", "(IIII)I"⟩, 8) := ⟨⟨by decide +kernel, by decide +kernel⟩, List.mem_of_getElem? (i := 229) (by decide +kernel), List.mem_of_getElem? (i := 1053) (by decide +kernel), List.mem_of_getElem? (i := 1054) (by decide +kernel)⟩
theorem lw_p33 : lw_okq (⟨"StrengthHouse$Voices", "workOut", "(III)I"⟩, 8) := ⟨⟨by decide +kernel, by decide +kernel⟩, List.mem_of_getElem? (i := 229) (by decide +kernel), List.mem_of_getElem? (i := 1063) (by decide +kernel), List.mem_of_getElem? (i := 1064) (by decide +kernel)⟩
theorem lw_p34 : lw_okq (⟨"StrengthHouse$Voices", "shareOut", "(I)I"⟩, 8) := ⟨⟨by decide +kernel, by decide +kernel⟩, List.mem_of_getElem? (i := 229) (by decide +kernel), List.mem_of_getElem? (i := 1067) (by decide +kernel), List.mem_of_getElem? (i := 1068) (by decide +kernel)⟩
theorem lw_p35 : lw_okq (⟨"StrengthHouse", "firstUnlike", "(ILStrengthHouse$Readings;)I"⟩, 11) := ⟨⟨by decide +kernel, by decide +kernel⟩, List.mem_of_getElem? (i := 22) (by decide +kernel), List.mem_of_getElem? (i := 1146) (by decide +kernel), List.mem_of_getElem? (i := 1147) (by decide +kernel)⟩
theorem lw_p36 : lw_okq (⟨"StrengthHouseModel", "finding", "(I)I"⟩, 38) := ⟨⟨by decide +kernel, by decide +kernel⟩, List.mem_of_getElem? (i := 1179) (by decide +kernel), List.mem_of_getElem? (i := 1320) (by decide +kernel), List.mem_of_getElem? (i := 1321) (by decide +kernel)⟩
theorem lw_p37 : lw_okq (⟨"StrengthHouseModel", "is", "(II)Z"⟩, 38) := ⟨⟨by decide +kernel, by decide +kernel⟩, List.mem_of_getElem? (i := 1179) (by decide +kernel), List.mem_of_getElem? (i := 1331) (by decide +kernel), List.mem_of_getElem? (i := 1332) (by decide +kernel)⟩
theorem lw_p38 : lw_okq (⟨"StrengthHouseModel", "many", "(I)I"⟩, 38) := ⟨⟨by decide +kernel, by decide +kernel⟩, List.mem_of_getElem? (i := 1179) (by decide +kernel), List.mem_of_getElem? (i := 1335) (by decide +kernel), List.mem_of_getElem? (i := 1336) (by decide +kernel)⟩
theorem lw_p39 : lw_okq (⟨"StrengthHouseModel", "of", "(II)I"⟩, 38) := ⟨⟨by decide +kernel, by decide +kernel⟩, List.mem_of_getElem? (i := 1179) (by decide +kernel), List.mem_of_getElem? (i := 1339) (by decide +kernel), List.mem_of_getElem? (i := 1340) (by decide +kernel)⟩
theorem lw_p40 : lw_okq (⟨"StrengthHouseModel", "isGood", "(II)Z"⟩, 38) := ⟨⟨by decide +kernel, by decide +kernel⟩, List.mem_of_getElem? (i := 1179) (by decide +kernel), List.mem_of_getElem? (i := 1343) (by decide +kernel), List.mem_of_getElem? (i := 1344) (by decide +kernel)⟩
theorem lw_p41 : lw_okq (⟨"StrengthHouseModel", "load", "(II)I"⟩, 38) := ⟨⟨by decide +kernel, by decide +kernel⟩, List.mem_of_getElem? (i := 1179) (by decide +kernel), List.mem_of_getElem? (i := 1347) (by decide +kernel), List.mem_of_getElem? (i := 1348) (by decide +kernel)⟩
theorem lw_p42 : lw_okq (⟨"StrengthHouseModel", "answered", "(II)I"⟩, 38) := ⟨⟨by decide +kernel, by decide +kernel⟩, List.mem_of_getElem? (i := 1179) (by decide +kernel), List.mem_of_getElem? (i := 1363) (by decide +kernel), List.mem_of_getElem? (i := 1364) (by decide +kernel)⟩
theorem lw_p43 : lw_okq (⟨"StrengthHouseModel", "end", "(I)I"⟩, 38) := ⟨⟨by decide +kernel, by decide +kernel⟩, List.mem_of_getElem? (i := 1179) (by decide +kernel), List.mem_of_getElem? (i := 1367) (by decide +kernel), List.mem_of_getElem? (i := 1368) (by decide +kernel)⟩
theorem lw_p44 : lw_okq (⟨"StrengthHouseModel", "read", "(IIII)V"⟩, 38) := ⟨⟨by decide +kernel, by decide +kernel⟩, List.mem_of_getElem? (i := 1179) (by decide +kernel), List.mem_of_getElem? (i := 1377) (by decide +kernel), List.mem_of_getElem? (i := 1378) (by decide +kernel)⟩
theorem lw_p45 : lw_okq (⟨"StrengthHouseModel", "stretch", "(II)I"⟩, 38) := ⟨⟨by decide +kernel, by decide +kernel⟩, List.mem_of_getElem? (i := 1179) (by decide +kernel), List.mem_of_getElem? (i := 1385) (by decide +kernel), List.mem_of_getElem? (i := 1386) (by decide +kernel)⟩
theorem lw_p46 : lw_okq (⟨"StrengthHouseModel", "become", "(II)I"⟩, 38) := ⟨⟨by decide +kernel, by decide +kernel⟩, List.mem_of_getElem? (i := 1179) (by decide +kernel), List.mem_of_getElem? (i := 1393) (by decide +kernel), List.mem_of_getElem? (i := 1394) (by decide +kernel)⟩
theorem lw_p47 : lw_okq (⟨"StrengthHouseModel", "isProgram", "(I)Z"⟩, 38) := ⟨⟨by decide +kernel, by decide +kernel⟩, List.mem_of_getElem? (i := 1179) (by decide +kernel), List.mem_of_getElem? (i := 1406) (by decide +kernel), List.mem_of_getElem? (i := 1407) (by decide +kernel)⟩
def lw_privs_3 : List (MethodName × Nat) := [(⟨"StrengthHouse$Voices", "say", "(IIII)I"⟩, 8), (⟨"StrengthHouse$Voices", "workOut", "(III)I"⟩, 8), (⟨"StrengthHouse$Voices", "shareOut", "(I)I"⟩, 8), (⟨"StrengthHouse", "firstUnlike", "(ILStrengthHouse$Readings;)I"⟩, 11), (⟨"StrengthHouseModel", "finding", "(I)I"⟩, 38), (⟨"StrengthHouseModel", "is", "(II)Z"⟩, 38), (⟨"StrengthHouseModel", "many", "(I)I"⟩, 38), (⟨"StrengthHouseModel", "of", "(II)I"⟩, 38), (⟨"StrengthHouseModel", "isGood", "(II)Z"⟩, 38), (⟨"StrengthHouseModel", "load", "(II)I"⟩, 38), (⟨"StrengthHouseModel", "answered", "(II)I"⟩, 38), (⟨"StrengthHouseModel", "end", "(I)I"⟩, 38), (⟨"StrengthHouseModel", "read", "(IIII)V"⟩, 38), (⟨"StrengthHouseModel", "stretch", "(II)I"⟩, 38), (⟨"StrengthHouseModel", "become", "(II)I"⟩, 38), (⟨"StrengthHouseModel", "isProgram", "(I)Z"⟩, 38)]
theorem lw_r3 : ∀ q ∈ lw_privs_3, lw_okq q := List.forall_mem_cons.mpr ⟨lw_p32, List.forall_mem_cons.mpr ⟨lw_p33, List.forall_mem_cons.mpr ⟨lw_p34, List.forall_mem_cons.mpr ⟨lw_p35, List.forall_mem_cons.mpr ⟨lw_p36, List.forall_mem_cons.mpr ⟨lw_p37, List.forall_mem_cons.mpr ⟨lw_p38, List.forall_mem_cons.mpr ⟨lw_p39, List.forall_mem_cons.mpr ⟨lw_p40, List.forall_mem_cons.mpr ⟨lw_p41, List.forall_mem_cons.mpr ⟨lw_p42, List.forall_mem_cons.mpr ⟨lw_p43, List.forall_mem_cons.mpr ⟨lw_p44, List.forall_mem_cons.mpr ⟨lw_p45, List.forall_mem_cons.mpr ⟨lw_p46, List.forall_mem_cons.mpr ⟨lw_p47, fun _ h => absurd h List.not_mem_nil⟩⟩⟩⟩⟩⟩⟩⟩⟩⟩⟩⟩⟩⟩⟩⟩
theorem lw_p48 : lw_okq (⟨"StrengthHouseModel", "goOn", "()V"⟩, 38) := ⟨⟨by decide +kernel, by decide +kernel⟩, List.mem_of_getElem? (i := 1179) (by decide +kernel), List.mem_of_getElem? (i := 1410) (by decide +kernel), List.mem_of_getElem? (i := 1411) (by decide +kernel)⟩
theorem lw_p49 : lw_okq (⟨"StrengthHouseModel", "isByte", "(III)Z"⟩, 38) := ⟨⟨by decide +kernel, by decide +kernel⟩, List.mem_of_getElem? (i := 1179) (by decide +kernel), List.mem_of_getElem? (i := 1414) (by decide +kernel), List.mem_of_getElem? (i := 1415) (by decide +kernel)⟩
theorem lw_p50 : lw_okq (⟨"StrengthHouseModel", "part", "()V"⟩, 38) := ⟨⟨by decide +kernel, by decide +kernel⟩, List.mem_of_getElem? (i := 1179) (by decide +kernel), List.mem_of_getElem? (i := 1418) (by decide +kernel), List.mem_of_getElem? (i := 1419) (by decide +kernel)⟩
theorem lw_p51 : lw_okq (⟨"StrengthHouseModel", "takes", "(Ljava/lang/String;)Z"⟩, 38) := ⟨⟨by decide +kernel, by decide +kernel⟩, List.mem_of_getElem? (i := 1179) (by decide +kernel), List.mem_of_getElem? (i := 1422) (by decide +kernel), List.mem_of_getElem? (i := 1423) (by decide +kernel)⟩
theorem lw_p52 : lw_okq (⟨"StrengthHouseModel", "number", "()I"⟩, 38) := ⟨⟨by decide +kernel, by decide +kernel⟩, List.mem_of_getElem? (i := 1179) (by decide +kernel), List.mem_of_getElem? (i := 1428) (by decide +kernel), List.mem_of_getElem? (i := 1429) (by decide +kernel)⟩
theorem lw_p53 : lw_okq (⟨"StrengthHouseModel", "hasProgram", "(I)Z"⟩, 38) := ⟨⟨by decide +kernel, by decide +kernel⟩, List.mem_of_getElem? (i := 1179) (by decide +kernel), List.mem_of_getElem? (i := 1439) (by decide +kernel), List.mem_of_getElem? (i := 1440) (by decide +kernel)⟩
theorem lw_p54 : lw_okq (⟨"StrengthHouseModel", "goThrough", "(II)I"⟩, 38) := ⟨⟨by decide +kernel, by decide +kernel⟩, List.mem_of_getElem? (i := 1179) (by decide +kernel), List.mem_of_getElem? (i := 1443) (by decide +kernel), List.mem_of_getElem? (i := 1444) (by decide +kernel)⟩
theorem lw_p55 : lw_okq (⟨"StrengthHouseModel", "does", "(II)V"⟩, 38) := ⟨⟨by decide +kernel, by decide +kernel⟩, List.mem_of_getElem? (i := 1179) (by decide +kernel), List.mem_of_getElem? (i := 1447) (by decide +kernel), List.mem_of_getElem? (i := 1448) (by decide +kernel)⟩
theorem lw_p56 : lw_okq (⟨"StrengthHouseModel", "goesOn", "()Z"⟩, 38) := ⟨⟨by decide +kernel, by decide +kernel⟩, List.mem_of_getElem? (i := 1179) (by decide +kernel), List.mem_of_getElem? (i := 1451) (by decide +kernel), List.mem_of_getElem? (i := 1452) (by decide +kernel)⟩
theorem lw_p57 : lw_okq (⟨"StrengthHouseModel", "loadNow", "()I"⟩, 38) := ⟨⟨by decide +kernel, by decide +kernel⟩, List.mem_of_getElem? (i := 1179) (by decide +kernel), List.mem_of_getElem? (i := 1455) (by decide +kernel), List.mem_of_getElem? (i := 1456) (by decide +kernel)⟩
theorem lw_p58 : lw_okq (⟨"StrengthHouseModel", "takeReading", "()V"⟩, 38) := ⟨⟨by decide +kernel, by decide +kernel⟩, List.mem_of_getElem? (i := 1179) (by decide +kernel), List.mem_of_getElem? (i := 1459) (by decide +kernel), List.mem_of_getElem? (i := 1460) (by decide +kernel)⟩
theorem lw_p59 : lw_okq (⟨"StrengthHouseModel", "tick", "()V"⟩, 38) := ⟨⟨by decide +kernel, by decide +kernel⟩, List.mem_of_getElem? (i := 1179) (by decide +kernel), List.mem_of_getElem? (i := 1463) (by decide +kernel), List.mem_of_getElem? (i := 1464) (by decide +kernel)⟩
theorem lw_p60 : lw_okq (⟨"StrengthHouseModel", "findLine", "(I)Z"⟩, 38) := ⟨⟨by decide +kernel, by decide +kernel⟩, List.mem_of_getElem? (i := 1179) (by decide +kernel), List.mem_of_getElem? (i := 1475) (by decide +kernel), List.mem_of_getElem? (i := 1476) (by decide +kernel)⟩
theorem lw_p61 : lw_okq (⟨"StrengthHouseModel", "isOn", "(IIII)Z"⟩, 38) := ⟨⟨by decide +kernel, by decide +kernel⟩, List.mem_of_getElem? (i := 1179) (by decide +kernel), List.mem_of_getElem? (i := 1479) (by decide +kernel), List.mem_of_getElem? (i := 1480) (by decide +kernel)⟩
theorem lw_p62 : lw_okq (⟨"StrengthHouseModel", "yieldOf", "(II)I"⟩, 38) := ⟨⟨by decide +kernel, by decide +kernel⟩, List.mem_of_getElem? (i := 1179) (by decide +kernel), List.mem_of_getElem? (i := 1487) (by decide +kernel), List.mem_of_getElem? (i := 1488) (by decide +kernel)⟩
theorem lw_p63 : lw_okq (⟨"StrengthHouseModel", "topOf", "(I)I"⟩, 38) := ⟨⟨by decide +kernel, by decide +kernel⟩, List.mem_of_getElem? (i := 1179) (by decide +kernel), List.mem_of_getElem? (i := 1495) (by decide +kernel), List.mem_of_getElem? (i := 1496) (by decide +kernel)⟩
def lw_privs_4 : List (MethodName × Nat) := [(⟨"StrengthHouseModel", "goOn", "()V"⟩, 38), (⟨"StrengthHouseModel", "isByte", "(III)Z"⟩, 38), (⟨"StrengthHouseModel", "part", "()V"⟩, 38), (⟨"StrengthHouseModel", "takes", "(Ljava/lang/String;)Z"⟩, 38), (⟨"StrengthHouseModel", "number", "()I"⟩, 38), (⟨"StrengthHouseModel", "hasProgram", "(I)Z"⟩, 38), (⟨"StrengthHouseModel", "goThrough", "(II)I"⟩, 38), (⟨"StrengthHouseModel", "does", "(II)V"⟩, 38), (⟨"StrengthHouseModel", "goesOn", "()Z"⟩, 38), (⟨"StrengthHouseModel", "loadNow", "()I"⟩, 38), (⟨"StrengthHouseModel", "takeReading", "()V"⟩, 38), (⟨"StrengthHouseModel", "tick", "()V"⟩, 38), (⟨"StrengthHouseModel", "findLine", "(I)Z"⟩, 38), (⟨"StrengthHouseModel", "isOn", "(IIII)Z"⟩, 38), (⟨"StrengthHouseModel", "yieldOf", "(II)I"⟩, 38), (⟨"StrengthHouseModel", "topOf", "(I)I"⟩, 38)]
theorem lw_r4 : ∀ q ∈ lw_privs_4, lw_okq q := List.forall_mem_cons.mpr ⟨lw_p48, List.forall_mem_cons.mpr ⟨lw_p49, List.forall_mem_cons.mpr ⟨lw_p50, List.forall_mem_cons.mpr ⟨lw_p51, List.forall_mem_cons.mpr ⟨lw_p52, List.forall_mem_cons.mpr ⟨lw_p53, List.forall_mem_cons.mpr ⟨lw_p54, List.forall_mem_cons.mpr ⟨lw_p55, List.forall_mem_cons.mpr ⟨lw_p56, List.forall_mem_cons.mpr ⟨lw_p57, List.forall_mem_cons.mpr ⟨lw_p58, List.forall_mem_cons.mpr ⟨lw_p59, List.forall_mem_cons.mpr ⟨lw_p60, List.forall_mem_cons.mpr ⟨lw_p61, List.forall_mem_cons.mpr ⟨lw_p62, List.forall_mem_cons.mpr ⟨lw_p63, fun _ h => absurd h List.not_mem_nil⟩⟩⟩⟩⟩⟩⟩⟩⟩⟩⟩⟩⟩⟩⟩⟩
theorem lw_p64 : lw_okq (⟨"StrengthHouseModel", "breakOf", "(II)I"⟩, 38) := ⟨⟨by decide +kernel, by decide +kernel⟩, List.mem_of_getElem? (i := 1179) (by decide +kernel), List.mem_of_getElem? (i := 1503) (by decide +kernel), List.mem_of_getElem? (i := 1504) (by decide +kernel)⟩
theorem lw_p65 : lw_okq (⟨"StrengthHouseModel", "spentOf", "(II)J"⟩, 38) := ⟨⟨by decide +kernel, by decide +kernel⟩, List.mem_of_getElem? (i := 1179) (by decide +kernel), List.mem_of_getElem? (i := 1512) (by decide +kernel), List.mem_of_getElem? (i := 1513) (by decide +kernel)⟩
theorem lw_p66 : lw_okq (⟨"StrengthHouseModel", "numberOf", "(II)I"⟩, 38) := ⟨⟨by decide +kernel, by decide +kernel⟩, List.mem_of_getElem? (i := 1179) (by decide +kernel), List.mem_of_getElem? (i := 1523) (by decide +kernel), List.mem_of_getElem? (i := 1524) (by decide +kernel)⟩
theorem lw_p67 : lw_okq (⟨"StrengthHouseModel", "curveOf", "(II)I"⟩, 38) := ⟨⟨by decide +kernel, by decide +kernel⟩, List.mem_of_getElem? (i := 1179) (by decide +kernel), List.mem_of_getElem? (i := 1536) (by decide +kernel), List.mem_of_getElem? (i := 1537) (by decide +kernel)⟩
theorem lw_p68 : lw_okq (⟨"StrengthHouseModel", "adds", "(II)V"⟩, 38) := ⟨⟨by decide +kernel, by decide +kernel⟩, List.mem_of_getElem? (i := 1179) (by decide +kernel), List.mem_of_getElem? (i := 1540) (by decide +kernel), List.mem_of_getElem? (i := 1541) (by decide +kernel)⟩
theorem lw_p69 : lw_okq (⟨"StrengthHouseModel", "findNumbers", "(II)V"⟩, 38) := ⟨⟨by decide +kernel, by decide +kernel⟩, List.mem_of_getElem? (i := 1179) (by decide +kernel), List.mem_of_getElem? (i := 1548) (by decide +kernel), List.mem_of_getElem? (i := 1549) (by decide +kernel)⟩
theorem lw_p70 : lw_okq (⟨"StrengthHouseModel", "meter", "(II)I"⟩, 38) := ⟨⟨by decide +kernel, by decide +kernel⟩, List.mem_of_getElem? (i := 1179) (by decide +kernel), List.mem_of_getElem? (i := 1578) (by decide +kernel), List.mem_of_getElem? (i := 1579) (by decide +kernel)⟩
theorem lw_p71 : lw_okq (⟨"StrengthHouseModel", "ledOf", "(II)I"⟩, 38) := ⟨⟨by decide +kernel, by decide +kernel⟩, List.mem_of_getElem? (i := 1179) (by decide +kernel), List.mem_of_getElem? (i := 1582) (by decide +kernel), List.mem_of_getElem? (i := 1583) (by decide +kernel)⟩
theorem lw_p72 : lw_okq (⟨"StrengthHouseModel", "entry", "(II)I"⟩, 38) := ⟨⟨by decide +kernel, by decide +kernel⟩, List.mem_of_getElem? (i := 1179) (by decide +kernel), List.mem_of_getElem? (i := 1594) (by decide +kernel), List.mem_of_getElem? (i := 1595) (by decide +kernel)⟩
theorem lw_p73 : lw_okq (⟨"StrengthHouseModel", "voiced", "(II)I"⟩, 38) := ⟨⟨by decide +kernel, by decide +kernel⟩, List.mem_of_getElem? (i := 1179) (by decide +kernel), List.mem_of_getElem? (i := 1629) (by decide +kernel), List.mem_of_getElem? (i := 1630) (by decide +kernel)⟩
theorem lw_p74 : lw_okq (⟨"StrengthHouseModel", "bodyFrom", "(III)I"⟩, 38) := ⟨⟨by decide +kernel, by decide +kernel⟩, List.mem_of_getElem? (i := 1179) (by decide +kernel), List.mem_of_getElem? (i := 1633) (by decide +kernel), List.mem_of_getElem? (i := 1634) (by decide +kernel)⟩
theorem lw_p75 : lw_okq (⟨"StrengthHouseModel", "body", "(III)I"⟩, 38) := ⟨⟨by decide +kernel, by decide +kernel⟩, List.mem_of_getElem? (i := 1179) (by decide +kernel), List.mem_of_getElem? (i := 1640) (by decide +kernel), List.mem_of_getElem? (i := 1641) (by decide +kernel)⟩
theorem lw_p76 : lw_okq (⟨"StrengthHouseModel", "began", "(I)V"⟩, 38) := ⟨⟨by decide +kernel, by decide +kernel⟩, List.mem_of_getElem? (i := 1179) (by decide +kernel), List.mem_of_getElem? (i := 1644) (by decide +kernel), List.mem_of_getElem? (i := 1645) (by decide +kernel)⟩
def lw_privs_5 : List (MethodName × Nat) := [(⟨"StrengthHouseModel", "breakOf", "(II)I"⟩, 38), (⟨"StrengthHouseModel", "spentOf", "(II)J"⟩, 38), (⟨"StrengthHouseModel", "numberOf", "(II)I"⟩, 38), (⟨"StrengthHouseModel", "curveOf", "(II)I"⟩, 38), (⟨"StrengthHouseModel", "adds", "(II)V"⟩, 38), (⟨"StrengthHouseModel", "findNumbers", "(II)V"⟩, 38), (⟨"StrengthHouseModel", "meter", "(II)I"⟩, 38), (⟨"StrengthHouseModel", "ledOf", "(II)I"⟩, 38), (⟨"StrengthHouseModel", "entry", "(II)I"⟩, 38), (⟨"StrengthHouseModel", "voiced", "(II)I"⟩, 38), (⟨"StrengthHouseModel", "bodyFrom", "(III)I"⟩, 38), (⟨"StrengthHouseModel", "body", "(III)I"⟩, 38), (⟨"StrengthHouseModel", "began", "(I)V"⟩, 38)]
theorem lw_r5 : ∀ q ∈ lw_privs_5, lw_okq q := List.forall_mem_cons.mpr ⟨lw_p64, List.forall_mem_cons.mpr ⟨lw_p65, List.forall_mem_cons.mpr ⟨lw_p66, List.forall_mem_cons.mpr ⟨lw_p67, List.forall_mem_cons.mpr ⟨lw_p68, List.forall_mem_cons.mpr ⟨lw_p69, List.forall_mem_cons.mpr ⟨lw_p70, List.forall_mem_cons.mpr ⟨lw_p71, List.forall_mem_cons.mpr ⟨lw_p72, List.forall_mem_cons.mpr ⟨lw_p73, List.forall_mem_cons.mpr ⟨lw_p74, List.forall_mem_cons.mpr ⟨lw_p75, List.forall_mem_cons.mpr ⟨lw_p76, fun _ h => absurd h List.not_mem_nil⟩⟩⟩⟩⟩⟩⟩⟩⟩⟩⟩⟩⟩
def lw_privs : List (MethodName × Nat) := lw_privs_1 ++ (lw_privs_2 ++ (lw_privs_3 ++ (lw_privs_4 ++ (lw_privs_5))))
def lw_tbl : List Cond := k2_sels lw_privs ++ tables_1
theorem lw_privs_ok : ∀ q ∈ lw_privs, lw_okq q := by
  show ∀ q ∈ lw_privs_1 ++ (lw_privs_2 ++ (lw_privs_3 ++ (lw_privs_4 ++ (lw_privs_5)))), lw_okq q
  exact List.forall_mem_append.mpr ⟨lw_r1, List.forall_mem_append.mpr ⟨lw_r2, List.forall_mem_append.mpr ⟨lw_r3, List.forall_mem_append.mpr ⟨lw_r4, lw_r5⟩⟩⟩⟩
end
section
/-! names of the classes, their fields and methods (printed by the claim's own generator, of it the rows that are used here) -/
def RX0 : String := "StrengthHouse$Book"
def TX0 : u_T := fun k => match k with
  | 0 => ("StrengthHouse$Book", "lots", "[I", true)
  | 1 => ("StrengthHouse$Book", "laws", "[I", true)
  | 2 => ("StrengthHouse$Book", "meters", "[I", true)
  | 3 => ("StrengthHouse$Book", "greatest", "[I", true)
  | 4 => ("StrengthHouse$Book", "pieceBits", "[I", true)
  | 5 => ("StrengthHouse$Book", "takenBackBy", "[I", true)
  | _ => ("StrengthHouse$Book", "size", "I", false)
def tyX0 : Nat → FieldType := fun k => match k with
  | 0 => .array .int
  | 1 => .array .int
  | 2 => .array .int
  | 3 => .array .int
  | 4 => .array .int
  | 5 => .array .int
  | _ => .int
theorem nmX0 : ∀ a, a < 7 → ∀ b, b < 7 → a ≠ b → (TX0 a).2.1 ≠ (TX0 b).2.1 := by decide +kernel
theorem tyX0_ok : ∀ k, k < 7 → parseFieldDescriptor (TX0 k).2.2.1 = some (tyX0 k) := by decide +kernel
abbrev cX0_init : ByteArray := prog_2_method_1_code
def yX0_init : MethodName := ⟨RX0, "<init>", "()V"⟩
abbrev cX0_has : ByteArray := prog_2_method_2_code
def yX0_has : MethodName := ⟨RX0, "has", "(I)Z"⟩
abbrev cX0_add : ByteArray := prog_2_method_3_code
def yX0_add : MethodName := ⟨RX0, "add", "(IIILStrengthHouse$Order;)I"⟩
abbrev cX0_canTakeBack : ByteArray := prog_2_method_4_code
def yX0_canTakeBack : MethodName := ⟨RX0, "canTakeBack", "(II)Z"⟩
abbrev cX0_takeBack : ByteArray := prog_2_method_5_code
def yX0_takeBack : MethodName := ⟨RX0, "takeBack", "(II)V"⟩
abbrev cX0_takenBack : ByteArray := prog_2_method_6_code
def yX0_takenBack : MethodName := ⟨RX0, "takenBack", "()I"⟩
abbrev cX0_latest : ByteArray := prog_2_method_7_code
def yX0_latest : MethodName := ⟨RX0, "latest", "(II)I"⟩
abbrev cX0_hanging : ByteArray := prog_2_method_8_code
def yX0_hanging : MethodName := ⟨RX0, "hanging", "(ILStrengthHouse$Meters;)I"⟩
abbrev cX0_copyFrom : ByteArray := prog_2_method_9_code
def yX0_copyFrom : MethodName := ⟨RX0, "copyFrom", "(LStrengthHouse$Book;)V"⟩
def RX1 : String := "StrengthHouse$Machine"
def TX1 : u_T := fun k => match k with
  | 0 => ("StrengthHouse$Machine", "loads", "[I", true)
  | 1 => ("StrengthHouse$Machine", "taken", "LStrengthHouse$Readings;", true)
  | 2 => ("StrengthHouse$Machine", "piece", "LStrengthHouse$Piece;", false)
  | 3 => ("StrengthHouse$Machine", "loadLimit", "I", false)
  | 4 => ("StrengthHouse$Machine", "longLimit", "I", false)
  | 5 => ("StrengthHouse$Machine", "meterTop", "I", false)
  | 6 => ("StrengthHouse$Machine", "noneEach", "I", false)
  | 7 => ("StrengthHouse$Machine", "delay", "I", false)
  | 8 => ("StrengthHouse$Machine", "stretch", "I", false)
  | 9 => ("StrengthHouse$Machine", "holds", "I", false)
  | 10 => ("StrengthHouse$Machine", "ticks", "I", false)
  | 11 => ("StrengthHouse$Machine", "why", "I", false)
  | 12 => ("StrengthHouse$Machine", "endedAt", "I", false)
  | 13 => ("StrengthHouse$Machine", "broken", "Z", false)
  | _ => ("StrengthHouse$Machine", "inLast", "Z", false)
def tyX1 : Nat → FieldType := fun k => match k with
  | 0 => .array .int
  | 1 => .object "StrengthHouse$Readings"
  | 2 => .object "StrengthHouse$Piece"
  | 3 => .int
  | 4 => .int
  | 5 => .int
  | 6 => .int
  | 7 => .int
  | 8 => .int
  | 9 => .int
  | 10 => .int
  | 11 => .int
  | 12 => .int
  | 13 => .boolean
  | _ => .boolean
theorem nmX1 : ∀ a, a < 15 → ∀ b, b < 15 → a ≠ b → (TX1 a).2.1 ≠ (TX1 b).2.1 := by decide +kernel
theorem tyX1_ok : ∀ k, k < 15 → parseFieldDescriptor (TX1 k).2.2.1 = some (tyX1 k) := by decide +kernel
abbrev cX1_init : ByteArray := prog_3_method_1_code
def yX1_init : MethodName := ⟨RX1, "<init>", "()V"⟩
abbrev cX1_perform : ByteArray := prog_3_method_2_code
def yX1_perform : MethodName := ⟨RX1, "perform", "(LStrengthHouse$Program;LStrengthHouse$Piece;LStrengthHouse$State;)V"⟩
abbrev cX1_begin : ByteArray := prog_3_method_3_code
def yX1_begin : MethodName := ⟨RX1, "begin", "(LStrengthHouse$Piece;LStrengthHouse$State;)V"⟩
abbrev cX1_doPart : ByteArray := prog_3_method_4_code
def yX1_doPart : MethodName := ⟨RX1, "doPart", "(II)V"⟩
abbrev cX1_timesAtMost : ByteArray := prog_3_method_5_code
def yX1_timesAtMost : MethodName := ⟨RX1, "timesAtMost", "(II)I"⟩
abbrev cX1_isWanted : ByteArray := prog_3_method_6_code
def yX1_isWanted : MethodName := ⟨RX1, "isWanted", "(II)Z"⟩
abbrev cX1_doOnce : ByteArray := prog_3_method_7_code
def yX1_doOnce : MethodName := ⟨RX1, "doOnce", "(I)V"⟩
abbrev cX1_moreStretch : ByteArray := prog_3_method_8_code
def yX1_moreStretch : MethodName := ⟨RX1, "moreStretch", "(I)I"⟩
abbrev cX1_creeps : ByteArray := prog_3_method_9_code
def yX1_creeps : MethodName := ⟨RX1, "creeps", "()Z"⟩
abbrev cX1_load : ByteArray := prog_3_method_10_code
def yX1_load : MethodName := ⟨RX1, "load", "()I"⟩
abbrev cX1_take : ByteArray := prog_3_method_11_code
def yX1_take : MethodName := ⟨RX1, "take", "()V"⟩
abbrev cX1_askLimits : ByteArray := prog_3_method_12_code
def yX1_askLimits : MethodName := ⟨RX1, "askLimits", "(I)V"⟩
def RX2 : String := "StrengthHouse$Meters"
def TX2 : u_T := fun k => match k with
  | 0 => ("StrengthHouse$Meters", "others", "[I", true)
  | 1 => ("StrengthHouse$Meters", "ups", "[I", true)
  | 2 => ("StrengthHouse$Meters", "downs", "[I", true)
  | _ => ("StrengthHouse$Meters", "doubts", "[I", true)
def tyX2 : Nat → FieldType := fun k => match k with
  | 0 => .array .int
  | 1 => .array .int
  | 2 => .array .int
  | _ => .array .int
theorem nmX2 : ∀ a, a < 4 → ∀ b, b < 4 → a ≠ b → (TX2 a).2.1 ≠ (TX2 b).2.1 := by decide +kernel
theorem tyX2_ok : ∀ k, k < 4 → parseFieldDescriptor (TX2 k).2.2.1 = some (tyX2 k) := by decide +kernel
abbrev cX2_init : ByteArray := prog_4_method_1_code
def yX2_init : MethodName := ⟨RX2, "<init>", "()V"⟩
abbrev cX2_set : ByteArray := prog_4_method_2_code
def yX2_set : MethodName := ⟨RX2, "set", "(IIIII)V"⟩
abbrev cX2_otherOf : ByteArray := prog_4_method_3_code
def yX2_otherOf : MethodName := ⟨RX2, "otherOf", "(I)I"⟩
abbrev cX2_ledToHouse : ByteArray := prog_4_method_4_code
def yX2_ledToHouse : MethodName := ⟨RX2, "ledToHouse", "(II)I"⟩
abbrev cX2_ledOnce : ByteArray := prog_4_method_5_code
def yX2_ledOnce : MethodName := ⟨RX2, "ledOnce", "(IJ)J"⟩
abbrev cX2_doubtOf : ByteArray := prog_4_method_6_code
def yX2_doubtOf : MethodName := ⟨RX2, "doubtOf", "(I)I"⟩
abbrev cX2_goesOver : ByteArray := prog_4_method_7_code
def yX2_goesOver : MethodName := ⟨RX2, "goesOver", "(II)Z"⟩
abbrev cX2_copyFrom : ByteArray := prog_4_method_8_code
def yX2_copyFrom : MethodName := ⟨RX2, "copyFrom", "(LStrengthHouse$Meters;)V"⟩
def RX3 : String := "StrengthHouse$Order"
def TX3 : u_T := fun k => match k with
  | 0 => ("StrengthHouse$Order", "values", "[I", true)
  | 1 => ("StrengthHouse$Order", "pieces", "[I", true)
  | _ => ("StrengthHouse$Order", "size", "I", false)
def tyX3 : Nat → FieldType := fun k => match k with
  | 0 => .array .int
  | 1 => .array .int
  | _ => .int
theorem nmX3 : ∀ a, a < 3 → ∀ b, b < 3 → a ≠ b → (TX3 a).2.1 ≠ (TX3 b).2.1 := by decide +kernel
theorem tyX3_ok : ∀ k, k < 3 → parseFieldDescriptor (TX3 k).2.2.1 = some (tyX3 k) := by decide +kernel
abbrev cX3_init : ByteArray := prog_5_method_1_code
def yX3_init : MethodName := ⟨RX3, "<init>", "()V"⟩
abbrev cX3_clear : ByteArray := prog_5_method_2_code
def yX3_clear : MethodName := ⟨RX3, "clear", "()V"⟩
abbrev cX3_insert : ByteArray := prog_5_method_3_code
def yX3_insert : MethodName := ⟨RX3, "insert", "(II)V"⟩
abbrev cX3_valueAt : ByteArray := prog_5_method_4_code
def yX3_valueAt : MethodName := ⟨RX3, "valueAt", "(I)I"⟩
abbrev cX3_pieceBits : ByteArray := prog_5_method_5_code
def yX3_pieceBits : MethodName := ⟨RX3, "pieceBits", "()I"⟩
abbrev cX3_oddPiece : ByteArray := prog_5_method_6_code
def yX3_oddPiece : MethodName := ⟨RX3, "oddPiece", "(I)I"⟩
abbrev cX3_isApart : ByteArray := prog_5_method_7_code
def yX3_isApart : MethodName := ⟨RX3, "isApart", "(III)Z"⟩
abbrev cX3_surePlace : ByteArray := prog_5_method_8_code
def yX3_surePlace : MethodName := ⟨RX3, "surePlace", "(III)I"⟩
abbrev cX3_power : ByteArray := prog_5_method_9_code
def yX3_power : MethodName := ⟨RX3, "power", "(II)J"⟩
def RX4 : String := "StrengthHouse$Piece"
def TX4 : u_T := fun k => match k with
  | 0 => ("StrengthHouse$Piece", "kind", "I", false)
  | 1 => ("StrengthHouse$Piece", "lot", "I", false)
  | 2 => ("StrengthHouse$Piece", "size", "I", false)
  | 3 => ("StrengthHouse$Piece", "answers", "[I", true)
  | 4 => ("StrengthHouse$Piece", "answerCount", "I", false)
  | _ => ("StrengthHouse$Piece", "readings", "LStrengthHouse$Readings;", true)
def tyX4 : Nat → FieldType := fun k => match k with
  | 0 => .int
  | 1 => .int
  | 2 => .int
  | 3 => .array .int
  | 4 => .int
  | _ => .object "StrengthHouse$Readings"
theorem nmX4 : ∀ a, a < 6 → ∀ b, b < 6 → a ≠ b → (TX4 a).2.1 ≠ (TX4 b).2.1 := by decide +kernel
theorem tyX4_ok : ∀ k, k < 6 → parseFieldDescriptor (TX4 k).2.2.1 = some (tyX4 k) := by decide +kernel
abbrev cX4_init : ByteArray := prog_6_method_1_code
def yX4_init : MethodName := ⟨RX4, "<init>", "()V"⟩
abbrev cX4_become : ByteArray := prog_6_method_2_code
def yX4_become : MethodName := ⟨RX4, "become", "(III)V"⟩
abbrev cX4_addAnswer : ByteArray := prog_6_method_3_code
def yX4_addAnswer : MethodName := ⟨RX4, "addAnswer", "(I)V"⟩
abbrev cX4_above : ByteArray := prog_6_method_4_code
def yX4_above : MethodName := ⟨RX4, "above", "(I)I"⟩
abbrev cX4_isOf : ByteArray := prog_6_method_5_code
def yX4_isOf : MethodName := ⟨RX4, "isOf", "(I)Z"⟩
abbrev cX4_lastStretch : ByteArray := prog_6_method_6_code
def yX4_lastStretch : MethodName := ⟨RX4, "lastStretch", "()I"⟩
abbrev cX4_loadAt : ByteArray := prog_6_method_7_code
def yX4_loadAt : MethodName := ⟨RX4, "loadAt", "(I)I"⟩
abbrev cX4_answerAt : ByteArray := prog_6_method_8_code
def yX4_answerAt : MethodName := ⟨RX4, "answerAt", "(I)I"⟩
abbrev cX4_copyFrom : ByteArray := prog_6_method_9_code
def yX4_copyFrom : MethodName := ⟨RX4, "copyFrom", "(LStrengthHouse$Piece;)V"⟩
def RX5 : String := "StrengthHouse$Program"
def TX5 : u_T := fun k => match k with
  | 0 => ("StrengthHouse$Program", "there", "Z", false)
  | 1 => ("StrengthHouse$Program", "acts", "[I", true)
  | 2 => ("StrengthHouse$Program", "amounts", "[I", true)
  | 3 => ("StrengthHouse$Program", "firsts", "I", false)
  | _ => ("StrengthHouse$Program", "count", "I", false)
def tyX5 : Nat → FieldType := fun k => match k with
  | 0 => .boolean
  | 1 => .array .int
  | 2 => .array .int
  | 3 => .int
  | _ => .int
theorem nmX5 : ∀ a, a < 5 → ∀ b, b < 5 → a ≠ b → (TX5 a).2.1 ≠ (TX5 b).2.1 := by decide +kernel
theorem tyX5_ok : ∀ k, k < 5 → parseFieldDescriptor (TX5 k).2.2.1 = some (tyX5 k) := by decide +kernel
abbrev cX5_init : ByteArray := prog_7_method_1_code
def yX5_init : MethodName := ⟨RX5, "<init>", "()V"⟩
abbrev cX5_clear : ByteArray := prog_7_method_2_code
def yX5_clear : MethodName := ⟨RX5, "clear", "()V"⟩
abbrev cX5_add : ByteArray := prog_7_method_3_code
def yX5_add : MethodName := ⟨RX5, "add", "(IIZ)V"⟩
abbrev cX5_actAt : ByteArray := prog_7_method_4_code
def yX5_actAt : MethodName := ⟨RX5, "actAt", "(I)I"⟩
abbrev cX5_amountAt : ByteArray := prog_7_method_5_code
def yX5_amountAt : MethodName := ⟨RX5, "amountAt", "(I)I"⟩
abbrev cX5_copyFrom : ByteArray := prog_7_method_6_code
def yX5_copyFrom : MethodName := ⟨RX5, "copyFrom", "(LStrengthHouse$Program;)V"⟩
def RX6 : String := "StrengthHouse$Readings"
def TX6 : u_T := fun k => match k with
  | 0 => ("StrengthHouse$Readings", "stretches", "[I", true)
  | 1 => ("StrengthHouse$Readings", "loads", "[I", true)
  | 2 => ("StrengthHouse$Readings", "size", "I", false)
  | 3 => ("StrengthHouse$Readings", "lineFirst", "I", false)
  | 4 => ("StrengthHouse$Readings", "lineSecond", "I", false)
  | _ => ("StrengthHouse$Readings", "lineCount", "I", false)
def tyX6 : Nat → FieldType := fun k => match k with
  | 0 => .array .int
  | 1 => .array .int
  | 2 => .int
  | 3 => .int
  | 4 => .int
  | _ => .int
theorem nmX6 : ∀ a, a < 6 → ∀ b, b < 6 → a ≠ b → (TX6 a).2.1 ≠ (TX6 b).2.1 := by decide +kernel
theorem tyX6_ok : ∀ k, k < 6 → parseFieldDescriptor (TX6 k).2.2.1 = some (tyX6 k) := by decide +kernel
abbrev cX6_init : ByteArray := prog_8_method_1_code
def yX6_init : MethodName := ⟨RX6, "<init>", "()V"⟩
abbrev cX6_clear : ByteArray := prog_8_method_2_code
def yX6_clear : MethodName := ⟨RX6, "clear", "()V"⟩
abbrev cX6_add : ByteArray := prog_8_method_3_code
def yX6_add : MethodName := ⟨RX6, "add", "(II)V"⟩
abbrev cX6_stretchAt : ByteArray := prog_8_method_4_code
def yX6_stretchAt : MethodName := ⟨RX6, "stretchAt", "(I)I"⟩
abbrev cX6_loadAt : ByteArray := prog_8_method_5_code
def yX6_loadAt : MethodName := ⟨RX6, "loadAt", "(I)I"⟩
abbrev cX6_flatAt : ByteArray := prog_8_method_6_code
def yX6_flatAt : MethodName := ⟨RX6, "flatAt", "(I)I"⟩
abbrev cX6_isGood : ByteArray := prog_8_method_7_code
def yX6_isGood : MethodName := ⟨RX6, "isGood", "(I)Z"⟩
abbrev cX6_goodOnes : ByteArray := prog_8_method_8_code
def yX6_goodOnes : MethodName := ⟨RX6, "goodOnes", "()I"⟩
abbrev cX6_findLine : ByteArray := prog_8_method_9_code
def yX6_findLine : MethodName := ⟨RX6, "findLine", "()Z"⟩
abbrev cX6_tryLine : ByteArray := prog_8_method_10_code
def yX6_tryLine : MethodName := ⟨RX6, "tryLine", "(II)V"⟩
abbrev cX6_belowLine : ByteArray := prog_8_method_11_code
def yX6_belowLine : MethodName := ⟨RX6, "belowLine", "(IIII)J"⟩
abbrev cX6_yieldAt : ByteArray := prog_8_method_12_code
def yX6_yieldAt : MethodName := ⟨RX6, "yieldAt", "(I)I"⟩
abbrev cX6_topAt : ByteArray := prog_8_method_13_code
def yX6_topAt : MethodName := ⟨RX6, "topAt", "()I"⟩
abbrev cX6_breakAt : ByteArray := prog_8_method_14_code
def yX6_breakAt : MethodName := ⟨RX6, "breakAt", "(I)I"⟩
abbrev cX6_spentUpTo : ByteArray := prog_8_method_15_code
def yX6_spentUpTo : MethodName := ⟨RX6, "spentUpTo", "(I)J"⟩
abbrev cX6_spentBetween : ByteArray := prog_8_method_16_code
def yX6_spentBetween : MethodName := ⟨RX6, "spentBetween", "(II)J"⟩
abbrev cX6_numberBy : ByteArray := prog_8_method_17_code
def yX6_numberBy : MethodName := ⟨RX6, "numberBy", "(I)I"⟩
abbrev cX6_stretchOr : ByteArray := prog_8_method_18_code
def yX6_stretchOr : MethodName := ⟨RX6, "stretchOr", "(I)I"⟩
abbrev cX6_curveAt : ByteArray := prog_8_method_19_code
def yX6_curveAt : MethodName := ⟨RX6, "curveAt", "(I)I"⟩
abbrev cX6_copyFrom : ByteArray := prog_8_method_20_code
def yX6_copyFrom : MethodName := ⟨RX6, "copyFrom", "(LStrengthHouse$Readings;)V"⟩
def RX7 : String := "StrengthHouse$Sheet"
def TX7 : u_T := fun k => match k with
  | 0 => ("StrengthHouse$Sheet", "bits", "I", false)
  | 1 => ("StrengthHouse$Sheet", "length", "I", false)
  | _ => ("StrengthHouse$Sheet", "numbers", "[I", true)
def tyX7 : Nat → FieldType := fun k => match k with
  | 0 => .int
  | 1 => .int
  | _ => .array .int
theorem nmX7 : ∀ a, a < 3 → ∀ b, b < 3 → a ≠ b → (TX7 a).2.1 ≠ (TX7 b).2.1 := by decide +kernel
theorem tyX7_ok : ∀ k, k < 3 → parseFieldDescriptor (TX7 k).2.2.1 = some (tyX7 k) := by decide +kernel
abbrev cX7_init : ByteArray := prog_9_method_1_code
def yX7_init : MethodName := ⟨RX7, "<init>", "()V"⟩
abbrev cX7_become : ByteArray := prog_9_method_2_code
def yX7_become : MethodName := ⟨RX7, "become", "(II)V"⟩
abbrev cX7_isMissing : ByteArray := prog_9_method_3_code
def yX7_isMissing : MethodName := ⟨RX7, "isMissing", "()Z"⟩
abbrev cX7_spans : ByteArray := prog_9_method_4_code
def yX7_spans : MethodName := ⟨RX7, "spans", "(II)Z"⟩
abbrev cX7_numberAt : ByteArray := prog_9_method_5_code
def yX7_numberAt : MethodName := ⟨RX7, "numberAt", "(I)I"⟩
abbrev cX7_set : ByteArray := prog_9_method_6_code
def yX7_set : MethodName := ⟨RX7, "set", "(II)V"⟩
abbrev cX7_begins : ByteArray := prog_9_method_7_code
def yX7_begins : MethodName := ⟨RX7, "begins", "(III)Z"⟩
abbrev cX7_beginsWithReadings : ByteArray := prog_9_method_8_code
def yX7_beginsWithReadings : MethodName := ⟨RX7, "beginsWithReadings", "(I)Z"⟩
def RX8 : String := "StrengthHouse$State"
def TX8 : u_T := fun k => match k with
  | 0 => ("StrengthHouse$State", "pieces", "[LStrengthHouse$Piece;", true)
  | 1 => ("StrengthHouse$State", "pieceCount", "I", false)
  | 2 => ("StrengthHouse$State", "programs", "[LStrengthHouse$Program;", true)
  | 3 => ("StrengthHouse$State", "limits", "[I", true)
  | 4 => ("StrengthHouse$State", "tape", "[B", true)
  | 5 => ("StrengthHouse$State", "tapeLength", "I", false)
  | 6 => ("StrengthHouse$State", "latestRun", "[I", true)
  | 7 => ("StrengthHouse$State", "hasRun", "Z", false)
  | 8 => ("StrengthHouse$State", "meters", "LStrengthHouse$Meters;", true)
  | 9 => ("StrengthHouse$State", "book", "LStrengthHouse$Book;", true)
  | 10 => ("StrengthHouse$State", "waiting", "[I", true)
  | _ => ("StrengthHouse$State", "waitingCount", "I", false)
def tyX8 : Nat → FieldType := fun k => match k with
  | 0 => .array (.object "StrengthHouse$Piece")
  | 1 => .int
  | 2 => .array (.object "StrengthHouse$Program")
  | 3 => .array .int
  | 4 => .array .byte
  | 5 => .int
  | 6 => .array .int
  | 7 => .boolean
  | 8 => .object "StrengthHouse$Meters"
  | 9 => .object "StrengthHouse$Book"
  | 10 => .array .int
  | _ => .int
theorem nmX8 : ∀ a, a < 12 → ∀ b, b < 12 → a ≠ b → (TX8 a).2.1 ≠ (TX8 b).2.1 := by decide +kernel
theorem tyX8_ok : ∀ k, k < 12 → parseFieldDescriptor (TX8 k).2.2.1 = some (tyX8 k) := by decide +kernel
abbrev cX8_init : ByteArray := prog_10_method_1_code
def yX8_init : MethodName := ⟨RX8, "<init>", "()V"⟩
abbrev cX8_pieces : ByteArray := prog_10_method_2_code
def yX8_pieces : MethodName := ⟨RX8, "pieces", "()I"⟩
abbrev cX8_pieceAt : ByteArray := prog_10_method_3_code
def yX8_pieceAt : MethodName := ⟨RX8, "pieceAt", "(I)LStrengthHouse$Piece;"⟩
abbrev cX8_addPiece : ByteArray := prog_10_method_4_code
def yX8_addPiece : MethodName := ⟨RX8, "addPiece", "()LStrengthHouse$Piece;"⟩
abbrev cX8_programAt : ByteArray := prog_10_method_5_code
def yX8_programAt : MethodName := ⟨RX8, "programAt", "(I)LStrengthHouse$Program;"⟩
abbrev cX8_programsThere : ByteArray := prog_10_method_6_code
def yX8_programsThere : MethodName := ⟨RX8, "programsThere", "()I"⟩
abbrev cX8_readingsOfAll : ByteArray := prog_10_method_7_code
def yX8_readingsOfAll : MethodName := ⟨RX8, "readingsOfAll", "()I"⟩
abbrev cX8_isLimit : ByteArray := prog_10_method_8_code
def yX8_isLimit : MethodName := ⟨RX8, "isLimit", "(II)Z"⟩
abbrev cX8_limitAt : ByteArray := prog_10_method_9_code
def yX8_limitAt : MethodName := ⟨RX8, "limitAt", "(I)I"⟩
abbrev cX8_setLimit : ByteArray := prog_10_method_10_code
def yX8_setLimit : MethodName := ⟨RX8, "setLimit", "(II)V"⟩
abbrev cX8_addByte : ByteArray := prog_10_method_11_code
def yX8_addByte : MethodName := ⟨RX8, "addByte", "(B)V"⟩
abbrev cX8_keepRun : ByteArray := prog_10_method_12_code
def yX8_keepRun : MethodName := ⟨RX8, "keepRun", "(LStrengthHouse$Machine;)V"⟩
abbrev cX8_ranAt : ByteArray := prog_10_method_13_code
def yX8_ranAt : MethodName := ⟨RX8, "ranAt", "(I)I"⟩
abbrev cX8_addWaiting : ByteArray := prog_10_method_14_code
def yX8_addWaiting : MethodName := ⟨RX8, "addWaiting", "(I)Z"⟩
abbrev cX8_waitingAt : ByteArray := prog_10_method_15_code
def yX8_waitingAt : MethodName := ⟨RX8, "waitingAt", "(I)I"⟩
abbrev cX8_copyFrom : ByteArray := prog_10_method_16_code
def yX8_copyFrom : MethodName := ⟨RX8, "copyFrom", "(LStrengthHouse$State;)V"⟩
def RX9 : String := "StrengthHouse$TextReader"
def TX9 : u_T := fun k => match k with
  | 0 => ("StrengthHouse$TextReader", "text", "[B", false)
  | 1 => ("StrengthHouse$TextReader", "length", "I", false)
  | 2 => ("StrengthHouse$TextReader", "from", "I", false)
  | _ => ("StrengthHouse$TextReader", "to", "I", false)
def tyX9 : Nat → FieldType := fun k => match k with
  | 0 => .array .byte
  | 1 => .int
  | 2 => .int
  | _ => .int
theorem nmX9 : ∀ a, a < 4 → ∀ b, b < 4 → a ≠ b → (TX9 a).2.1 ≠ (TX9 b).2.1 := by decide +kernel
theorem tyX9_ok : ∀ k, k < 4 → parseFieldDescriptor (TX9 k).2.2.1 = some (tyX9 k) := by decide +kernel
abbrev cX9_init : ByteArray := prog_11_method_1_code
def yX9_init : MethodName := ⟨RX9, "<init>", "()V"⟩
abbrev cX9_faultOf : ByteArray := prog_11_method_2_code
def yX9_faultOf : MethodName := ⟨RX9, "faultOf", "([BILStrengthHouse$Program;)I"⟩
abbrev cX9_readPart : ByteArray := prog_11_method_3_code
def yX9_readPart : MethodName := ⟨RX9, "readPart", "(LStrengthHouse$Program;Z)Z"⟩
abbrev cX9_actHere : ByteArray := prog_11_method_4_code
def yX9_actHere : MethodName := ⟨RX9, "actHere", "()I"⟩
abbrev cX9_wordOf : ByteArray := prog_11_method_5_code
def yX9_wordOf : MethodName := ⟨RX9, "wordOf", "(I)Ljava/lang/String;"⟩
abbrev cX9_numberHere : ByteArray := prog_11_method_6_code
def yX9_numberHere : MethodName := ⟨RX9, "numberHere", "()I"⟩
abbrev cX9_isMark : ByteArray := prog_11_method_7_code
def yX9_isMark : MethodName := ⟨RX9, "isMark", "(Ljava/lang/String;)Z"⟩
abbrev cX9_next : ByteArray := prog_11_method_8_code
def yX9_next : MethodName := ⟨RX9, "next", "()V"⟩
abbrev cX9_byteAt : ByteArray := prog_11_method_9_code
def yX9_byteAt : MethodName := ⟨RX9, "byteAt", "(I)I"⟩
abbrev cX9_isLetter : ByteArray := prog_11_method_10_code
def yX9_isLetter : MethodName := ⟨RX9, "isLetter", "(I)Z"⟩
abbrev cX9_isDigit : ByteArray := prog_11_method_11_code
def yX9_isDigit : MethodName := ⟨RX9, "isDigit", "(I)Z"⟩
def RX10 : String := "StrengthHouse$Voices"
def TX10 : u_T := fun k => match k with
  | 0 => ("StrengthHouse$Voices", "begun", "[I", true)
  | 1 => ("StrengthHouse$Voices", "begunCount", "I", false)
  | 2 => ("StrengthHouse$Voices", "trace", "[I", true)
  | 3 => ("StrengthHouse$Voices", "count", "I", false)
  | 4 => ("StrengthHouse$Voices", "kind", "I", false)
  | 5 => ("StrengthHouse$Voices", "size", "I", false)
  | 6 => ("StrengthHouse$Voices", "number", "I", false)
  | _ => ("StrengthHouse$Voices", "parted", "Z", false)
def tyX10 : Nat → FieldType := fun k => match k with
  | 0 => .array .int
  | 1 => .int
  | 2 => .array .int
  | 3 => .int
  | 4 => .int
  | 5 => .int
  | 6 => .int
  | _ => .boolean
theorem nmX10 : ∀ a, a < 8 → ∀ b, b < 8 → a ≠ b → (TX10 a).2.1 ≠ (TX10 b).2.1 := by decide +kernel
theorem tyX10_ok : ∀ k, k < 8 → parseFieldDescriptor (TX10 k).2.2.1 = some (tyX10 k) := by decide +kernel
abbrev cX10_init : ByteArray := prog_12_method_1_code
def yX10_init : MethodName := ⟨RX10, "<init>", "()V"⟩
abbrev cX10_ask : ByteArray := prog_12_method_2_code
def yX10_ask : MethodName := ⟨RX10, "ask", "(LStrengthHouse$Piece;III)I"⟩
abbrev cX10_bodyAt : ByteArray := prog_12_method_3_code
def yX10_bodyAt : MethodName := ⟨RX10, "bodyAt", "(I)I"⟩
abbrev cX10_say : ByteArray := prog_12_method_4_code
def yX10_say : MethodName := ⟨RX10, "say", "(IIII)I"⟩
abbrev cX10_bodyOf : ByteArray := prog_12_method_5_code
def yX10_bodyOf : MethodName := ⟨RX10, "bodyOf", "(II)I"⟩
abbrev cX10_workOut : ByteArray := prog_12_method_6_code
def yX10_workOut : MethodName := ⟨RX10, "workOut", "(III)I"⟩
abbrev cX10_shareOut : ByteArray := prog_12_method_7_code
def yX10_shareOut : MethodName := ⟨RX10, "shareOut", "(I)I"⟩
def RX11 : String := "StrengthHouse"
def TX11 : u_T := fun k => match k with
  | 0 => ("StrengthHouse", "now", "LStrengthHouse$State;", true)
  | 1 => ("StrengthHouse", "kept", "LStrengthHouse$State;", true)
  | 2 => ("StrengthHouse", "images", "I", false)
  | 3 => ("StrengthHouse", "refused", "[I", true)
  | 4 => ("StrengthHouse", "sheets", "[LStrengthHouse$Sheet;", true)
  | 5 => ("StrengthHouse", "voices", "LStrengthHouse$Voices;", true)
  | 6 => ("StrengthHouse", "machine", "LStrengthHouse$Machine;", true)
  | 7 => ("StrengthHouse", "reader", "LStrengthHouse$TextReader;", true)
  | 8 => ("StrengthHouse", "draft", "LStrengthHouse$Program;", true)
  | 9 => ("StrengthHouse", "order", "LStrengthHouse$Order;", true)
  | _ => ("StrengthHouse", "cuts", "[I", true)
def tyX11 : Nat → FieldType := fun k => match k with
  | 0 => .object "StrengthHouse$State"
  | 1 => .object "StrengthHouse$State"
  | 2 => .int
  | 3 => .array .int
  | 4 => .array (.object "StrengthHouse$Sheet")
  | 5 => .object "StrengthHouse$Voices"
  | 6 => .object "StrengthHouse$Machine"
  | 7 => .object "StrengthHouse$TextReader"
  | 8 => .object "StrengthHouse$Program"
  | 9 => .object "StrengthHouse$Order"
  | _ => .array .int
theorem nmX11 : ∀ a, a < 11 → ∀ b, b < 11 → a ≠ b → (TX11 a).2.1 ≠ (TX11 b).2.1 := by decide +kernel
theorem tyX11_ok : ∀ k, k < 11 → parseFieldDescriptor (TX11 k).2.2.1 = some (tyX11 k) := by decide +kernel
abbrev cX11_init : ByteArray := prog_1_method_1_code
def yX11_init : MethodName := ⟨RX11, "<init>", "()V"⟩
abbrev cX11_piece : ByteArray := prog_1_method_2_code
def yX11_piece : MethodName := ⟨RX11, "piece", "(IIIII)I"⟩
abbrev cX11_pieceIs : ByteArray := prog_1_method_3_code
def yX11_pieceIs : MethodName := ⟨RX11, "pieceIs", "(II)I"⟩
abbrev cX11_as : ByteArray := prog_1_method_4_code
def yX11_as : MethodName := ⟨RX11, "as", "(II)I"⟩
abbrev cX11_answer : ByteArray := prog_1_method_5_code
def yX11_answer : MethodName := ⟨RX11, "answer", "(II)I"⟩
abbrev cX11_trace : ByteArray := prog_1_method_6_code
def yX11_trace : MethodName := ⟨RX11, "trace", "(III)I"⟩
abbrev cX11_reading : ByteArray := prog_1_method_7_code
def yX11_reading : MethodName := ⟨RX11, "reading", "(III)I"⟩
abbrev cX11_limit : ByteArray := prog_1_method_8_code
def yX11_limit : MethodName := ⟨RX11, "limit", "(II)I"⟩
abbrev cX11_feed : ByteArray := prog_1_method_9_code
def yX11_feed : MethodName := ⟨RX11, "feed", "(JI)I"⟩
abbrev cX11_program : ByteArray := prog_1_method_10_code
def yX11_program : MethodName := ⟨RX11, "program", "(I)I"⟩
abbrev cX11_run : ByteArray := prog_1_method_11_code
def yX11_run : MethodName := ⟨RX11, "run", "(II)I"⟩
abbrev cX11_ran : ByteArray := prog_1_method_12_code
def yX11_ran : MethodName := ⟨RX11, "ran", "(I)I"⟩
abbrev cX11_line : ByteArray := prog_1_method_13_code
def yX11_line : MethodName := ⟨RX11, "line", "(II)I"⟩
abbrev cX11_yields : ByteArray := prog_1_method_14_code
def yX11_yields : MethodName := ⟨RX11, "yields", "(II)I"⟩
abbrev cX11_top : ByteArray := prog_1_method_15_code
def yX11_top : MethodName := ⟨RX11, "top", "(I)I"⟩
abbrev cX11_breaks : ByteArray := prog_1_method_16_code
def yX11_breaks : MethodName := ⟨RX11, "breaks", "(II)I"⟩
abbrev cX11_spent : ByteArray := prog_1_method_17_code
def yX11_spent : MethodName := ⟨RX11, "spent", "(II)J"⟩
abbrev cX11_number : ByteArray := prog_1_method_18_code
def yX11_number : MethodName := ⟨RX11, "number", "(II)I"⟩
abbrev cX11_curve : ByteArray := prog_1_method_19_code
def yX11_curve : MethodName := ⟨RX11, "curve", "(III)I"⟩
abbrev cX11_odd : ByteArray := prog_1_method_20_code
def yX11_odd : MethodName := ⟨RX11, "odd", "(III)I"⟩
abbrev cX11_sure : ByteArray := prog_1_method_21_code
def yX11_sure : MethodName := ⟨RX11, "sure", "(IIII)I"⟩
abbrev cX11_few : ByteArray := prog_1_method_22_code
def yX11_few : MethodName := ⟨RX11, "few", "(II)I"⟩
abbrev cX11_prove : ByteArray := prog_1_method_23_code
def yX11_prove : MethodName := ⟨RX11, "prove", "(IIII)I"⟩
abbrev cX11_led : ByteArray := prog_1_method_24_code
def yX11_led : MethodName := ⟨RX11, "led", "(III)I"⟩
abbrev cX11_enter : ByteArray := prog_1_method_25_code
def yX11_enter : MethodName := ⟨RX11, "enter", "(III)I"⟩
abbrev cX11_entryIs : ByteArray := prog_1_method_26_code
def yX11_entryIs : MethodName := ⟨RX11, "entryIs", "(II)I"⟩
abbrev cX11_back : ByteArray := prog_1_method_27_code
def yX11_back : MethodName := ⟨RX11, "back", "(II)I"⟩
abbrev cX11_book : ByteArray := prog_1_method_28_code
def yX11_book : MethodName := ⟨RX11, "book", "(II)I"⟩
abbrev cX11_hangs : ByteArray := prog_1_method_29_code
def yX11_hangs : MethodName := ⟨RX11, "hangs", "(I)I"⟩
abbrev cX11_plates : ByteArray := prog_1_method_30_code
def yX11_plates : MethodName := ⟨RX11, "plates", "(III)I"⟩
abbrev cX11_drift : ByteArray := prog_1_method_31_code
def yX11_drift : MethodName := ⟨RX11, "drift", "(I)I"⟩
abbrev cX11_voice : ByteArray := prog_1_method_32_code
def yX11_voice : MethodName := ⟨RX11, "voice", "(III)I"⟩
abbrev cX11_body : ByteArray := prog_1_method_33_code
def yX11_body : MethodName := ⟨RX11, "body", "(I)I"⟩
abbrev cX11_sheet : ByteArray := prog_1_method_34_code
def yX11_sheet : MethodName := ⟨RX11, "sheet", "(III)I"⟩
abbrev cX11_put : ByteArray := prog_1_method_35_code
def yX11_put : MethodName := ⟨RX11, "put", "(III)I"⟩
abbrev cX11_move : ByteArray := prog_1_method_36_code
def yX11_move : MethodName := ⟨RX11, "move", "(IIIII)I"⟩
abbrev cX11_image : ByteArray := prog_1_method_37_code
def yX11_image : MethodName := ⟨RX11, "image", "()I"⟩
abbrev cX11_restore : ByteArray := prog_1_method_38_code
def yX11_restore : MethodName := ⟨RX11, "restore", "()I"⟩
abbrev cX11_tell : ByteArray := prog_1_method_39_code
def yX11_tell : MethodName := ⟨RX11, "tell", "(I)I"⟩
abbrev cX11_check : ByteArray := prog_1_method_40_code
def yX11_check : MethodName := ⟨RX11, "check", "(II)I"⟩
abbrev cX11_count : ByteArray := prog_1_method_41_code
def yX11_count : MethodName := ⟨RX11, "count", "(I)I"⟩
abbrev cX11_told : ByteArray := prog_1_method_42_code
def yX11_told : MethodName := ⟨RX11, "told", "(I)I"⟩
abbrev cX11_refuse : ByteArray := prog_1_method_43_code
def yX11_refuse : MethodName := ⟨RX11, "refuse", "(I)I"⟩
abbrev cX11_orNone : ByteArray := prog_1_method_44_code
def yX11_orNone : MethodName := ⟨RX11, "orNone", "(I)I"⟩
abbrev cX11_sheetAt : ByteArray := prog_1_method_45_code
def yX11_sheetAt : MethodName := ⟨RX11, "sheetAt", "(I)LStrengthHouse$Sheet;"⟩
abbrev cX11_orderCurves : ByteArray := prog_1_method_46_code
def yX11_orderCurves : MethodName := ⟨RX11, "orderCurves", "(II)V"⟩
abbrev cX11_orderNumbers : ByteArray := prog_1_method_47_code
def yX11_orderNumbers : MethodName := ⟨RX11, "orderNumbers", "(II)V"⟩
abbrev cX11_fewestPlates : ByteArray := prog_1_method_48_code
def yX11_fewestPlates : MethodName := ⟨RX11, "fewestPlates", "(LStrengthHouse$Sheet;II)I"⟩
abbrev cX11_cutOneMore : ByteArray := prog_1_method_49_code
def yX11_cutOneMore : MethodName := ⟨RX11, "cutOneMore", "(III)I"⟩
abbrev cX11_sumsApart : ByteArray := prog_1_method_50_code
def yX11_sumsApart : MethodName := ⟨RX11, "sumsApart", "(II)I"⟩
abbrev cX11_firstUnlike : ByteArray := prog_1_method_51_code
def yX11_firstUnlike : MethodName := ⟨RX11, "firstUnlike", "(ILStrengthHouse$Readings;)I"⟩
abbrev cX11_within : ByteArray := prog_1_method_52_code
def yX11_within : MethodName := ⟨RX11, "within", "(III)Z"⟩
abbrev cX11_isLot : ByteArray := prog_1_method_53_code
def yX11_isLot : MethodName := ⟨RX11, "isLot", "(I)Z"⟩
abbrev cX11_isLaw : ByteArray := prog_1_method_54_code
def yX11_isLaw : MethodName := ⟨RX11, "isLaw", "(I)Z"⟩
abbrev cX11_isMeter : ByteArray := prog_1_method_55_code
def yX11_isMeter : MethodName := ⟨RX11, "isMeter", "(I)Z"⟩
abbrev cX11_isStretch : ByteArray := prog_1_method_56_code
def yX11_isStretch : MethodName := ⟨RX11, "isStretch", "(I)Z"⟩
abbrev cX11_isTenths : ByteArray := prog_1_method_57_code
def yX11_isTenths : MethodName := ⟨RX11, "isTenths", "(I)Z"⟩
abbrev cX11_straight : ByteArray := prog_1_method_58_code
def yX11_straight : MethodName := ⟨RX11, "straight", "(IIII)I"⟩
def RX12 : String := "StrengthHouseModel"
def TX12 : u_T := fun k => match k with
  | 0 => ("StrengthHouseModel", "now", "[I", true)
  | 1 => ("StrengthHouseModel", "kept", "[I", true)
  | 2 => ("StrengthHouseModel", "images", "I", false)
  | 3 => ("StrengthHouseModel", "found", "[I", true)
  | 4 => ("StrengthHouseModel", "MOST", "[I", true)
  | 5 => ("StrengthHouseModel", "WORDS", "[Ljava/lang/String;", true)
  | 6 => ("StrengthHouseModel", "from", "I", false)
  | 7 => ("StrengthHouseModel", "to", "I", false)
  | 8 => ("StrengthHouseModel", "isWrong", "Z", false)
  | 9 => ("StrengthHouseModel", "parts", "I", false)
  | 10 => ("StrengthHouseModel", "row", "[I", true)
  | 11 => ("StrengthHouseModel", "tried", "I", false)
  | 12 => ("StrengthHouseModel", "x", "I", false)
  | 13 => ("StrengthHouseModel", "isBroken", "Z", false)
  | 14 => ("StrengthHouseModel", "isLastPart", "Z", false)
  | 15 => ("StrengthHouseModel", "why", "I", false)
  | 16 => ("StrengthHouseModel", "ticks", "I", false)
  | 17 => ("StrengthHouseModel", "held", "I", false)
  | 18 => ("StrengthHouseModel", "taken", "I", false)
  | 19 => ("StrengthHouseModel", "behind", "[I", true)
  | 20 => ("StrengthHouseModel", "takenAt", "[I", true)
  | 21 => ("StrengthHouseModel", "takenLoad", "[I", true)
  | 22 => ("StrengthHouseModel", "lineFirst", "I", false)
  | 23 => ("StrengthHouseModel", "lineSecond", "I", false)
  | 24 => ("StrengthHouseModel", "onLine", "I", false)
  | 25 => ("StrengthHouseModel", "ordered", "[I", true)
  | 26 => ("StrengthHouseModel", "whose", "[I", true)
  | 27 => ("StrengthHouseModel", "orderedMany", "I", false)
  | 28 => ("StrengthHouseModel", "plates", "[I", true)
  | 29 => ("StrengthHouseModel", "cut", "[I", true)
  | 30 => ("StrengthHouseModel", "trace", "[I", true)
  | 31 => ("StrengthHouseModel", "traced", "I", false)
  | 32 => ("StrengthHouseModel", "speaker", "I", false)
  | 33 => ("StrengthHouseModel", "isParted", "Z", false)
  | 34 => ("StrengthHouseModel", "widths", "[I", true)
  | 35 => ("StrengthHouseModel", "sizes", "[I", true)
  | 36 => ("StrengthHouseModel", "numbers", "[I", true)
  | _ => ("StrengthHouseModel", "carried", "[I", true)
def tyX12 : Nat → FieldType := fun k => match k with
  | 0 => .array .int
  | 1 => .array .int
  | 2 => .int
  | 3 => .array .int
  | 4 => .array .int
  | 5 => .array (.object "java/lang/String")
  | 6 => .int
  | 7 => .int
  | 8 => .boolean
  | 9 => .int
  | 10 => .array .int
  | 11 => .int
  | 12 => .int
  | 13 => .boolean
  | 14 => .boolean
  | 15 => .int
  | 16 => .int
  | 17 => .int
  | 18 => .int
  | 19 => .array .int
  | 20 => .array .int
  | 21 => .array .int
  | 22 => .int
  | 23 => .int
  | 24 => .int
  | 25 => .array .int
  | 26 => .array .int
  | 27 => .int
  | 28 => .array .int
  | 29 => .array .int
  | 30 => .array .int
  | 31 => .int
  | 32 => .int
  | 33 => .boolean
  | 34 => .array .int
  | 35 => .array .int
  | 36 => .array .int
  | _ => .array .int
theorem nmX12 : ∀ a, a < 38 → ∀ b, b < 38 → a ≠ b → (TX12 a).2.1 ≠ (TX12 b).2.1 := by decide +kernel
theorem tyX12_ok : ∀ k, k < 38 → parseFieldDescriptor (TX12 k).2.2.1 = some (tyX12 k) := by decide +kernel
abbrev cX12_init : ByteArray := prog_14_method_1_code
def yX12_init : MethodName := ⟨RX12, "<init>", "()V"⟩
abbrev cX12_finding : ByteArray := prog_14_method_2_code
def yX12_finding : MethodName := ⟨RX12, "finding", "(I)I"⟩
abbrev cX12_within : ByteArray := prog_14_method_3_code
def yX12_within : MethodName := ⟨RX12, "within", "(III)Z"⟩
abbrev cX12_is : ByteArray := prog_14_method_4_code
def yX12_is : MethodName := ⟨RX12, "is", "(II)Z"⟩
abbrev cX12_has : ByteArray := prog_14_method_5_code
def yX12_has : MethodName := ⟨RX12, "has", "(II)Z"⟩
abbrev cX12_bits : ByteArray := prog_14_method_6_code
def yX12_bits : MethodName := ⟨RX12, "bits", "(I)I"⟩
abbrev cX12_become : ByteArray := prog_14_method_7_code
def yX12_become : MethodName := ⟨RX12, "become", "(II)I"⟩
abbrev cX12_of : ByteArray := prog_14_method_8_code
def yX12_of : MethodName := ⟨RX12, "of", "(II)I"⟩
abbrev cX12_piece : ByteArray := prog_14_method_9_code
def yX12_piece : MethodName := ⟨RX12, "piece", "(IIIII)I"⟩
abbrev cX12_many : ByteArray := prog_14_method_10_code
def yX12_many : MethodName := ⟨RX12, "many", "(I)I"⟩
abbrev cX12_stretch : ByteArray := prog_14_method_11_code
def yX12_stretch : MethodName := ⟨RX12, "stretch", "(II)I"⟩
abbrev cX12_load : ByteArray := prog_14_method_12_code
def yX12_load : MethodName := ⟨RX12, "load", "(II)I"⟩
abbrev cX12_isGood : ByteArray := prog_14_method_13_code
def yX12_isGood : MethodName := ⟨RX12, "isGood", "(II)Z"⟩
abbrev cX12_pieceIs : ByteArray := prog_14_method_14_code
def yX12_pieceIs : MethodName := ⟨RX12, "pieceIs", "(II)I"⟩
abbrev cX12_above : ByteArray := prog_14_method_15_code
def yX12_above : MethodName := ⟨RX12, "above", "(I)I"⟩
abbrev cX12_as : ByteArray := prog_14_method_16_code
def yX12_as : MethodName := ⟨RX12, "as", "(II)I"⟩
abbrev cX12_end : ByteArray := prog_14_method_17_code
def yX12_end : MethodName := ⟨RX12, "end", "(I)I"⟩
abbrev cX12_answered : ByteArray := prog_14_method_18_code
def yX12_answered : MethodName := ⟨RX12, "answered", "(II)I"⟩
abbrev cX12_answer : ByteArray := prog_14_method_19_code
def yX12_answer : MethodName := ⟨RX12, "answer", "(II)I"⟩
abbrev cX12_read : ByteArray := prog_14_method_20_code
def yX12_read : MethodName := ⟨RX12, "read", "(IIII)V"⟩
abbrev cX12_trace : ByteArray := prog_14_method_21_code
def yX12_trace : MethodName := ⟨RX12, "trace", "(III)I"⟩
abbrev cX12_reading : ByteArray := prog_14_method_22_code
def yX12_reading : MethodName := ⟨RX12, "reading", "(III)I"⟩
abbrev cX12_limit : ByteArray := prog_14_method_23_code
def yX12_limit : MethodName := ⟨RX12, "limit", "(II)I"⟩
abbrev cX12_feed : ByteArray := prog_14_method_24_code
def yX12_feed : MethodName := ⟨RX12, "feed", "(JI)I"⟩
abbrev cX12_isByte : ByteArray := prog_14_method_25_code
def yX12_isByte : MethodName := ⟨RX12, "isByte", "(III)Z"⟩
abbrev cX12_goOn : ByteArray := prog_14_method_26_code
def yX12_goOn : MethodName := ⟨RX12, "goOn", "()V"⟩
abbrev cX12_takes : ByteArray := prog_14_method_27_code
def yX12_takes : MethodName := ⟨RX12, "takes", "(Ljava/lang/String;)Z"⟩
abbrev cX12_number : ByteArray := prog_14_method_28_code
def yX12_number : MethodName := ⟨RX12, "number", "()I"⟩
abbrev cX12_part : ByteArray := prog_14_method_29_code
def yX12_part : MethodName := ⟨RX12, "part", "()V"⟩
abbrev cX12_isProgram : ByteArray := prog_14_method_30_code
def yX12_isProgram : MethodName := ⟨RX12, "isProgram", "(I)Z"⟩
abbrev cX12_program : ByteArray := prog_14_method_31_code
def yX12_program : MethodName := ⟨RX12, "program", "(I)I"⟩
abbrev cX12_hasProgram : ByteArray := prog_14_method_32_code
def yX12_hasProgram : MethodName := ⟨RX12, "hasProgram", "(I)Z"⟩
abbrev cX12_loadNow : ByteArray := prog_14_method_33_code
def yX12_loadNow : MethodName := ⟨RX12, "loadNow", "()I"⟩
abbrev cX12_tick : ByteArray := prog_14_method_34_code
def yX12_tick : MethodName := ⟨RX12, "tick", "()V"⟩
abbrev cX12_goesOn : ByteArray := prog_14_method_35_code
def yX12_goesOn : MethodName := ⟨RX12, "goesOn", "()Z"⟩
abbrev cX12_takeReading : ByteArray := prog_14_method_36_code
def yX12_takeReading : MethodName := ⟨RX12, "takeReading", "()V"⟩
abbrev cX12_does : ByteArray := prog_14_method_37_code
def yX12_does : MethodName := ⟨RX12, "does", "(II)V"⟩
abbrev cX12_goThrough : ByteArray := prog_14_method_38_code
def yX12_goThrough : MethodName := ⟨RX12, "goThrough", "(II)I"⟩
abbrev cX12_run : ByteArray := prog_14_method_39_code
def yX12_run : MethodName := ⟨RX12, "run", "(II)I"⟩
abbrev cX12_ran : ByteArray := prog_14_method_40_code
def yX12_ran : MethodName := ⟨RX12, "ran", "(I)I"⟩
abbrev cX12_isOn : ByteArray := prog_14_method_41_code
def yX12_isOn : MethodName := ⟨RX12, "isOn", "(IIII)Z"⟩
abbrev cX12_findLine : ByteArray := prog_14_method_42_code
def yX12_findLine : MethodName := ⟨RX12, "findLine", "(I)Z"⟩
abbrev cX12_line : ByteArray := prog_14_method_43_code
def yX12_line : MethodName := ⟨RX12, "line", "(II)I"⟩
abbrev cX12_yieldOf : ByteArray := prog_14_method_44_code
def yX12_yieldOf : MethodName := ⟨RX12, "yieldOf", "(II)I"⟩
abbrev cX12_yields : ByteArray := prog_14_method_45_code
def yX12_yields : MethodName := ⟨RX12, "yields", "(II)I"⟩
abbrev cX12_topOf : ByteArray := prog_14_method_46_code
def yX12_topOf : MethodName := ⟨RX12, "topOf", "(I)I"⟩
abbrev cX12_top : ByteArray := prog_14_method_47_code
def yX12_top : MethodName := ⟨RX12, "top", "(I)I"⟩
abbrev cX12_breakOf : ByteArray := prog_14_method_48_code
def yX12_breakOf : MethodName := ⟨RX12, "breakOf", "(II)I"⟩
abbrev cX12_breaks : ByteArray := prog_14_method_49_code
def yX12_breaks : MethodName := ⟨RX12, "breaks", "(II)I"⟩
abbrev cX12_spentOf : ByteArray := prog_14_method_50_code
def yX12_spentOf : MethodName := ⟨RX12, "spentOf", "(II)J"⟩
abbrev cX12_spent : ByteArray := prog_14_method_51_code
def yX12_spent : MethodName := ⟨RX12, "spent", "(II)J"⟩
abbrev cX12_numberOf : ByteArray := prog_14_method_52_code
def yX12_numberOf : MethodName := ⟨RX12, "numberOf", "(II)I"⟩
abbrev cX12_isLaw : ByteArray := prog_14_method_53_code
def yX12_isLaw : MethodName := ⟨RX12, "isLaw", "(I)Z"⟩
abbrev cX12_number_ : ByteArray := prog_14_method_54_code
def yX12_number_ : MethodName := ⟨RX12, "number", "(II)I"⟩
abbrev cX12_adds : ByteArray := prog_14_method_55_code
def yX12_adds : MethodName := ⟨RX12, "adds", "(II)V"⟩
abbrev cX12_curveOf : ByteArray := prog_14_method_56_code
def yX12_curveOf : MethodName := ⟨RX12, "curveOf", "(II)I"⟩
abbrev cX12_isLot : ByteArray := prog_14_method_57_code
def yX12_isLot : MethodName := ⟨RX12, "isLot", "(I)Z"⟩
abbrev cX12_curve : ByteArray := prog_14_method_58_code
def yX12_curve : MethodName := ⟨RX12, "curve", "(III)I"⟩
abbrev cX12_findNumbers : ByteArray := prog_14_method_59_code
def yX12_findNumbers : MethodName := ⟨RX12, "findNumbers", "(II)V"⟩
abbrev cX12_odd : ByteArray := prog_14_method_60_code
def yX12_odd : MethodName := ⟨RX12, "odd", "(III)I"⟩
abbrev cX12_rankOf : ByteArray := prog_14_method_61_code
def yX12_rankOf : MethodName := ⟨RX12, "rankOf", "(III)I"⟩
abbrev cX12_areTenths : ByteArray := prog_14_method_62_code
def yX12_areTenths : MethodName := ⟨RX12, "areTenths", "(II)Z"⟩
abbrev cX12_sure : ByteArray := prog_14_method_63_code
def yX12_sure : MethodName := ⟨RX12, "sure", "(IIII)I"⟩
abbrev cX12_few : ByteArray := prog_14_method_64_code
def yX12_few : MethodName := ⟨RX12, "few", "(II)I"⟩
abbrev cX12_isMeter : ByteArray := prog_14_method_65_code
def yX12_isMeter : MethodName := ⟨RX12, "isMeter", "(I)Z"⟩
abbrev cX12_meter : ByteArray := prog_14_method_66_code
def yX12_meter : MethodName := ⟨RX12, "meter", "(II)I"⟩
abbrev cX12_prove : ByteArray := prog_14_method_67_code
def yX12_prove : MethodName := ⟨RX12, "prove", "(IIII)I"⟩
abbrev cX12_ledOf : ByteArray := prog_14_method_68_code
def yX12_ledOf : MethodName := ⟨RX12, "ledOf", "(II)I"⟩
abbrev cX12_led : ByteArray := prog_14_method_69_code
def yX12_led : MethodName := ⟨RX12, "led", "(III)I"⟩
abbrev cX12_entry : ByteArray := prog_14_method_70_code
def yX12_entry : MethodName := ⟨RX12, "entry", "(II)I"⟩
abbrev cX12_enter : ByteArray := prog_14_method_71_code
def yX12_enter : MethodName := ⟨RX12, "enter", "(III)I"⟩
abbrev cX12_entryIs : ByteArray := prog_14_method_72_code
def yX12_entryIs : MethodName := ⟨RX12, "entryIs", "(II)I"⟩
abbrev cX12_back : ByteArray := prog_14_method_73_code
def yX12_back : MethodName := ⟨RX12, "back", "(II)I"⟩
abbrev cX12_book : ByteArray := prog_14_method_74_code
def yX12_book : MethodName := ⟨RX12, "book", "(II)I"⟩
abbrev cX12_hangs : ByteArray := prog_14_method_75_code
def yX12_hangs : MethodName := ⟨RX12, "hangs", "(I)I"⟩
abbrev cX12_plates : ByteArray := prog_14_method_76_code
def yX12_plates : MethodName := ⟨RX12, "plates", "(III)I"⟩
abbrev cX12_drift : ByteArray := prog_14_method_77_code
def yX12_drift : MethodName := ⟨RX12, "drift", "(I)I"⟩
abbrev cX12_began : ByteArray := prog_14_method_78_code
def yX12_began : MethodName := ⟨RX12, "began", "(I)V"⟩
abbrev cX12_hasOwn : ByteArray := prog_14_method_79_code
def yX12_hasOwn : MethodName := ⟨RX12, "hasOwn", "(II)Z"⟩
abbrev cX12_voiced : ByteArray := prog_14_method_80_code
def yX12_voiced : MethodName := ⟨RX12, "voiced", "(II)I"⟩
abbrev cX12_bodyFrom : ByteArray := prog_14_method_81_code
def yX12_bodyFrom : MethodName := ⟨RX12, "bodyFrom", "(III)I"⟩
abbrev cX12_body : ByteArray := prog_14_method_82_code
def yX12_body : MethodName := ⟨RX12, "body", "(III)I"⟩
abbrev cX12_voice : ByteArray := prog_14_method_83_code
def yX12_voice : MethodName := ⟨RX12, "voice", "(III)I"⟩
abbrev cX12_body_ : ByteArray := prog_14_method_84_code
def yX12_body_ : MethodName := ⟨RX12, "body", "(I)I"⟩
abbrev cX12_isSheet : ByteArray := prog_14_method_85_code
def yX12_isSheet : MethodName := ⟨RX12, "isSheet", "(I)Z"⟩
abbrev cX12_sheet : ByteArray := prog_14_method_86_code
def yX12_sheet : MethodName := ⟨RX12, "sheet", "(III)I"⟩
abbrev cX12_put : ByteArray := prog_14_method_87_code
def yX12_put : MethodName := ⟨RX12, "put", "(III)I"⟩
abbrev cX12_move : ByteArray := prog_14_method_88_code
def yX12_move : MethodName := ⟨RX12, "move", "(IIIII)I"⟩
abbrev cX12_copy : ByteArray := prog_14_method_89_code
def yX12_copy : MethodName := ⟨RX12, "copy", "([I[I)V"⟩
abbrev cX12_image : ByteArray := prog_14_method_90_code
def yX12_image : MethodName := ⟨RX12, "image", "()I"⟩
abbrev cX12_restore : ByteArray := prog_14_method_91_code
def yX12_restore : MethodName := ⟨RX12, "restore", "()I"⟩
abbrev cX12_tell : ByteArray := prog_14_method_92_code
def yX12_tell : MethodName := ⟨RX12, "tell", "(I)I"⟩
abbrev cX12_check : ByteArray := prog_14_method_93_code
def yX12_check : MethodName := ⟨RX12, "check", "(II)I"⟩
abbrev cX12_count : ByteArray := prog_14_method_94_code
def yX12_count : MethodName := ⟨RX12, "count", "(I)I"⟩
abbrev cX12_told : ByteArray := prog_14_method_95_code
def yX12_told : MethodName := ⟨RX12, "told", "(I)I"⟩
def RJ6 : String := "java/lang/Integer"
abbrev cJ6_bitCount_0f7a4 : ByteArray := prog_15_method_49_code
def yJ6_bitCount_0f7a4 : MethodName := ⟨RJ6, "bitCount", "(I)I"⟩
def RJ9 : String := "java/lang/Math"
abbrev cJ9_floorMod_7cf53 : ByteArray := prog_16_method_50_code
def yJ9_floorMod_7cf53 : MethodName := ⟨RJ9, "floorMod", "(II)I"⟩
abbrev cJ9_abs_0f7a4 : ByteArray := prog_16_method_59_code
def yJ9_abs_0f7a4 : MethodName := ⟨RJ9, "abs", "(I)I"⟩
abbrev cJ9_max_7cf53 : ByteArray := prog_16_method_65_code
def yJ9_max_7cf53 : MethodName := ⟨RJ9, "max", "(II)I"⟩
abbrev cJ9_min_7cf53 : ByteArray := prog_16_method_69_code
def yJ9_min_7cf53 : MethodName := ⟨RJ9, "min", "(II)I"⟩
abbrev cJ9_min_f86c9 : ByteArray := prog_16_method_70_code
def yJ9_min_f86c9 : MethodName := ⟨RJ9, "min", "(JJ)J"⟩
def RJ0 : String := "java/lang/String"
abbrev cJ0_length_8abf5 : ByteArray := prog_17_method_54_code
def yJ0_length_8abf5 : MethodName := ⟨RJ0, "length", "()I"⟩
abbrev cJ0_charAt_5068e : ByteArray := prog_17_method_56_code
def yJ0_charAt_5068e : MethodName := ⟨RJ0, "charAt", "(I)C"⟩
abbrev cJ0_coder_7d493 : ByteArray := prog_17_method_152_code
def yJ0_coder_7d493 : MethodName := ⟨RJ0, "coder", "()B"⟩
abbrev cJ0_isLatin1_aae02 : ByteArray := prog_17_method_154_code
def yJ0_isLatin1_aae02 : MethodName := ⟨RJ0, "isLatin1", "()Z"⟩
abbrev cJ0_checkIndex_df160 : ByteArray := prog_17_method_155_code
def yJ0_checkIndex_df160 : MethodName := ⟨RJ0, "checkIndex", "(II)V"⟩
def RJ1 : String := "java/lang/StringLatin1"
abbrev cJ1_charAt_3b067 : ByteArray := prog_18_method_2_code
def yJ1_charAt_3b067 : MethodName := ⟨RJ1, "charAt", "([BI)C"⟩
def RJ2 : String := "java/lang/StringUTF16"
def RJ10 : String := "java/lang/System"
def RJ3 : String := "jdk/internal/util/Preconditions"
abbrev cJ3_checkIndex_8e157 : ByteArray := prog_21_method_11_code
def yJ3_checkIndex_8e157 : MethodName := ⟨RJ3, "checkIndex", "(IILjava/util/function/BiFunction;)I"⟩
abbrev vwCl : List vw_C := [(RX0, TX0, 7), (RX1, TX1, 15), (RX2, TX2, 4), (RX3, TX3, 3), (RX4, TX4, 6), (RX5, TX5, 5), (RX6, TX6, 6), (RX7, TX7, 3), (RX8, TX8, 12), (RX9, TX9, 4), (RX10, TX10, 8), (RX11, TX11, 11), (RX12, TX12, 38)]
end
section
/-! THE WALKING MACHINE: values, states, one instruction as a proposition in the style of continuations. Own work. -/
/-- a value: a place (or none), a whole number of 32 bits, of 64 bits -/
abbrev pV : Type := Option Nat ⊕ (Int ⊕ Int)
abbrev vi (z : Int) : pV := Sum.inr (Sum.inl z)
abbrev vl (z : Int) : pV := Sum.inr (Sum.inr z)
abbrev vr (k : Nat) : pV := Sum.inl (some k)
abbrev vn : pV := Sum.inl none
abbrev pF : Type := Nat → Nat → Option Nat
abbrev pI : Type := Nat → Nat → Int
def wr (z : Int) : Int := (z + 2147483648) % 4294967296 - 2147483648
def wl (z : Int) : Int := (z + 9223372036854775808) % 18446744073709551616 - 9223372036854775808
def wb (z : Int) : Int := (z + 128) % 256 - 128
def wsh (z : Int) : Int := (z + 32768) % 65536 - 32768
def lcm (x y : Int) : Int := if x < y then -1 else if x = y then 0 else 1
def iR (z : Int) : Prop := -2147483648 ≤ z ∧ z < 2147483648
def lR (z : Int) : Prop := -9223372036854775808 ≤ z ∧ z < 9223372036854775808
def bI (x y : Int) : Int := ((Int32.ofInt x) &&& (Int32.ofInt y)).toInt
def oI (x y : Int) : Int := ((Int32.ofInt x) ||| (Int32.ofInt y)).toInt
def xI (x y : Int) : Int := ((Int32.ofInt x) ^^^ (Int32.ofInt y)).toInt
def slI (x y : Int) : Int := ((Int32.ofInt x) <<< ((Int32.ofInt y) &&& 31)).toInt
def srI (x y : Int) : Int := ((Int32.ofInt x) >>> ((Int32.ofInt y) &&& 31)).toInt
def suI (x y : Int) : Int := (((Int32.ofInt x).toUInt32 >>> ((Int32.ofInt y).toUInt32 &&& Int32.toUInt32 31)).toInt32).toInt
def bL (x y : Int) : Int := ((Int64.ofInt x) &&& (Int64.ofInt y)).toInt
def oL (x y : Int) : Int := ((Int64.ofInt x) ||| (Int64.ofInt y)).toInt
def slL (x y : Int) : Int := ((Int64.ofInt x) <<< ((Int32.ofInt y).toInt64 &&& 63)).toInt
def srL (x y : Int) : Int := ((Int64.ofInt x) >>> ((Int32.ofInt y).toInt64 &&& 63)).toInt
def okV : pV → Prop
  | .inr (.inl z) => iR z
  | .inr (.inr z) => lR z
  | _ => True
def ctg : pV → Nat
  | .inr (.inr _) => 2
  | _ => 1
def uI (I : pI) (q b : Nat) (x : Int) : pI := fun k j => if k = q ∧ j = b then x else I k j
def uF (F : pF) (q b : Nat) (x : Option Nat) : pF := fun k j => if k = q ∧ j = b then x else F k j
/-- a new row's numbers -/
def zI (I : pI) (q : Nat) : pI := fun k j => if k = q then 0 else I k j
def zF (F : pF) (q : Nat) : pF := fun k j => if k = q then none else F k j
/-- a stretch of a row put into another one, as they all were -/
def cI (I : pI) (q sp p dp n : Nat) : pI := fun k j => if k = p ∧ dp ≤ j ∧ j < dp + n then I q (sp + (j - dp)) else I k j
/-- an instruction of a table: itself, the next place, four numbers, a mark, cells that it makes, a value, a switch -/
abbrev pE : Type := Instr × Nat × Nat × Nat × Nat × Nat × Nat × pV × List (Int × Nat)
abbrev pT : Type := List (List (Nat × pE))
def pf : List (Nat × pE) → Nat → Option pE
  | [], _ => none
  | (q, e) :: t, pc => bif Nat.beq q pc then some e else pf t pc
def pg : pT → Nat → List (Nat × pE)
  | [], _ => []
  | c :: _, 0 => c
  | _ :: t, i + 1 => pg t i
def pAt (t : pT) (pc : Nat) : Option pE := pf (pg t (pc / 16)) pc
/-- a local -/
def lg : List (Option pV) → Nat → Option pV
  | [], _ => none
  | x :: _, 0 => x
  | _ :: t, i + 1 => lg t i
/-- a value of 64 bits whose second half is overwritten is lost -/
def lk : Option pV → Option pV
  | some (.inr (.inr _)) => none
  | x => x
def ls1 : List (Option pV) → Nat → pV → (List (Option pV) → Prop) → Prop
  | [], _, _, k => k []
  | _ :: t, 0, v, k => k (some v :: t)
  | a :: t, i + 1, v, k => match i with
    | 0 => (match a with
      | some (.inr (.inr _)) => ls1 t 0 v (fun t' => k (none :: t'))
      | some (.inr (.inl z)) => ls1 t 0 v (fun t' => k (some (.inr (.inl z)) :: t'))
      | some (.inl r) => ls1 t 0 v (fun t' => k (some (.inl r) :: t'))
      | none => ls1 t 0 v (fun t' => k (none :: t')))
    | j + 1 => ls1 t (j + 1) v (fun t' => k (a :: t'))
def lcl : List (Option pV) → List (Option pV)
  | [] => []
  | _ :: t => none :: t
def ls2 : List (Option pV) → Nat → pV → (List (Option pV) → Prop) → Prop
  | [], _, _, k => k []
  | _ :: t, 0, v, k => match t with
    | [] => k [some v]
    | _ :: t' => k (some v :: none :: t')
  | a :: t, i + 1, v, k => match i with
    | 0 => (match a with
      | some (.inr (.inr _)) => ls2 t 0 v (fun t' => k (none :: t'))
      | some (.inr (.inl z)) => ls2 t 0 v (fun t' => k (some (.inr (.inl z)) :: t'))
      | some (.inl r) => ls2 t 0 v (fun t' => k (some (.inl r) :: t'))
      | none => ls2 t 0 v (fun t' => k (none :: t')))
    | j + 1 => ls2 t (j + 1) v (fun t' => k (a :: t'))
/-- the locals at a method's entry -/
def lvA : List pV → List (Option pV)
  | [] => []
  | v :: t => match v with
    | .inr (.inr z) => some (.inr (.inr z)) :: none :: lvA t
    | .inr (.inl z) => some (.inr (.inl z)) :: lvA t
    | .inl r => some (.inl r) :: lvA t
def lvN : Nat → List (Option pV)
  | 0 => []
  | n + 1 => none :: lvN n
def mmb : List Nat → Nat → Bool
  | [], _ => false
  | q :: t, pc => bif Nat.beq q pc then true else mmb t pc
def popN : Nat → List pV → List pV → (List pV → List pV → Prop) → Prop
  | 0, st, acc, k => k acc st
  | _ + 1, [], _, _ => False
  | n + 1, x :: t, acc, k => popN n t (x :: acc) k
def ctgs : List pV → Nat
  | [] => 0
  | .inr (.inr _) :: t => 2 + ctgs t
  | .inr (.inl _) :: t => 1 + ctgs t
  | .inl _ :: t => 1 + ctgs t
def br (c : Jvm.ClassFile.Cond) (x y : Int) (P Q : Prop) : Prop := match c with
  | .eq => (x = y → P) ∧ (¬ x = y → Q)
  | .ne => (¬ x = y → P) ∧ (x = y → Q)
  | .lt => (x < y → P) ∧ (¬ x < y → Q)
  | .ge => (y ≤ x → P) ∧ (¬ y ≤ x → Q)
  | .gt => (y < x → P) ∧ (¬ y < x → Q)
  | .le => (x ≤ y → P) ∧ (¬ x ≤ y → Q)
def swp (x : Int) (d : Nat) (K : Nat → Prop) : List (Int × Nat) → Prop
  | [] => K d
  | (v, t) :: r => (x = v → K t) ∧ (¬ x = v → swp x d K r)
abbrev EXT : Nat := 4096
end
section
/-! the methods and the layout (by program: wip/pm/gen4.py) -/
abbrev mE : Type := MethodName × ByteArray × Nat × Option FieldType × Nat × Nat × Nat × Nat × Nat × Nat × Nat
def mInfo_0 : List mE := [
  (yX0_init, cX0_init, 1, (none : Option FieldType), 0, 2, 6, 142, 141, 0, 81),
  (yX0_has, cX0_has, 2, (some FieldType.boolean), 1, 1, 0, 1058, 1056, 1057, 81),
  (yX0_add, cX0_add, 6, (some FieldType.int), 4, 1, 0, 1045, 1043, 1044, 81),
  (yX0_canTakeBack, cX0_canTakeBack, 3, (some FieldType.boolean), 2, 1, 0, 1066, 1064, 1065, 81),
  (yX0_takeBack, cX0_takeBack, 3, (none : Option FieldType), 2, 1, 0, 1071, 1069, 1070, 81),
  (yX0_takenBack, cX0_takenBack, 3, (some FieldType.int), 0, 1, 0, 1242, 1240, 1241, 81),
  (yX0_latest, cX0_latest, 5, (some FieldType.int), 2, 1, 0, 1079, 1077, 1078, 81),
  (yX0_hanging, cX0_hanging, 5, (some FieldType.int), 2, 1, 0, 1087, 1085, 1086, 81),
  (yX0_copyFrom, cX0_copyFrom, 2, (none : Option FieldType), 1, 1, 0, 1204, 1202, 1203, 81),
  (yX1_init, cX1_init, 1, (none : Option FieldType), 0, 2, 9, 342, 341, 0, 86),
  (yX1_perform, cX1_perform, 6, (none : Option FieldType), 3, 1, 0, 784, 782, 783, 86),
  (yX1_begin, cX1_begin, 3, (none : Option FieldType), 2, 1, 0, 788, 787, 11, 86),
  (yX1_doPart, cX1_doPart, 5, (none : Option FieldType), 2, 1, 0, 802, 801, 12, 86),
  (yX1_timesAtMost, cX1_timesAtMost, 2, (some FieldType.int), 2, 0, 0, 805, 804, 0, 86),
  (yX1_isWanted, cX1_isWanted, 3, (some FieldType.boolean), 2, 1, 0, 809, 808, 13, 86),
  (yX1_doOnce, cX1_doOnce, 3, (none : Option FieldType), 1, 1, 0, 818, 817, 15, 86),
  (yX1_moreStretch, cX1_moreStretch, 2, (some FieldType.int), 1, 1, 0, 822, 821, 16, 86),
  (yX1_creeps, cX1_creeps, 1, (some FieldType.boolean), 0, 1, 0, 826, 825, 17, 86),
  (yX1_load, cX1_load, 1, (some FieldType.int), 0, 1, 0, 813, 812, 14, 86),
  (yX1_take, cX1_take, 3, (none : Option FieldType), 0, 1, 0, 836, 835, 18, 86),
  (yX1_askLimits, cX1_askLimits, 2, (none : Option FieldType), 1, 1, 0, 841, 840, 19, 86),
  (yX2_init, cX2_init, 1, (none : Option FieldType), 0, 2, 4, 121, 120, 0, 80),
  (yX2_set, cX2_set, 6, (none : Option FieldType), 5, 1, 0, 1012, 1010, 1011, 80),
  (yX2_otherOf, cX2_otherOf, 2, (some FieldType.int), 1, 1, 0, 1032, 1031, 30, 80),
  (yX2_ledToHouse, cX2_ledToHouse, 7, (some FieldType.int), 2, 1, 0, 1022, 1020, 1021, 80),
  (yX2_ledOnce, cX2_ledOnce, 4, (some FieldType.long), 2, 1, 0, 1026, 1025, 29, 80),
  (yX2_doubtOf, cX2_doubtOf, 6, (some FieldType.int), 1, 1, 0, 1036, 1034, 1035, 80),
  (yX2_goesOver, cX2_goesOver, 5, (some FieldType.boolean), 2, 1, 0, 1091, 1089, 1090, 80),
  (yX2_copyFrom, cX2_copyFrom, 2, (none : Option FieldType), 1, 1, 0, 1199, 1197, 1198, 80),
  (yX3_init, cX3_init, 1, (none : Option FieldType), 0, 2, 2, 425, 424, 0, 88),
  (yX3_clear, cX3_clear, 1, (none : Option FieldType), 0, 1, 0, 952, 950, 951, 88),
  (yX3_insert, cX3_insert, 4, (none : Option FieldType), 2, 1, 0, 961, 959, 960, 88),
  (yX3_valueAt, cX3_valueAt, 2, (some FieldType.int), 1, 1, 0, 965, 963, 964, 88),
  (yX3_pieceBits, cX3_pieceBits, 3, (some FieldType.int), 0, 1, 0, 1050, 1048, 1049, 88),
  (yX3_oddPiece, cX3_oddPiece, 3, (some FieldType.int), 1, 1, 0, 977, 975, 976, 88),
  (yX3_isApart, cX3_isApart, 8, (some FieldType.boolean), 3, 1, 0, 981, 980, 28, 88),
  (yX3_surePlace, cX3_surePlace, 10, (some FieldType.int), 3, 0, 0, 993, 992, 0, 88),
  (yX3_power, cX3_power, 5, (some FieldType.long), 2, 0, 0, 996, 995, 0, 88),
  (yX4_init, cX4_init, 1, (none : Option FieldType), 0, 2, 4, 174, 173, 0, 82),
  (yX4_become, cX4_become, 4, (none : Option FieldType), 3, 1, 0, 533, 531, 532, 82)]
def mInfo_1 : List mE := [
  (yX4_addAnswer, cX4_addAnswer, 2, (none : Option FieldType), 1, 1, 0, 542, 540, 541, 82),
  (yX4_above, cX4_above, 1, (some FieldType.int), 1, 0, 0, 577, 576, 0, 82),
  (yX4_isOf, cX4_isOf, 4, (some FieldType.boolean), 1, 1, 0, 574, 572, 573, 82),
  (yX4_lastStretch, cX4_lastStretch, 1, (some FieldType.int), 0, 1, 0, 594, 592, 593, 82),
  (yX4_loadAt, cX4_loadAt, 3, (some FieldType.int), 1, 1, 0, 590, 588, 589, 82),
  (yX4_answerAt, cX4_answerAt, 4, (some FieldType.int), 1, 1, 0, 598, 597, 2, 82),
  (yX4_copyFrom, cX4_copyFrom, 2, (none : Option FieldType), 1, 1, 0, 1191, 1189, 1190, 82),
  (yX5_init, cX5_init, 1, (none : Option FieldType), 0, 2, 2, 237, 236, 0, 84),
  (yX5_clear, cX5_clear, 1, (none : Option FieldType), 0, 1, 0, 672, 670, 671, 84),
  (yX5_add, cX5_add, 4, (none : Option FieldType), 3, 1, 0, 763, 761, 762, 84),
  (yX5_actAt, cX5_actAt, 2, (some FieldType.int), 1, 1, 0, 794, 792, 793, 84),
  (yX5_amountAt, cX5_amountAt, 2, (some FieldType.int), 1, 1, 0, 798, 796, 797, 84),
  (yX5_copyFrom, cX5_copyFrom, 2, (none : Option FieldType), 1, 1, 0, 773, 771, 772, 84),
  (yX6_init, cX6_init, 1, (none : Option FieldType), 0, 2, 2, 180, 179, 0, 83),
  (yX6_clear, cX6_clear, 1, (none : Option FieldType), 0, 1, 0, 537, 535, 536, 83),
  (yX6_add, cX6_add, 3, (none : Option FieldType), 2, 1, 0, 619, 617, 618, 83),
  (yX6_stretchAt, cX6_stretchAt, 2, (some FieldType.int), 1, 1, 0, 627, 625, 626, 83),
  (yX6_loadAt, cX6_loadAt, 2, (some FieldType.int), 1, 1, 0, 566, 564, 565, 83),
  (yX6_flatAt, cX6_flatAt, 2, (some FieldType.int), 1, 1, 0, 1234, 1232, 1233, 83),
  (yX6_isGood, cX6_isGood, 2, (some FieldType.boolean), 1, 1, 0, 562, 560, 561, 83),
  (yX6_goodOnes, cX6_goodOnes, 3, (some FieldType.int), 0, 1, 0, 558, 556, 557, 83),
  (yX6_findLine, cX6_findLine, 3, (some FieldType.boolean), 0, 1, 0, 866, 864, 865, 83),
  (yX6_tryLine, cX6_tryLine, 5, (none : Option FieldType), 2, 1, 0, 870, 869, 20, 83),
  (yX6_belowLine, cX6_belowLine, 13, (some FieldType.long), 4, 1, 0, 875, 874, 21, 83),
  (yX6_yieldAt, cX6_yieldAt, 3, (some FieldType.int), 1, 1, 0, 883, 881, 882, 83),
  (yX6_topAt, cX6_topAt, 3, (some FieldType.int), 0, 1, 0, 900, 899, 23, 83),
  (yX6_breakAt, cX6_breakAt, 4, (some FieldType.int), 1, 1, 0, 909, 907, 908, 83),
  (yX6_spentUpTo, cX6_spentUpTo, 6, (some FieldType.long), 1, 1, 0, 915, 913, 914, 83),
  (yX6_spentBetween, cX6_spentBetween, 5, (some FieldType.long), 2, 1, 0, 919, 918, 25, 83),
  (yX6_numberBy, cX6_numberBy, 3, (some FieldType.int), 1, 1, 0, 896, 894, 895, 83),
  (yX6_stretchOr, cX6_stretchOr, 2, (some FieldType.int), 1, 1, 0, 905, 904, 24, 83),
  (yX6_curveAt, cX6_curveAt, 4, (some FieldType.int), 1, 1, 0, 956, 954, 955, 83),
  (yX6_copyFrom, cX6_copyFrom, 2, (none : Option FieldType), 1, 1, 0, 845, 843, 844, 83),
  (yX7_init, cX7_init, 1, (none : Option FieldType), 0, 2, 1, 442, 441, 0, 89),
  (yX7_become, cX7_become, 4, (none : Option FieldType), 2, 1, 0, 1163, 1161, 1162, 89),
  (yX7_isMissing, cX7_isMissing, 1, (some FieldType.boolean), 0, 1, 0, 512, 510, 511, 89),
  (yX7_spans, cX7_spans, 3, (some FieldType.boolean), 2, 1, 0, 520, 518, 519, 89),
  (yX7_numberAt, cX7_numberAt, 2, (some FieldType.int), 1, 1, 0, 524, 522, 523, 89),
  (yX7_set, cX7_set, 3, (none : Option FieldType), 2, 1, 0, 1174, 1172, 1173, 89),
  (yX7_begins, cX7_begins, 5, (some FieldType.boolean), 3, 1, 0, 516, 514, 515, 89)]
def mInfo_2 : List mE := [
  (yX7_beginsWithReadings, cX7_beginsWithReadings, 4, (some FieldType.boolean), 1, 1, 0, 613, 611, 612, 89),
  (yX8_init, cX8_init, 2, (none : Option FieldType), 0, 2, 100, 110, 109, 0, 79),
  (yX8_pieces, cX8_pieces, 1, (some FieldType.int), 0, 1, 0, 546, 544, 545, 79),
  (yX8_pieceAt, cX8_pieceAt, 2, (some (FieldType.object "StrengthHouse$Piece")), 1, 1, 0, 554, 552, 553, 79),
  (yX8_addPiece, cX8_addPiece, 1, (some (FieldType.object "StrengthHouse$Piece")), 0, 1, 0, 529, 527, 528, 79),
  (yX8_programAt, cX8_programAt, 2, (some (FieldType.object "StrengthHouse$Program")), 1, 1, 0, 660, 658, 659, 79),
  (yX8_programsThere, cX8_programsThere, 3, (some FieldType.int), 0, 1, 0, 1246, 1244, 1245, 79),
  (yX8_readingsOfAll, cX8_readingsOfAll, 3, (some FieldType.int), 0, 1, 0, 1250, 1248, 1249, 79),
  (yX8_isLimit, cX8_isLimit, 2, (some FieldType.boolean), 2, 0, 0, 635, 634, 0, 79),
  (yX8_limitAt, cX8_limitAt, 2, (some FieldType.int), 1, 1, 0, 640, 638, 639, 79),
  (yX8_setLimit, cX8_setLimit, 3, (none : Option FieldType), 2, 1, 0, 644, 642, 643, 79),
  (yX8_addByte, cX8_addByte, 2, (none : Option FieldType), 1, 1, 0, 652, 650, 651, 79),
  (yX8_keepRun, cX8_keepRun, 2, (none : Option FieldType), 1, 1, 0, 850, 848, 849, 79),
  (yX8_ranAt, cX8_ranAt, 2, (some FieldType.int), 1, 1, 0, 858, 856, 857, 79),
  (yX8_addWaiting, cX8_addWaiting, 2, (some FieldType.boolean), 1, 1, 0, 1217, 1215, 1216, 79),
  (yX8_waitingAt, cX8_waitingAt, 2, (some FieldType.int), 1, 1, 0, 1230, 1228, 1229, 79),
  (yX8_copyFrom, cX8_copyFrom, 3, (none : Option FieldType), 1, 1, 0, 1187, 1185, 1186, 79),
  (yX9_init, cX9_init, 1, (none : Option FieldType), 0, 2, 1, 404, 403, 0, 87),
  (yX9_faultOf, cX9_faultOf, 6, (some FieldType.int), 3, 1, 0, 664, 662, 663, 87),
  (yX9_readPart, cX9_readPart, 5, (some FieldType.boolean), 2, 1, 0, 746, 745, 8, 87),
  (yX9_actHere, cX9_actHere, 2, (some FieldType.int), 0, 1, 0, 750, 749, 9, 87),
  (yX9_wordOf, cX9_wordOf, 1, (some (FieldType.object "java/lang/String")), 1, 0, 0, 753, 752, 0, 87),
  (yX9_numberHere, cX9_numberHere, 3, (some FieldType.int), 0, 1, 0, 767, 766, 10, 87),
  (yX9_isMark, cX9_isMark, 3, (some FieldType.boolean), 1, 1, 0, 694, 693, 7, 87),
  (yX9_next, cX9_next, 1, (none : Option FieldType), 0, 1, 0, 676, 675, 3, 87),
  (yX9_byteAt, cX9_byteAt, 2, (some FieldType.int), 1, 1, 0, 680, 679, 4, 87),
  (yX9_isLetter, cX9_isLetter, 2, (some FieldType.boolean), 1, 1, 0, 684, 683, 5, 87),
  (yX9_isDigit, cX9_isDigit, 2, (some FieldType.boolean), 1, 1, 0, 689, 688, 6, 87),
  (yX10_init, cX10_init, 1, (none : Option FieldType), 0, 2, 2, 309, 308, 0, 85),
  (yX10_ask, cX10_ask, 6, (some FieldType.int), 4, 1, 0, 1128, 1126, 1127, 85),
  (yX10_bodyAt, cX10_bodyAt, 2, (some FieldType.int), 1, 1, 0, 1155, 1153, 1154, 85),
  (yX10_say, cX10_say, 7, (some FieldType.int), 4, 1, 0, 1132, 1131, 32, 85),
  (yX10_bodyOf, cX10_bodyOf, 3, (some FieldType.int), 2, 0, 0, 1135, 1134, 0, 85),
  (yX10_workOut, cX10_workOut, 4, (some FieldType.int), 3, 1, 0, 1142, 1141, 33, 85),
  (yX10_shareOut, cX10_shareOut, 3, (some FieldType.int), 1, 1, 0, 1146, 1145, 34, 85),
  (yX11_init, cX11_init, 2, (none : Option FieldType), 0, 2, 234, 102, 101, 0, 78),
  (yX11_piece, cX11_piece, 9, (some FieldType.int), 5, 1, 0, 493, 491, 492, 78),
  (yX11_pieceIs, cX11_pieceIs, 4, (some FieldType.int), 2, 1, 0, 550, 548, 549, 78),
  (yX11_as, cX11_as, 4, (some FieldType.int), 2, 1, 0, 570, 568, 569, 78),
  (yX11_answer, cX11_answer, 4, (some FieldType.int), 2, 1, 0, 583, 581, 582, 78)]
def mInfo_3 : List mE := [
  (yX11_trace, cX11_trace, 7, (some FieldType.int), 3, 1, 0, 609, 607, 608, 78),
  (yX11_reading, cX11_reading, 5, (some FieldType.int), 3, 1, 0, 623, 621, 622, 78),
  (yX11_limit, cX11_limit, 4, (some FieldType.int), 2, 1, 0, 632, 630, 631, 78),
  (yX11_feed, cX11_feed, 5, (some FieldType.int), 2, 1, 0, 648, 646, 647, 78),
  (yX11_program, cX11_program, 4, (some FieldType.int), 1, 1, 0, 656, 654, 655, 78),
  (yX11_run, cX11_run, 5, (some FieldType.int), 2, 1, 0, 780, 778, 779, 78),
  (yX11_ran, cX11_ran, 2, (some FieldType.int), 1, 1, 0, 854, 852, 853, 78),
  (yX11_line, cX11_line, 5, (some FieldType.int), 2, 1, 0, 862, 860, 861, 78),
  (yX11_yields, cX11_yields, 4, (some FieldType.int), 2, 1, 0, 879, 877, 878, 78),
  (yX11_top, cX11_top, 3, (some FieldType.int), 1, 1, 0, 892, 890, 891, 78),
  (yX11_breaks, cX11_breaks, 4, (some FieldType.int), 2, 1, 0, 927, 925, 926, 78),
  (yX11_spent, cX11_spent, 4, (some FieldType.long), 2, 1, 0, 932, 930, 931, 78),
  (yX11_number, cX11_number, 4, (some FieldType.int), 2, 1, 0, 937, 935, 936, 78),
  (yX11_curve, cX11_curve, 5, (some FieldType.int), 3, 1, 0, 944, 942, 943, 78),
  (yX11_odd, cX11_odd, 4, (some FieldType.int), 3, 1, 0, 969, 967, 968, 78),
  (yX11_sure, cX11_sure, 6, (some FieldType.int), 4, 1, 0, 987, 985, 986, 78),
  (yX11_few, cX11_few, 4, (some FieldType.int), 2, 1, 0, 1001, 999, 1000, 78),
  (yX11_prove, cX11_prove, 7, (some FieldType.int), 4, 1, 0, 1005, 1003, 1004, 78),
  (yX11_led, cX11_led, 4, (some FieldType.int), 3, 1, 0, 1017, 1015, 1016, 78),
  (yX11_enter, cX11_enter, 4, (some FieldType.int), 3, 1, 0, 1041, 1039, 1040, 78),
  (yX11_entryIs, cX11_entryIs, 4, (some FieldType.int), 2, 1, 0, 1054, 1052, 1053, 78),
  (yX11_back, cX11_back, 3, (some FieldType.int), 2, 1, 0, 1062, 1060, 1061, 78),
  (yX11_book, cX11_book, 3, (some FieldType.int), 2, 1, 0, 1075, 1073, 1074, 78),
  (yX11_hangs, cX11_hangs, 2, (some FieldType.int), 1, 1, 0, 1083, 1081, 1082, 78),
  (yX11_plates, cX11_plates, 5, (some FieldType.int), 3, 1, 0, 1095, 1093, 1094, 78),
  (yX11_drift, cX11_drift, 5, (some FieldType.int), 1, 1, 0, 1108, 1106, 1107, 78),
  (yX11_voice, cX11_voice, 6, (some FieldType.int), 3, 1, 0, 1124, 1122, 1123, 78),
  (yX11_body, cX11_body, 2, (some FieldType.int), 1, 1, 0, 1151, 1149, 1150, 78),
  (yX11_sheet, cX11_sheet, 5, (some FieldType.int), 3, 1, 0, 1159, 1157, 1158, 78),
  (yX11_put, cX11_put, 5, (some FieldType.int), 3, 1, 0, 1169, 1167, 1168, 78),
  (yX11_move, cX11_move, 8, (some FieldType.int), 5, 1, 0, 1178, 1176, 1177, 78),
  (yX11_image, cX11_image, 1, (some FieldType.int), 0, 1, 0, 1183, 1181, 1182, 78),
  (yX11_restore, cX11_restore, 1, (some FieldType.int), 0, 1, 0, 1209, 1207, 1208, 78),
  (yX11_tell, cX11_tell, 2, (some FieldType.int), 1, 1, 0, 1213, 1211, 1212, 78),
  (yX11_check, cX11_check, 6, (some FieldType.int), 2, 1, 0, 1221, 1219, 1220, 78),
  (yX11_count, cX11_count, 2, (some FieldType.int), 1, 1, 0, 1238, 1236, 1237, 78),
  (yX11_told, cX11_told, 2, (some FieldType.int), 1, 1, 0, 1254, 1252, 1253, 78),
  (yX11_refuse, cX11_refuse, 2, (some FieldType.int), 1, 1, 0, 507, 506, 1, 78),
  (yX11_orNone, cX11_orNone, 2, (some FieldType.int), 1, 1, 0, 888, 887, 22, 78),
  (yX11_sheetAt, cX11_sheetAt, 2, (some (FieldType.object "StrengthHouse$Sheet")), 1, 1, 0, 497, 496, 0, 78)]
def mInfo_4 : List mE := [
  (yX11_orderCurves, cX11_orderCurves, 6, (none : Option FieldType), 2, 1, 0, 948, 947, 26, 78),
  (yX11_orderNumbers, cX11_orderNumbers, 6, (none : Option FieldType), 2, 1, 0, 973, 972, 27, 78),
  (yX11_fewestPlates, cX11_fewestPlates, 7, (some FieldType.int), 3, 1, 0, 1099, 1098, 31, 78),
  (yX11_cutOneMore, cX11_cutOneMore, 4, (some FieldType.int), 3, 0, 0, 1103, 1102, 0, 78),
  (yX11_sumsApart, cX11_sumsApart, 4, (some FieldType.int), 2, 0, 0, 1117, 1116, 0, 78),
  (yX11_firstUnlike, cX11_firstUnlike, 5, (some FieldType.int), 2, 1, 0, 1225, 1224, 35, 78),
  (yX11_within, cX11_within, 3, (some FieldType.boolean), 3, 0, 0, 500, 499, 0, 78),
  (yX11_isLot, cX11_isLot, 1, (some FieldType.boolean), 1, 0, 0, 503, 502, 0, 78),
  (yX11_isLaw, cX11_isLaw, 1, (some FieldType.boolean), 1, 0, 0, 940, 939, 0, 78),
  (yX11_isMeter, cX11_isMeter, 1, (some FieldType.boolean), 1, 0, 0, 1008, 1007, 0, 78),
  (yX11_isStretch, cX11_isStretch, 1, (some FieldType.boolean), 1, 0, 0, 586, 585, 0, 78),
  (yX11_isTenths, cX11_isTenths, 1, (some FieldType.boolean), 1, 0, 0, 990, 989, 0, 78),
  (yX11_straight, cX11_straight, 4, (some FieldType.int), 4, 0, 0, 601, 600, 0, 78),
  (yX12_init, cX12_init, 2, (none : Option FieldType), 0, 2, 18, 1259, 1258, 0, 90),
  (yX12_finding, cX12_finding, 2, (some FieldType.int), 1, 1, 0, 1399, 1398, 36, 90),
  (yX12_within, cX12_within, 3, (some FieldType.boolean), 3, 0, 0, 1391, 1390, 0, 90),
  (yX12_is, cX12_is, 3, (some FieldType.boolean), 2, 1, 0, 1410, 1409, 37, 90),
  (yX12_has, cX12_has, 2, (some FieldType.boolean), 2, 0, 0, 1692, 1691, 0, 90),
  (yX12_bits, cX12_bits, 3, (some FieldType.int), 1, 0, 0, 1699, 1698, 0, 90),
  (yX12_become, cX12_become, 4, (some FieldType.int), 2, 1, 0, 1472, 1471, 46, 90),
  (yX12_of, cX12_of, 3, (some FieldType.int), 2, 1, 0, 1418, 1417, 39, 90),
  (yX12_piece, cX12_piece, 10, (some FieldType.int), 5, 1, 0, 1388, 1386, 1387, 90),
  (yX12_many, cX12_many, 2, (some FieldType.int), 1, 1, 0, 1414, 1413, 38, 90),
  (yX12_stretch, cX12_stretch, 3, (some FieldType.int), 2, 1, 0, 1464, 1463, 45, 90),
  (yX12_load, cX12_load, 3, (some FieldType.int), 2, 1, 0, 1426, 1425, 41, 90),
  (yX12_isGood, cX12_isGood, 3, (some FieldType.boolean), 2, 1, 0, 1422, 1421, 40, 90),
  (yX12_pieceIs, cX12_pieceIs, 5, (some FieldType.int), 2, 1, 0, 1406, 1404, 1405, 90),
  (yX12_above, cX12_above, 1, (some FieldType.int), 1, 0, 0, 1433, 1432, 0, 90),
  (yX12_as, cX12_as, 4, (some FieldType.int), 2, 1, 0, 1430, 1428, 1429, 90),
  (yX12_end, cX12_end, 2, (some FieldType.int), 1, 1, 0, 1446, 1445, 43, 90),
  (yX12_answered, cX12_answered, 7, (some FieldType.int), 2, 1, 0, 1442, 1441, 42, 90),
  (yX12_answer, cX12_answer, 3, (some FieldType.int), 2, 1, 0, 1438, 1436, 1437, 90),
  (yX12_read, cX12_read, 5, (none : Option FieldType), 4, 1, 0, 1456, 1455, 44, 90),
  (yX12_trace, cX12_trace, 7, (some FieldType.int), 3, 1, 0, 1451, 1449, 1450, 90),
  (yX12_reading, cX12_reading, 4, (some FieldType.int), 3, 1, 0, 1460, 1458, 1459, 90),
  (yX12_limit, cX12_limit, 3, (some FieldType.int), 2, 1, 0, 1468, 1466, 1467, 90),
  (yX12_feed, cX12_feed, 5, (some FieldType.int), 2, 1, 0, 1476, 1474, 1475, 90),
  (yX12_isByte, cX12_isByte, 4, (some FieldType.boolean), 3, 1, 0, 1493, 1492, 49, 90),
  (yX12_goOn, cX12_goOn, 3, (none : Option FieldType), 0, 1, 0, 1489, 1488, 48, 90),
  (yX12_takes, cX12_takes, 4, (some FieldType.boolean), 1, 1, 0, 1501, 1500, 51, 90)]
def mInfo_5 : List mE := [
  (yX12_number, cX12_number, 3, (some FieldType.int), 0, 1, 0, 1507, 1506, 52, 90),
  (yX12_part, cX12_part, 3, (none : Option FieldType), 0, 1, 0, 1497, 1496, 50, 90),
  (yX12_isProgram, cX12_isProgram, 2, (some FieldType.boolean), 1, 1, 0, 1485, 1484, 47, 90),
  (yX12_program, cX12_program, 5, (some FieldType.int), 1, 1, 0, 1481, 1479, 1480, 90),
  (yX12_hasProgram, cX12_hasProgram, 2, (some FieldType.boolean), 1, 1, 0, 1518, 1517, 53, 90),
  (yX12_loadNow, cX12_loadNow, 1, (some FieldType.int), 0, 1, 0, 1534, 1533, 57, 90),
  (yX12_tick, cX12_tick, 1, (none : Option FieldType), 0, 1, 0, 1542, 1541, 59, 90),
  (yX12_goesOn, cX12_goesOn, 1, (some FieldType.boolean), 0, 1, 0, 1530, 1529, 56, 90),
  (yX12_takeReading, cX12_takeReading, 4, (none : Option FieldType), 0, 1, 0, 1538, 1537, 58, 90),
  (yX12_does, cX12_does, 5, (none : Option FieldType), 2, 1, 0, 1526, 1525, 55, 90),
  (yX12_goThrough, cX12_goThrough, 6, (some FieldType.int), 2, 1, 0, 1522, 1521, 54, 90),
  (yX12_run, cX12_run, 5, (some FieldType.int), 2, 1, 0, 1514, 1512, 1513, 90),
  (yX12_ran, cX12_ran, 2, (some FieldType.int), 1, 1, 0, 1546, 1544, 1545, 90),
  (yX12_isOn, cX12_isOn, 9, (some FieldType.boolean), 4, 1, 0, 1558, 1557, 61, 90),
  (yX12_findLine, cX12_findLine, 6, (some FieldType.boolean), 1, 1, 0, 1554, 1553, 60, 90),
  (yX12_line, cX12_line, 3, (some FieldType.int), 2, 1, 0, 1550, 1548, 1549, 90),
  (yX12_yieldOf, cX12_yieldOf, 10, (some FieldType.int), 2, 1, 0, 1566, 1565, 62, 90),
  (yX12_yields, cX12_yields, 4, (some FieldType.int), 2, 1, 0, 1562, 1560, 1561, 90),
  (yX12_topOf, cX12_topOf, 4, (some FieldType.int), 1, 1, 0, 1574, 1573, 63, 90),
  (yX12_top, cX12_top, 3, (some FieldType.int), 1, 1, 0, 1570, 1568, 1569, 90),
  (yX12_breakOf, cX12_breakOf, 5, (some FieldType.int), 2, 1, 0, 1582, 1581, 64, 90),
  (yX12_breaks, cX12_breaks, 4, (some FieldType.int), 2, 1, 0, 1578, 1576, 1577, 90),
  (yX12_spentOf, cX12_spentOf, 7, (some FieldType.long), 2, 1, 0, 1591, 1590, 65, 90),
  (yX12_spent, cX12_spent, 3, (some FieldType.long), 2, 1, 0, 1587, 1585, 1586, 90),
  (yX12_numberOf, cX12_numberOf, 5, (some FieldType.int), 2, 1, 0, 1602, 1601, 66, 90),
  (yX12_isLaw, cX12_isLaw, 1, (some FieldType.boolean), 1, 0, 0, 1598, 1597, 0, 90),
  (yX12_number_, cX12_number_, 4, (some FieldType.int), 2, 1, 0, 1595, 1593, 1594, 90),
  (yX12_adds, cX12_adds, 4, (none : Option FieldType), 2, 1, 0, 1619, 1618, 68, 90),
  (yX12_curveOf, cX12_curveOf, 8, (some FieldType.int), 2, 1, 0, 1615, 1614, 67, 90),
  (yX12_isLot, cX12_isLot, 1, (some FieldType.boolean), 1, 0, 0, 1611, 1610, 0, 90),
  (yX12_curve, cX12_curve, 6, (some FieldType.int), 3, 1, 0, 1608, 1606, 1607, 90),
  (yX12_findNumbers, cX12_findNumbers, 5, (none : Option FieldType), 2, 1, 0, 1627, 1626, 69, 90),
  (yX12_odd, cX12_odd, 7, (some FieldType.int), 3, 1, 0, 1623, 1621, 1622, 90),
  (yX12_rankOf, cX12_rankOf, 12, (some FieldType.int), 3, 0, 0, 1637, 1636, 0, 90),
  (yX12_areTenths, cX12_areTenths, 2, (some FieldType.boolean), 2, 0, 0, 1634, 1633, 0, 90),
  (yX12_sure, cX12_sure, 6, (some FieldType.int), 4, 1, 0, 1631, 1629, 1630, 90),
  (yX12_few, cX12_few, 4, (some FieldType.int), 2, 1, 0, 1642, 1640, 1641, 90),
  (yX12_isMeter, cX12_isMeter, 1, (some FieldType.boolean), 1, 0, 0, 1649, 1648, 0, 90),
  (yX12_meter, cX12_meter, 3, (some FieldType.int), 2, 1, 0, 1657, 1656, 70, 90),
  (yX12_prove, cX12_prove, 6, (some FieldType.int), 4, 1, 0, 1646, 1644, 1645, 90)]
def mInfo_6 : List mE := [
  (yX12_ledOf, cX12_ledOf, 6, (some FieldType.int), 2, 1, 0, 1661, 1660, 71, 90),
  (yX12_led, cX12_led, 7, (some FieldType.int), 3, 1, 0, 1653, 1651, 1652, 90),
  (yX12_entry, cX12_entry, 3, (some FieldType.int), 2, 1, 0, 1673, 1672, 72, 90),
  (yX12_enter, cX12_enter, 7, (some FieldType.int), 3, 1, 0, 1665, 1663, 1664, 90),
  (yX12_entryIs, cX12_entryIs, 4, (some FieldType.int), 2, 1, 0, 1669, 1667, 1668, 90),
  (yX12_back, cX12_back, 4, (some FieldType.int), 2, 1, 0, 1677, 1675, 1676, 90),
  (yX12_book, cX12_book, 5, (some FieldType.int), 2, 1, 0, 1681, 1679, 1680, 90),
  (yX12_hangs, cX12_hangs, 5, (some FieldType.int), 1, 1, 0, 1685, 1683, 1684, 90),
  (yX12_plates, cX12_plates, 13, (some FieldType.int), 3, 1, 0, 1689, 1687, 1688, 90),
  (yX12_drift, cX12_drift, 7, (some FieldType.int), 1, 1, 0, 1696, 1694, 1695, 90),
  (yX12_began, cX12_began, 2, (none : Option FieldType), 1, 1, 0, 1723, 1722, 76, 90),
  (yX12_hasOwn, cX12_hasOwn, 2, (some FieldType.boolean), 2, 0, 0, 1715, 1714, 0, 90),
  (yX12_voiced, cX12_voiced, 3, (some FieldType.int), 2, 1, 0, 1708, 1707, 73, 90),
  (yX12_bodyFrom, cX12_bodyFrom, 5, (some FieldType.int), 3, 1, 0, 1712, 1711, 74, 90),
  (yX12_body, cX12_body, 6, (some FieldType.int), 3, 1, 0, 1719, 1718, 75, 90),
  (yX12_voice, cX12_voice, 5, (some FieldType.int), 3, 1, 0, 1704, 1702, 1703, 90),
  (yX12_body_, cX12_body_, 2, (some FieldType.int), 1, 1, 0, 1728, 1726, 1727, 90),
  (yX12_isSheet, cX12_isSheet, 1, (some FieldType.boolean), 1, 0, 0, 1394, 1393, 0, 90),
  (yX12_sheet, cX12_sheet, 5, (some FieldType.int), 3, 1, 0, 1732, 1730, 1731, 90),
  (yX12_put, cX12_put, 4, (some FieldType.int), 3, 1, 0, 1736, 1734, 1735, 90),
  (yX12_move, cX12_move, 7, (some FieldType.int), 5, 1, 0, 1740, 1738, 1739, 90),
  (yX12_copy, cX12_copy, 3, (none : Option FieldType), 2, 0, 0, 1747, 1746, 0, 90),
  (yX12_image, cX12_image, 1, (some FieldType.int), 0, 1, 0, 1744, 1742, 1743, 90),
  (yX12_restore, cX12_restore, 1, (some FieldType.int), 0, 1, 0, 1751, 1749, 1750, 90),
  (yX12_tell, cX12_tell, 2, (some FieldType.int), 1, 1, 0, 1755, 1753, 1754, 90),
  (yX12_check, cX12_check, 6, (some FieldType.int), 2, 1, 0, 1759, 1757, 1758, 90),
  (yX12_count, cX12_count, 4, (some FieldType.int), 1, 1, 0, 1763, 1761, 1762, 90),
  (yX12_told, cX12_told, 2, (some FieldType.int), 1, 1, 0, 1767, 1765, 1766, 90),
  (yJ6_bitCount_0f7a4, cJ6_bitCount_0f7a4, 1, (some FieldType.int), 1, 0, 0, 1111, 1110, 0, 97),
  (yJ9_floorMod_7cf53, cJ9_floorMod_7cf53, 3, (some FieldType.int), 2, 0, 0, 832, 831, 0, 91),
  (yJ9_abs_0f7a4, cJ9_abs_0f7a4, 1, (some FieldType.int), 1, 0, 0, 1120, 1119, 0, 91),
  (yJ9_max_7cf53, cJ9_max_7cf53, 2, (some FieldType.int), 2, 0, 0, 605, 604, 0, 91),
  (yJ9_min_7cf53, cJ9_min_7cf53, 2, (some FieldType.int), 2, 0, 0, 667, 666, 0, 91),
  (yJ9_min_f86c9, cJ9_min_f86c9, 4, (some FieldType.long), 2, 0, 0, 923, 922, 0, 91),
  (yJ0_length_8abf5, cJ0_length_8abf5, 1, (some FieldType.int), 0, 1, 0, 698, 696, 697, 92),
  (yJ0_charAt_5068e, cJ0_charAt_5068e, 2, (some FieldType.char), 1, 1, 0, 708, 706, 707, 92),
  (yJ0_coder_7d493, cJ0_coder_7d493, 1, (some FieldType.byte), 0, 1, 0, 702, 700, 701, 92),
  (yJ0_isLatin1_aae02, cJ0_isLatin1_aae02, 1, (some FieldType.boolean), 0, 1, 0, 712, 710, 711, 92),
  (yJ0_checkIndex_df160, cJ0_checkIndex_df160, 2, (none : Option FieldType), 2, 0, 0, 718, 717, 0, 92),
  (yJ1_charAt_3b067, cJ1_charAt_3b067, 2, (some FieldType.char), 2, 0, 0, 715, 714, 0, 93)]
def mInfo_7 : List mE := [
  (yJ3_checkIndex_8e157, cJ3_checkIndex_8e157, 3, (some FieldType.int), 3, 0, 0, 723, 722, 0, 94),
  (x, code, 4, ret, 1, 0, 254, 0, 0, 0, 77)]
def mInfo : List mE := mInfo_0 ++ (mInfo_1 ++ (mInfo_2 ++ (mInfo_3 ++ (mInfo_4 ++ (mInfo_5 ++ (mInfo_6 ++ (mInfo_7)))))))
def mDef : mE := (x, code, 4, ret, 1, 0, 254, 0, 0, 0, 77)
def mI (k : Nat) : mE := mInfo.getD k mDef
def mY (k : Nat) : MethodName := (mI k).1
def mB (k : Nat) : ByteArray := (mI k).2.1
def mL (k : Nat) : Nat := (mI k).2.2.1
def mR (k : Nat) : Option FieldType := (mI k).2.2.2.1
def mN (k : Nat) : Nat := (mI k).2.2.2.2.1
def mK (k : Nat) : Nat := (mI k).2.2.2.2.2.1
def alc (k : Nat) : Nat := (mI k).2.2.2.2.2.2.1
def mHc (k : Nat) : Nat := (mI k).2.2.2.2.2.2.2.1
def mHk (k : Nat) : Nat := (mI k).2.2.2.2.2.2.2.2.1
def mHs (k : Nat) : Nat := (mI k).2.2.2.2.2.2.2.2.2.1
def mHi (k : Nat) : Nat := (mI k).2.2.2.2.2.2.2.2.2.2
def layT : List (List (Nat × Nat)) := [[(11, 11), (8, 12), (205, 14), (206, 4), (100, 5), (101, 64), (100, 4), (2, 4), (100, 6), (100, 6), (100, 6), (100, 6), (0, 7), (100, 20), (100, 20), (100, 20)],
  [(100, 20), (100, 20), (100, 20), (100, 48), (4, 6), (100, 12), (6, 6), (100, 24), (100, 24), (4, 6), (100, 12), (6, 6), (100, 24), (100, 24), (4, 6), (100, 12)],
  [(6, 6), (100, 24), (100, 24), (4, 6), (100, 12), (6, 6), (100, 24), (100, 24), (4, 6), (100, 12), (6, 6), (100, 24), (100, 24), (4, 6), (100, 12), (6, 6)],
  [(100, 24), (100, 24), (4, 6), (100, 12), (6, 6), (100, 24), (100, 24), (4, 6), (100, 12), (6, 6), (100, 24), (100, 24), (4, 6), (100, 12), (6, 6), (100, 24)],
  [(100, 24), (4, 6), (100, 12), (6, 6), (100, 24), (100, 24), (4, 6), (100, 12), (6, 6), (100, 24), (100, 24), (4, 6), (100, 12), (6, 6), (100, 24), (100, 24)],
  [(4, 6), (100, 12), (6, 6), (100, 24), (100, 24), (4, 6), (100, 12), (6, 6), (100, 24), (100, 24), (5, 5), (100, 32), (100, 32), (5, 5), (100, 32), (100, 32)],
  [(5, 5), (100, 32), (100, 32), (5, 5), (100, 32), (100, 32), (8, 12), (205, 14), (206, 4), (100, 5), (101, 64), (100, 4), (2, 4), (100, 6), (100, 6), (100, 6)],
  [(100, 6), (0, 7), (100, 20), (100, 20), (100, 20), (100, 20), (100, 20), (100, 20), (100, 48), (4, 6), (100, 12), (6, 6), (100, 24), (100, 24), (4, 6), (100, 12)],
  [(6, 6), (100, 24), (100, 24), (4, 6), (100, 12), (6, 6), (100, 24), (100, 24), (4, 6), (100, 12), (6, 6), (100, 24), (100, 24), (4, 6), (100, 12), (6, 6)],
  [(100, 24), (100, 24), (4, 6), (100, 12), (6, 6), (100, 24), (100, 24), (4, 6), (100, 12), (6, 6), (100, 24), (100, 24), (4, 6), (100, 12), (6, 6), (100, 24)],
  [(100, 24), (4, 6), (100, 12), (6, 6), (100, 24), (100, 24), (4, 6), (100, 12), (6, 6), (100, 24), (100, 24), (4, 6), (100, 12), (6, 6), (100, 24), (100, 24)],
  [(4, 6), (100, 12), (6, 6), (100, 24), (100, 24), (4, 6), (100, 12), (6, 6), (100, 24), (100, 24), (4, 6), (100, 12), (6, 6), (100, 24), (100, 24), (5, 5)],
  [(100, 32), (100, 32), (5, 5), (100, 32), (100, 32), (5, 5), (100, 32), (100, 32), (5, 5), (100, 32), (100, 32), (100, 7), (208, 4), (10, 8), (100, 30), (100, 30)],
  [(1, 15), (100, 6), (6, 6), (100, 24), (100, 24), (4, 6), (100, 12), (6, 6), (100, 24), (100, 24), (9, 4), (101, 0), (5, 5), (100, 32), (100, 32), (3, 3)],
  [(100, 14), (100, 14), (100, 1024), (7, 3), (100, 24), (7, 3), (100, 24), (7, 3), (100, 24), (7, 3), (100, 24), (12, 38), (100, 1340), (100, 1340), (100, 7), (100, 5)],
  [(299, 6), (100, 36), (100, 8), (100, 24), (100, 24), (100, 14), (100, 14), (100, 1024), (100, 1024), (100, 30), (100, 4), (100, 4), (100, 96), (100, 24)]]
def layG : List (List (Nat × Nat)) → Nat → List (Nat × Nat)
  | [], _ => []
  | c :: _, 0 => c
  | _ :: t, i + 1 => layG t i
def layH : List (Nat × Nat) → Nat → Nat × Nat
  | [], _ => (999, 0)
  | c :: _, 0 => c
  | _ :: t, i + 1 => layH t i
def lay (k : Nat) : Nat × Nat := layH (layG layT (k / 16)) (k % 16)
abbrev NP : Nat := 254
abbrev NX : Nat := 235
def frT : List (List Bool) := [[true, true, true, true, true, true, false], [true, true, true, false, false, false, false, false, false, false, false, false, false, false, false], [true, true, true, true], [true, true, false], [false, false, false, true, false, true], [false, true, true, false, false], [true, true, false, false, false, false], [false, false, true], [true, false, true, true, true, false, true, false, true, true, true, false], [true, false, false, false], [true, false, true, false, false, false, false, false], [true, true, false, true, true, true, true, true, true, true, true], [true, true, false, true, true, true, false, false, false, false, true, false, false, false, false, false, false, false, false, true, true, true, false, false, false, true, true, false, true, true, true, false, false, false, true, true, true, true]]
def frf (c j : Nat) : Bool := (frT.getD c []).getD j false
def strL : List Nat := [4, 2, 4, 4, 4, 4, 4, 1, 1, 2, 4, 4, 4, 4, 4, 1, 1, 4]
def strB : List (List Int) := [[108, 97, 115, 116], [103, 111], [108, 111, 97, 100], [104, 111, 108, 100], [98, 97, 99, 107], [114, 101, 97, 100], [116, 105, 108, 108], [44], [59], [103, 111], [108, 111, 97, 100], [104, 111, 108, 100], [98, 97, 99, 107], [114, 101, 97, 100], [116, 105, 108, 108], [44], [59], [108, 97, 115, 116]]
def strO : List (String × Nat × String × Nat) := [("StrengthHouse$TextReader", 42, "last", 690), ("StrengthHouse$TextReader", 71, "go", 754), ("StrengthHouse$TextReader", 73, "load", 755), ("StrengthHouse$TextReader", 75, "hold", 756), ("StrengthHouse$TextReader", 77, "back", 757), ("StrengthHouse$TextReader", 79, "read", 758), ("StrengthHouse$TextReader", 81, "till", 759), ("StrengthHouse$TextReader", 52, ",", 768), ("StrengthHouse$TextReader", 54, ";", 769), ("StrengthHouseModel", 25, "go", 1264), ("StrengthHouseModel", 27, "load", 1265), ("StrengthHouseModel", 29, "hold", 1266), ("StrengthHouseModel", 31, "back", 1267), ("StrengthHouseModel", 33, "read", 1268), ("StrengthHouseModel", 35, "till", 1269), ("StrengthHouseModel", 180, ",", 1508), ("StrengthHouseModel", 182, ";", 1509), ("StrengthHouseModel", 184, "last", 1510)]
def aboveT : List Int := [-1, 0, 0, 1, 0, 2]
def bodiesT : List Int := [10, 11, 12, 13, 0, 20, 21, 0, 30, 0, 0, 31, 40, 0, 41, 0, 0, 0, 50, 0, 0, 60, 0, 61]
end
section
/-! the machine's state seen as a state of the walking machine; what a stretch of code does, what a call does. Own work. -/
/-- launch, the first new cell, the tables' numbers, the classes of rows, the addresses of what was there before, the script's length and numbers, the one value of which nothing is known -/
abbrev pG : Type := Launch × Nat × va_G × (Nat → ClassId) × (Nat → Nat) × Nat × (Nat → Int32) × pV
abbrev gL (G : pG) : Launch := G.1
abbrev gH (G : pG) : Nat := G.2.1
abbrev gD (G : pG) : va_G := G.2.2.1
abbrev gC (G : pG) : Nat → ClassId := G.2.2.2.1
abbrev gA (G : pG) : Nat → Nat := G.2.2.2.2.1
abbrev gN (G : pG) : Nat := G.2.2.2.2.2.1
abbrev gX (G : pG) : Nat → Int32 := G.2.2.2.2.2.2.1
abbrev gS (G : pG) : pV := G.2.2.2.2.2.2.2
def ad (G : pG) (k : Nat) : Nat := if k < EXT then gH G + k else gA G (k - EXT)
def tr (G : pG) : pV → Value
  | .inl none => .null
  | .inl (some k) => .ref (ad G k)
  | .inr (.inl z) => .int (Int32.ofInt z)
  | .inr (.inr z) => .long (Int64.ofInt z)
def tyA (t : Nat) : FieldType := if t = 100 then .int else if t = 101 then .byte else if t = 205 then .object RX5 else if t = 206 then .object RX6 else if t = 208 then .object RX8 else .object RJ0
def kinds : List Nat := [100, 101, 205, 206, 208, 299]
def fV (G : pG) (F : pF) (I : pI) (k c j : Nat) : Value := if frf c j = true then va_rf ((F k j).map (ad G)) else .int (Int32.ofInt (I k j))
def cE (G : pG) (F : pF) (I : pI) (k : Nat) : va_E :=
  if (lay k).1 < 100 then .inr ((lay k).1, (List.range (lay k).2).map (fV G F I k (lay k).1))
  else if (lay k).1 < 200 then .inl (gC G (lay k).1, ((lay k).2, .inl (fun j => Int32.ofInt (I k j))))
  else .inl (gC G (lay k).1, ((lay k).2, .inr (.inr (.inr (.inr (fun j => (F k j).map (ad G)))))))
def wL (G : pG) (n : Nat) (F : pF) (I : pI) : va_W := (List.range n).map (fun k => (gH G + k, cE G F I k))
def A0 (G : pG) : Nat → Prop := fun q => gH G ≤ q
def Wd (G : pG) (n : Nat) (F : pF) (I : pI) (H : Heap) : Prop :=
  H.size = gH G + n ∧ va_P (gD G) vwCl (wL G n F I) H ∧ n ≤ EXT ∧ (∀ k j, iR (I k j)) ∧ ∀ k, (lay k).1 = 101 → ∀ j, -128 ≤ I k j ∧ I k j ≤ 127
def isNest : Jvm.Cond → Bool
  | .fieldLinkNest .. => true
  | .methodLinkNest .. => true
  | _ => false
/-- the texts -/
def KT (G : pG) (s : State) (H : Heap) : Prop := ∀ i, i < 18 →
  va_O "java/lang/String" (ad G (EXT + 10 + i)) (A0 G) s H ∧ va_OF "java/lang/String" "coder" "B" (.int 0) (ad G (EXT + 10 + i)) (A0 G) s H ∧ va_OF "java/lang/String" "value" "[B" (.ref (ad G (EXT + 40 + i))) (ad G (EXT + 10 + i)) (A0 G) s H ∧
  va_T .byte (ad G (EXT + 40 + i)) (strL.getD i 0) (fun j => .int (Int32.ofInt ((strB.getD i []).getD j 0))) (A0 G) s H ∧ vk_R (strO.getD i ("", 0, "", 0)).1 (strO.getD i ("", 0, "", 0)).2.1 (strO.getD i ("", 0, "", 0)).2.2.1 (ad G (EXT + 10 + i)) s
/-- what was there before: the script, the classes' own rows, the texts -/
def KX (G : pG) (s : State) (H : Heap) : Prop :=
  (va_X (ad G EXT) (gN G) (gX G) s H ∧ ad G EXT < gH G) ∧
  (va_T .int (ad G (EXT + 1)) 6 (fun j => .int (Int32.ofInt (aboveT.getD j 0))) (A0 G) s H ∧ va_Z "StrengthHouse$Piece" "ABOVE" "[I" (.ref (ad G (EXT + 1))) (A0 G) s H) ∧
  (va_T .int (ad G (EXT + 2)) 24 (fun j => .int (Int32.ofInt (bodiesT.getD j 0))) (A0 G) s H ∧ va_Z "StrengthHouse$Voices" "BODIES" "[I" (.ref (ad G (EXT + 2))) (A0 G) s H) ∧
  va_Z "java/lang/String" "COMPACT_STRINGS" "Z" (.int 1) (A0 G) s H ∧
  va_Z "jdk/internal/util/Preconditions" "SIOOBE_FORMATTER" "Ljava/util/function/BiFunction;" (tr G (gS G)) (A0 G) s H ∧
  KT G s H ∧
  (∀ (c : Nat) (q : vw_C), vwCl[c]? = some q → u_Kn s q.1 q.2.1 q.2.2 ((gD G).1 c) ((gD G).2 c)) ∧
  (∀ t, t ∈ kinds → ArrOfT s (gC G t) (tyA t) ∧ va_RA s (gC G t) (tyA t)) ∧
  (∀ w, w ∈ lw_tbl → isNest w = true → va_Nw w s) ∧
  (va_AO RX5 s ∧ va_AO RX6 s ∧ va_AO RX8 s ∧ va_AO RJ0 s) ∧ (gS G = .inl none ∨ gS G = .inl (some (EXT + 4)))
def sz (n : Nat) : Nat := ((List.range n).map (fun k => (lay k).2)).sum
def Rm (d k n0 : Nat) : Room := { frames := d, cells := alc k, slots := sz (n0 + alc k) - sz n0, locals := 64 * d }
def goods : List Jvm.Cond := lw_tbl.filter goodWord
def mW (k : Nat) : List Jvm.Cond := .code (mY k) (mB k) (mL k) (mR k) :: goods
def Qc (G : pG) (n : Nat) (Q : Option pV → pF → pI → Prop) : Array Value → State → Outcome → State → Prop := fun _ _ o t =>
  ∃ (r : Option pV) (F : pF) (I : pI), o = .returned (r.map (tr G)) ∧ Q r F I ∧ Wd G n F I t.heap ∧ (∀ v, r = some v → okV v)
def Pc (G : pG) (as : List pV) (n : Nat) (F : pF) (I : pI) : Array Value → State → Prop := fun v U =>
  v = (as.map (tr G)).toArray ∧ KX G U U.heap ∧ Wd G n F I U.heap
/-- a call of method k -/
def Call (G : pG) (d k : Nat) (as : List pV) (n : Nat) (F : pF) (I : pI) (Q : Option pV → pF → pI → Prop) : Prop :=
  (∀ v ∈ as, okV v) → Met (gL G) (mY k) (mW k) (Rm d k n) (Pc G as n F I) (fun a st o t => Qc G (n + alc k) Q a st o t ∧ va_F (A0 G) st t) (alc k) (sz (n + alc k) - sz n) (A0 G)
/-- where a method stands -/
def Ct (G : pG) (d k n0 n : Nat) (F : pF) (I : pI) (p : Program) (e : Env) (s : State) (m : MethodId) (args : Array Value) (meth : Method) (c : Code) (H : Heap) (locs : List Loc) : Prop :=
  p.tables.exec = Jvm.exec ∧ c.code = mB k ∧ meth.sig.returnType = mR k ∧ meth.locks = false ∧ c.maxLocals = mL k ∧ s.vm.findClass (mY k).cls = some m.cls ∧
  (∀ w ∈ goods, w.before args s = true) ∧ (mK k = 2 → meth.name = "<init>") ∧ KX G s s.heap ∧ s.heap.size = gH G + n0 ∧ n0 ≤ n ∧ n ≤ n0 + alc k ∧ Wd G n F I H ∧ va_S (A0 G) s.heap H locs
def Hs (G : pG) (k : Nat) (ls : Array Slot) (lv : List (Option pV)) : Prop :=
  ls.size = mL k ∧ lv_wf ls ∧ lv.length = mL k ∧ ∀ (i : Nat) (v : pV), lv[i]? = some (some v) → okV v ∧ ls[i]? = some (Slot.val (tr G v))
/-- from here the method comes to its end with Q -/
def Go (G : pG) (d k n0 n pc : Nat) (lv : List (Option pV)) (st : List pV) (F : pF) (I : pI) (Q : Option pV → pF → pI → Prop) : Prop :=
  ∀ (p : Program) (e : Env) (s : State) (m : MethodId) (args : Array Value) (below : List Frame) (meth : Method) (c : Code) (H : Heap) (locs : List Loc) (ls : Array Slot),
    Ct G d k n0 n F I p e s m args meth c H locs → Hs G k ls lv → (∀ v ∈ st, okV v) →
    W p (gL G) e (Rm d k n0) s m args below meth c H locs (n - n0) (sz n - sz n0) (MQ below (fun a st o t => Qc G (n0 + alc k) Q a st o t ∧ va_F (A0 G) st t) args s (alc k) (sz (n0 + alc k) - sz n0) (A0 G)) (F0 m pc ls (st.map (tr G)))
end
section
/-! one instruction, many instructions, as propositions. Own work. -/
def stp (G : pG) (d k n0 : Nat) (e : pE) (lv : List (Option pV)) (st : List pV) (n : Nat) (F : pF) (I : pI) (Q : Option pV → pF → pI → Prop) (K : Nat → List (Option pV) → List pV → Nat → pF → pI → Prop) : Prop :=
  match e with
  | (ins, nx, a, b, _, f, z, v, sw) =>
  match ins with
  | .iconst _ => K nx lv (v :: st) n F I
  | .bipush _ => K nx lv (v :: st) n F I
  | .sipush _ => K nx lv (v :: st) n F I
  | .lconst _ => K nx lv (v :: st) n F I
  | .ldc _ => K nx lv (v :: st) n F I
  | .ldc_w _ => K nx lv (v :: st) n F I
  | .ldc2_w _ => K nx lv (v :: st) n F I
  | .aconst_null => K nx lv (.inl none :: st) n F I
  | .iload_n _ => (match lg lv a with | some (.inr (.inl x)) => K nx lv (.inr (.inl x) :: st) n F I | _ => False)
  | .iload _ => (match lg lv a with | some (.inr (.inl x)) => K nx lv (.inr (.inl x) :: st) n F I | _ => False)
  | .lload_n _ => (match lg lv a with | some (.inr (.inr x)) => K nx lv (.inr (.inr x) :: st) n F I | _ => False)
  | .lload _ => (match lg lv a with | some (.inr (.inr x)) => K nx lv (.inr (.inr x) :: st) n F I | _ => False)
  | .aload_n _ => (match lg lv a with | some (.inl x) => K nx lv (.inl x :: st) n F I | _ => False)
  | .aload _ => (match lg lv a with | some (.inl x) => K nx lv (.inl x :: st) n F I | _ => False)
  | .istore_n _ => (match st with | .inr (.inl x) :: r => ls1 lv a (.inr (.inl x)) (fun lv' => K nx lv' r n F I) | _ => False)
  | .istore _ => (match st with | .inr (.inl x) :: r => ls1 lv a (.inr (.inl x)) (fun lv' => K nx lv' r n F I) | _ => False)
  | .astore_n _ => (match st with | .inl x :: r => ls1 lv a (.inl x) (fun lv' => K nx lv' r n F I) | _ => False)
  | .astore _ => (match st with | .inl x :: r => ls1 lv a (.inl x) (fun lv' => K nx lv' r n F I) | _ => False)
  | .lstore_n _ => (match st with | .inr (.inr x) :: r => ls2 lv a (.inr (.inr x)) (fun lv' => K nx lv' r n F I) | _ => False)
  | .lstore _ => (match st with | .inr (.inr x) :: r => ls2 lv a (.inr (.inr x)) (fun lv' => K nx lv' r n F I) | _ => False)
  | .iinc _ _ => (match lg lv a with | some (.inr (.inl x)) => (match v with | .inr (.inl c) => ls1 lv a (.inr (.inl (wr (x + c)))) (fun lv' => K nx lv' st n F I) | _ => False) | _ => False)
  | .iadd => (match st with | .inr (.inl y) :: .inr (.inl x) :: r => K nx lv (.inr (.inl (wr (x + y))) :: r) n F I | _ => False)
  | .isub => (match st with | .inr (.inl y) :: .inr (.inl x) :: r => K nx lv (.inr (.inl (wr (x - y))) :: r) n F I | _ => False)
  | .imul => (match st with | .inr (.inl y) :: .inr (.inl x) :: r => K nx lv (.inr (.inl (wr (x * y))) :: r) n F I | _ => False)
  | .ineg => (match st with | .inr (.inl x) :: r => K nx lv (.inr (.inl (wr (- x))) :: r) n F I | _ => False)
  | .idiv => (match st with | .inr (.inl y) :: .inr (.inl x) :: r => y ≠ 0 ∧ K nx lv (.inr (.inl (wr (x.tdiv y))) :: r) n F I | _ => False)
  | .irem => (match st with | .inr (.inl y) :: .inr (.inl x) :: r => y ≠ 0 ∧ K nx lv (.inr (.inl (x.tmod y)) :: r) n F I | _ => False)
  | .iand => (match st with | .inr (.inl y) :: .inr (.inl x) :: r => K nx lv (.inr (.inl (bI x y)) :: r) n F I | _ => False)
  | .ior => (match st with | .inr (.inl y) :: .inr (.inl x) :: r => K nx lv (.inr (.inl (oI x y)) :: r) n F I | _ => False)
  | .ixor => (match st with | .inr (.inl y) :: .inr (.inl x) :: r => K nx lv (.inr (.inl (xI x y)) :: r) n F I | _ => False)
  | .ishl => (match st with | .inr (.inl y) :: .inr (.inl x) :: r => K nx lv (.inr (.inl (slI x y)) :: r) n F I | _ => False)
  | .ishr => (match st with | .inr (.inl y) :: .inr (.inl x) :: r => K nx lv (.inr (.inl (srI x y)) :: r) n F I | _ => False)
  | .iushr => (match st with | .inr (.inl y) :: .inr (.inl x) :: r => K nx lv (.inr (.inl (suI x y)) :: r) n F I | _ => False)
  | .ladd => (match st with | .inr (.inr y) :: .inr (.inr x) :: r => K nx lv (.inr (.inr (wl (x + y))) :: r) n F I | _ => False)
  | .lsub => (match st with | .inr (.inr y) :: .inr (.inr x) :: r => K nx lv (.inr (.inr (wl (x - y))) :: r) n F I | _ => False)
  | .lmul => (match st with | .inr (.inr y) :: .inr (.inr x) :: r => K nx lv (.inr (.inr (wl (x * y))) :: r) n F I | _ => False)
  | .lneg => (match st with | .inr (.inr x) :: r => K nx lv (.inr (.inr (wl (- x))) :: r) n F I | _ => False)
  | .ldiv => (match st with | .inr (.inr y) :: .inr (.inr x) :: r => y ≠ 0 ∧ K nx lv (.inr (.inr (wl (x.tdiv y))) :: r) n F I | _ => False)
  | .land => (match st with | .inr (.inr y) :: .inr (.inr x) :: r => K nx lv (.inr (.inr (bL x y)) :: r) n F I | _ => False)
  | .lor => (match st with | .inr (.inr y) :: .inr (.inr x) :: r => K nx lv (.inr (.inr (oL x y)) :: r) n F I | _ => False)
  | .lshl => (match st with | .inr (.inl y) :: .inr (.inr x) :: r => K nx lv (.inr (.inr (slL x y)) :: r) n F I | _ => False)
  | .lshr => (match st with | .inr (.inl y) :: .inr (.inr x) :: r => K nx lv (.inr (.inr (srL x y)) :: r) n F I | _ => False)
  | .lcmp => (match st with | .inr (.inr y) :: .inr (.inr x) :: r => K nx lv (.inr (.inl (lcm x y)) :: r) n F I | _ => False)
  | .i2l => (match st with | .inr (.inl x) :: r => K nx lv (.inr (.inr x) :: r) n F I | _ => False)
  | .l2i => (match st with | .inr (.inr x) :: r => K nx lv (.inr (.inl (wr x)) :: r) n F I | _ => False)
  | .i2b => (match st with | .inr (.inl x) :: r => K nx lv (.inr (.inl (wb x)) :: r) n F I | _ => False)
  | .i2s => (match st with | .inr (.inl x) :: r => K nx lv (.inr (.inl (wsh x)) :: r) n F I | _ => False)
  | .i2c => (match st with | .inr (.inl x) :: r => K nx lv (.inr (.inl (x % 65536)) :: r) n F I | _ => False)
  | .dup => (match st with | .inr (.inl x) :: r => K nx lv (.inr (.inl x) :: .inr (.inl x) :: r) n F I | .inl x :: r => K nx lv (.inl x :: .inl x :: r) n F I | _ => False)
  | .dup2 => (match st with | .inr (.inl x) :: .inl y :: r => K nx lv (.inr (.inl x) :: .inl y :: .inr (.inl x) :: .inl y :: r) n F I | _ => False)
  | .pop => (match st with | .inr (.inl _) :: r => K nx lv r n F I | .inl _ :: r => K nx lv r n F I | _ => False)
  | .goto _ => K a lv st n F I
  | .if_icmp c _ => (match st with | .inr (.inl y) :: .inr (.inl x) :: r => br c x y (K a lv r n F I) (K nx lv r n F I) | _ => False)
  | .ifCond c _ => (match st with | .inr (.inl x) :: r => br c x 0 (K a lv r n F I) (K nx lv r n F I) | _ => False)
  | .ifnull _ => (match st with | .inl none :: r => K a lv r n F I | .inl (some _) :: r => K nx lv r n F I | _ => False)
  | .ifnonnull _ => (match st with | .inl none :: r => K nx lv r n F I | .inl (some _) :: r => K a lv r n F I | _ => False)
  | .tableswitch _ _ _ _ => (match st with | .inr (.inl x) :: r => swp x a (fun t => K t lv r n F I) sw | _ => False)
  | .lookupswitch _ _ => (match st with | .inr (.inl x) :: r => swp x a (fun t => K t lv r n F I) sw | _ => False)
  | .getstatic _ => (match a with | 4 => K nx lv (gS G :: st) n F I | _ => K nx lv (v :: st) n F I)
  | .getfield _ => (match st with
    | .inl (some q) :: r => (match f with
      | 6 => ∃ i, i < 18 ∧ q = EXT + 10 + i ∧ K nx lv (.inl (some (q + 30)) :: r) n F I
      | 7 => ∃ i, i < 18 ∧ q = EXT + 10 + i ∧ K nx lv (.inr (.inl 0) :: r) n F I
      | 4 => ∃ m, lay q = (a, m) ∧ q < n ∧ ∀ w, F q b = w → K nx lv (.inl w :: r) n F I
      | 5 => ∃ m, lay q = (a, m) ∧ q < n ∧ ∀ w, F q b = w → K nx lv (.inl w :: r) n F I
      | _ => ∃ m, lay q = (a, m) ∧ q < n ∧ K nx lv (.inr (.inl (I q b)) :: r) n F I)
    | _ => False)
  | .putfield _ => (match st with
    | .inr (.inl x) :: .inl (some q) :: r => (match f with
      | 2 => ∃ m, lay q = (a, m) ∧ q < n ∧ (x = 0 ∨ x = 1) ∧ K nx lv r n F (uI I q b x)
      | 3 => ∃ m, lay q = (a, m) ∧ q < n ∧ (x = 0 ∨ x = 1) ∧ K nx lv r n F (uI I q b x)
      | 0 => ∃ m, lay q = (a, m) ∧ q < n ∧ K nx lv r n F (uI I q b x)
      | 1 => ∃ m, lay q = (a, m) ∧ q < n ∧ K nx lv r n F (uI I q b x)
      | _ => False)
    | .inl w :: .inl (some q) :: r => (match f with
      | 4 => ∃ m, lay q = (a, m) ∧ q < n ∧ K nx lv r n (uF F q b w) I
      | 14 => ∃ m, lay q = (a, m) ∧ q < n ∧ K nx lv r n (uF F q b w) I
      | _ => False)
    | _ => False)
  | .iaload => (match st with
    | .inr (.inl i) :: .inl (some q) :: r => (match f with
      | 0 => ∃ m, lay q = (100, m) ∧ q < n ∧ 0 ≤ i ∧ i < (m : Int) ∧ K nx lv (.inr (.inl (I q i.toNat)) :: r) n F I
      | 1 => q = EXT ∧ 0 ≤ i ∧ i < (gN G : Int) ∧ K nx lv (.inr (.inl (gX G i.toNat).toInt) :: r) n F I
      | _ => (q = EXT + 1 ∧ 0 ≤ i ∧ i < 6 ∧ K nx lv (.inr (.inl (aboveT.getD i.toNat 0)) :: r) n F I) ∨ (q = EXT + 2 ∧ 0 ≤ i ∧ i < 24 ∧ K nx lv (.inr (.inl (bodiesT.getD i.toNat 0)) :: r) n F I))
    | _ => False)
  | .baload => (match st with
    | .inr (.inl i) :: .inl (some q) :: r => (match f with
      | 0 => ∃ m, lay q = (101, m) ∧ q < n ∧ 0 ≤ i ∧ i < (m : Int) ∧ K nx lv (.inr (.inl (I q i.toNat)) :: r) n F I
      | _ => ∃ j, j < 18 ∧ q = EXT + 40 + j ∧ 0 ≤ i ∧ i < (strL.getD j 0 : Int) ∧ K nx lv (.inr (.inl ((strB.getD j []).getD i.toNat 0)) :: r) n F I)
    | _ => False)
  | .aaload => (match st with
    | .inr (.inl i) :: .inl (some q) :: r => ∃ t m, t ∈ [205, 206, 208, 299] ∧ lay q = (t, m) ∧ q < n ∧ 0 ≤ i ∧ i < (m : Int) ∧ ∀ w, F q i.toNat = w → K nx lv (.inl w :: r) n F I
    | _ => False)
  | .iastore => (match st with
    | .inr (.inl x) :: .inr (.inl i) :: .inl (some q) :: r => ∃ m, lay q = (100, m) ∧ q < n ∧ 0 ≤ i ∧ i < (m : Int) ∧ K nx lv r n F (uI I q i.toNat x)
    | _ => False)
  | .bastore => (match st with
    | .inr (.inl x) :: .inr (.inl i) :: .inl (some q) :: r => ∃ m, lay q = (101, m) ∧ q < n ∧ 0 ≤ i ∧ i < (m : Int) ∧ K nx lv r n F (uI I q i.toNat (wb x))
    | _ => False)
  | .aastore => (match st with
    | .inl (some y) :: .inr (.inl i) :: .inl (some q) :: r => ∃ t m, lay q = (t, m) ∧ q < n ∧ 0 ≤ i ∧ i < (m : Int) ∧ ((∃ j, t = 299 ∧ j < 18 ∧ y = EXT + 10 + j) ∨ (∃ c m', t = 200 + c ∧ c ∈ [5, 6, 8] ∧ lay y = (c, m') ∧ y < n)) ∧ K nx lv r n (uF F q i.toNat (some y)) I
    | _ => False)
  | .arraylength => (match st with
    | .inl (some q) :: r => (match f with
      | 0 => ∃ t m, t ∈ [100, 101] ∧ lay q = (t, m) ∧ q < n ∧ K nx lv (.inr (.inl (m : Int)) :: r) n F I
      | 1 => q = EXT ∧ K nx lv (.inr (.inl (Int32.ofNat (gN G)).toInt) :: r) n F I
      | _ => (q = EXT + 1 ∧ K nx lv (.inr (.inl 6) :: r) n F I) ∨ (q = EXT + 2 ∧ K nx lv (.inr (.inl 24) :: r) n F I) ∨ (∃ j, j < 18 ∧ q = EXT + 40 + j ∧ K nx lv (.inr (.inl (strL.getD j 0 : Int)) :: r) n F I))
    | _ => False)
  | .new _ => lay n = (a, b) ∧ n + 1 ≤ n0 + alc k ∧ n + 1 ≤ EXT ∧ K nx lv (.inl (some n) :: st) (n + 1) (zF F n) (zI I n)
  | .newarray _ => (match st with
    | .inr (.inl x) :: r => lay n = (a, x.toNat) ∧ 0 ≤ x ∧ x < 100000 ∧ n + 1 ≤ n0 + alc k ∧ n + 1 ≤ EXT ∧ K nx lv (.inl (some n) :: r) (n + 1) (zF F n) (zI I n)
    | _ => False)
  | .anewarray _ => (match st with
    | .inr (.inl x) :: r => lay n = (a, x.toNat) ∧ 0 ≤ x ∧ x < 100000 ∧ n + 1 ≤ n0 + alc k ∧ n + 1 ≤ EXT ∧ K nx lv (.inl (some n) :: r) (n + 1) (zF F n) (zI I n)
    | _ => False)
  | .invokestatic _ => (match f with
    | 99 => (match st with
      | .inr (.inl len) :: .inr (.inl dp) :: .inl (some p) :: .inr (.inl sp) :: .inl (some q) :: r =>
        ∃ t m1 m2, t ∈ [100, 101] ∧ lay q = (t, m1) ∧ lay p = (t, m2) ∧ q < n ∧ p < n ∧ 0 ≤ sp ∧ 0 ≤ dp ∧ 0 ≤ len ∧ sp + len ≤ (m1 : Int) ∧ dp + len ≤ (m2 : Int) ∧ ctgs r ≤ 8 ∧ 1 ≤ d ∧ K nx lv r n F (cI I q sp.toNat p dp.toNat len.toNat)
      | _ => False)
    | _ => (match d with
      | 0 => False
      | d' + 1 => popN b st [] (fun as r => bif Nat.ble (ctgs r) 8 then Call G d' a as n F I (fun rv F' I' => match rv with
        | none => K nx lv r n F' I'
        | some w => K nx lv (w :: r) n F' I') else False)))
  | .invokevirtual _ => (match d with
      | 0 => False
      | d' + 1 => popN (b + 1) st [] (fun as r => match as with
        | .inl (some q) :: _ => (bif Nat.ble (ctgs r) 8 then ((match v with
          | .inl (some 130) => ∃ i, i < 18 ∧ q = EXT + 10 + i
          | .inl (some c) => ∃ m, lay q = (c, m) ∧ q < n
          | _ => False) ∧ Call G d' a as n F I (fun rv F' I' => match rv with
            | none => K nx lv r n F' I'
            | some w => K nx lv (w :: r) n F' I')) else False)
        | _ => False))
  | .invokespecial _ => (match f with
    | 98 => (match st with | .inl (some _) :: r => ctgs r ≤ 8 ∧ 1 ≤ d ∧ K nx lv r n F I | _ => False)
    | _ => (match d with
      | 0 => False
      | d' + 1 => popN (b + 1) st [] (fun as r => match as with
        | .inl (some _) :: _ => ctgs r ≤ 8 ∧ n + z ≤ n0 + alc k ∧ Call G d' a as n F I (fun rv F' I' => match rv with
            | none => K nx lv r (n + z) F' I'
            | some _ => False)
        | _ => False)))
  | .ireturn => (match st with
    | [.inr (.inl x)] => n = n0 + alc k ∧ (match f with
      | 0 => Q (some (.inr (.inl x))) F I
      | 1 => (x = 0 ∨ x = 1) ∧ Q (some (.inr (.inl x))) F I
      | 2 => (0 ≤ x ∧ x < 65536) ∧ Q (some (.inr (.inl x))) F I
      | _ => (-128 ≤ x ∧ x < 128) ∧ Q (some (.inr (.inl x))) F I)
    | _ => False)
  | .lreturn => (match st with | [.inr (.inr x)] => n = n0 + alc k ∧ Q (some (.inr (.inr x))) F I | _ => False)
  | .areturn => (match st with | [.inl w] => n = n0 + alc k ∧ Q (some (.inl w)) F I | _ => False)
  | .return_ => (match st with | [] => n = n0 + alc k ∧ Q none F I | _ => False)
  | _ => False
def wp (G : pG) (d k n0 : Nat) (t : pT) (cuts : List Nat) (Q : Option pV → pF → pI → Prop) : Nat → Nat → List (Option pV) → List pV → Nat → pF → pI → Prop
  | 0, pc, lv, st, n, F, I => Go G d k n0 n pc lv st F I Q
  | N + 1, pc, lv, st, n, F, I => match pAt t pc with
    | none => False
    | some e => stp G d k n0 e lv st n F I Q (fun pc' lv' st' n' F' I' => bif mmb cuts pc' then Go G d k n0 n' pc' lv' st' F' I' Q else wp G d k n0 t cuts Q N pc' lv' st' n' F' I')
end
section
/-! whole numbers for the machine's words. Own work. -/
theorem bm32 (z : Int) : z.bmod 4294967296 = wr z := by
  unfold wr
  rw [Int.bmod_def]
  split <;> omega
theorem bm64 (z : Int) : z.bmod 18446744073709551616 = wl z := by
  unfold wl
  rw [Int.bmod_def]
  split <;> omega
theorem bm8 (z : Int) : z.bmod 256 = wb z := by
  unfold wb
  rw [Int.bmod_def]
  split <;> omega
theorem bm16 (z : Int) : z.bmod 65536 = wsh z := by
  unfold wsh
  rw [Int.bmod_def]
  split <;> omega
theorem wr_id {z : Int} (h : iR z) : wr z = z := by unfold iR at h; unfold wr; omega
theorem wl_id {z : Int} (h : lR z) : wl z = z := by unfold lR at h; unfold wl; omega
theorem wr_R (z : Int) : iR (wr z) := by unfold iR wr; omega
theorem wl_R (z : Int) : lR (wl z) := by unfold lR wl; omega
theorem wb_R (z : Int) : iR (wb z) := by unfold iR wb; omega
theorem wsh_R (z : Int) : iR (wsh z) := by unfold iR wsh; omega
theorem wr_wr (z : Int) : wr (wr z) = wr z := wr_id (wr_R z)
theorem wl_wl (z : Int) : wl (wl z) = wl z := wl_id (wl_R z)
theorem toI32 (z : Int) : (Int32.ofInt z).toInt = wr z := by rw [Int32.toInt_ofInt]; exact bm32 z
theorem toI64 (z : Int) : (Int64.ofInt z).toInt = wl z := by rw [Int64.toInt_ofInt]; exact bm64 z
theorem tI {z : Int} (h : iR z) : (Int32.ofInt z).toInt = z := by rw [toI32, wr_id h]
theorem tL {z : Int} (h : lR z) : (Int64.ofInt z).toInt = z := by rw [toI64, wl_id h]
theorem ofw (z : Int) : Int32.ofInt (wr z) = Int32.ofInt z := Int32.toInt_inj.1 (by rw [toI32, toI32, wr_wr])
theorem ofwl (z : Int) : Int64.ofInt (wl z) = Int64.ofInt z := Int64.toInt_inj.1 (by rw [toI64, toI64, wl_wl])
theorem toInt_R (x : Int32) : iR x.toInt := by
  have h1 := x.toInt_lt
  have h2 := x.le_toInt
  unfold iR
  omega
theorem toInt_LR (x : Int64) : lR x.toInt := by
  have h1 := x.toInt_lt
  have h2 := x.le_toInt
  unfold lR
  omega
theorem n_add (x y : Int) : Int32.ofInt x + Int32.ofInt y = Int32.ofInt (wr (x + y)) := by rw [ofw, Int32.ofInt_add]
theorem n_sub (x y : Int) : Int32.ofInt x - Int32.ofInt y = Int32.ofInt (wr (x - y)) := by rw [ofw, Int32.ofInt_sub]
theorem n_mul (x y : Int) : Int32.ofInt x * Int32.ofInt y = Int32.ofInt (wr (x * y)) := by rw [ofw, Int32.ofInt_mul]
theorem n_neg (x : Int) : -Int32.ofInt x = Int32.ofInt (wr (-x)) := by rw [ofw, Int32.ofInt_neg]
theorem n_div {x y : Int} (hx : iR x) (hy : iR y) : Int32.ofInt x / Int32.ofInt y = Int32.ofInt (wr (x.tdiv y)) := by
  refine Int32.toInt_inj.1 ?_
  rw [Int32.toInt_div, tI hx, tI hy, toI32, wr_wr]
  exact bm32 _
theorem n_rem {x y : Int} (hx : iR x) (hy : iR y) : Int32.ofInt x - Int32.ofInt x / Int32.ofInt y * Int32.ofInt y = Int32.ofInt (x.tmod y) := by
  rw [n_div hx hy, n_mul, n_sub, ofw]
  refine Int32.toInt_inj.1 ?_
  rw [toI32, toI32, Int.tmod_def, Int.mul_comm]
  have h1 : wr (wr (x.tdiv y) * y) = wr (x.tdiv y * y) := by
    have := n_mul (wr (x.tdiv y)) y
    rw [ofw, n_mul] at this
    have h2 := congrArg Int32.toInt this
    rw [toI32, toI32, wr_wr, wr_wr] at h2
    exact h2.symm
  rw [Int.mul_comm, h1, Int.mul_comm]
  unfold wr
  omega
theorem tmod_R {x y : Int} (hx : iR x) (hy : iR y) : iR (x.tmod y) := by
  have h := rem_toInt (Int32.ofInt x) (Int32.ofInt y)
  rw [tI hx, tI hy] at h
  rw [← h]
  exact toInt_R _
theorem l_add (x y : Int) : Int64.ofInt x + Int64.ofInt y = Int64.ofInt (wl (x + y)) := by rw [ofwl, Int64.ofInt_add]
theorem l_sub (x y : Int) : Int64.ofInt x - Int64.ofInt y = Int64.ofInt (wl (x - y)) := by rw [ofwl, Int64.ofInt_sub]
theorem l_mul (x y : Int) : Int64.ofInt x * Int64.ofInt y = Int64.ofInt (wl (x * y)) := by rw [ofwl, Int64.ofInt_mul]
theorem l_neg (x : Int) : -Int64.ofInt x = Int64.ofInt (wl (-x)) := by rw [ofwl, Int64.ofInt_neg]
theorem l_div {x y : Int} (hx : lR x) (hy : lR y) : Int64.ofInt x / Int64.ofInt y = Int64.ofInt (wl (x.tdiv y)) := by
  refine Int64.toInt_inj.1 ?_
  rw [Int64.toInt_div, tL hx, tL hy, toI64, wl_wl]
  exact bm64 _
theorem n_lt {x y : Int} (hx : iR x) (hy : iR y) : Int32.ofInt x < Int32.ofInt y ↔ x < y := by rw [Int32.lt_iff_toInt_lt, tI hx, tI hy]
theorem n_le {x y : Int} (hx : iR x) (hy : iR y) : Int32.ofInt x ≤ Int32.ofInt y ↔ x ≤ y := by rw [Int32.le_iff_toInt_le, tI hx, tI hy]
theorem n_eq {x y : Int} (hx : iR x) (hy : iR y) : Int32.ofInt x = Int32.ofInt y ↔ x = y := by rw [← Int32.toInt_inj, tI hx, tI hy]
theorem l_lt {x y : Int} (hx : lR x) (hy : lR y) : Int64.ofInt x < Int64.ofInt y ↔ x < y := by rw [Int64.lt_iff_toInt_lt, tL hx, tL hy]
theorem l_eq {x y : Int} (hx : lR x) (hy : lR y) : Int64.ofInt x = Int64.ofInt y ↔ x = y := by rw [← Int64.toInt_inj, tL hx, tL hy]
theorem z0 : (0 : Int32) = Int32.ofInt 0 := rfl
theorem z0l : (0 : Int64) = Int64.ofInt 0 := rfl
theorem iR0 : iR 0 := by unfold iR; omega
theorem lR0 : lR 0 := by unfold lR; omega
theorem n_nz {y : Int} (hy : iR y) (h : y ≠ 0) : ¬ Int32.ofInt y = 0 := by rw [z0, n_eq hy iR0]; exact h
theorem l_nz {y : Int} (hy : lR y) (h : y ≠ 0) : ¬ Int64.ofInt y = 0 := by rw [z0l, l_eq hy lR0]; exact h
theorem n_cl {i : Int} (hi : iR i) : (Int32.ofInt i).toNatClampNeg = i.toNat := by rw [← Int32.toNat_toInt, tI hi]
theorem n_in {i : Int} {m : Nat} (hi : iR i) (h0 : 0 ≤ i) (h1 : i < (m : Int)) : vp_in (Int32.ofInt i) m := by
  unfold vp_in
  rw [n_cl hi, z0, n_lt hi iR0]
  omega
theorem n_i2l {x : Int} (hx : iR x) : (Int32.ofInt x).toInt64 = Int64.ofInt x := by
  refine Int64.toInt_inj.1 ?_
  rw [Int32.toInt_toInt64, tI hx, tL (by unfold iR at hx; unfold lR; omega)]
theorem n_l2i {x : Int} (hx : lR x) : (Int64.ofInt x).toInt32 = Int32.ofInt (wr x) := by
  refine Int32.toInt_inj.1 ?_
  rw [Int64.toInt_toInt32, tL hx, toI32, wr_wr]
  exact bm32 _
theorem n_i2b {x : Int} (hx : iR x) : (Int32.ofInt x).toInt8.toInt32 = Int32.ofInt (wb x) := by
  refine Int32.toInt_inj.1 ?_
  rw [Int8.toInt_toInt32, Int32.toInt_toInt8, tI hx, tI (wb_R x)]
  exact bm8 _
theorem n_i2s {x : Int} (hx : iR x) : (Int32.ofInt x).toInt16.toInt32 = Int32.ofInt (wsh x) := by
  refine Int32.toInt_inj.1 ?_
  rw [Int16.toInt_toInt32, Int32.toInt_toInt16, tI hx, tI (wsh_R x)]
  exact bm16 _
theorem n_i2c {x : Int} (hx : iR x) : ((Int32.ofInt x).toUInt32 % 65536).toInt32 = Int32.ofInt (x % 65536) := by
  refine Int32.toInt_inj.1 ?_
  have h1 : (Int32.ofInt x).toUInt32.toNat = (x % 4294967296).toNat := by
    show (Int32.ofInt x).toBitVec.toNat = _
    rw [Int32.toBitVec_ofInt, BitVec.toNat_ofInt]
    rfl
  have h2 : ((Int32.ofInt x).toUInt32 % 65536).toNat = (x % 65536).toNat := by
    rw [UInt32.toNat_mod, h1]
    show (x % 4294967296).toNat % 65536 = _
    omega
  rw [tI (by unfold iR; omega)]
  have h3 : ((Int32.ofInt x).toUInt32 % 65536).toInt32.toInt = (((Int32.ofInt x).toUInt32 % 65536).toNat : Int).bmod 4294967296 := by
    show BitVec.toInt _ = _
    rw [BitVec.toInt_eq_toNat_bmod]
    rfl
  rw [h3, h2, bm32, wr_id (by unfold iR; omega)]
  omega
theorem n_cmp {x y : Int} (hx : lR x) (hy : lR y) : lg_cmp (Int64.ofInt x) (Int64.ofInt y) = Int32.ofInt (lcm x y) := by
  unfold lg_cmp lcm
  by_cases h1 : x < y
  · rw [if_neg (by rw [gt_iff_lt, l_lt hy hx]; omega), if_neg (by rw [l_eq hx hy]; omega), if_pos h1]
    rfl
  · by_cases h2 : x = y
    · rw [if_neg (by rw [gt_iff_lt, l_lt hy hx]; omega), if_pos (by rw [l_eq hx hy]; exact h2), if_neg h1, if_pos h2]
      rfl
    · rw [if_pos (by rw [gt_iff_lt, l_lt hy hx]; omega), if_neg h1, if_neg h2]
      rfl
theorem lcm_R (x y : Int) : iR (lcm x y) := by
  unfold lcm iR
  split
  · omega
  · split <;> omega
theorem bi_b (x y : Int) : Int32.ofInt x &&& Int32.ofInt y = Int32.ofInt (bI x y) := (Int32.ofInt_toInt _).symm
theorem bi_o (x y : Int) : Int32.ofInt x ||| Int32.ofInt y = Int32.ofInt (oI x y) := (Int32.ofInt_toInt _).symm
theorem bi_x (x y : Int) : Int32.ofInt x ^^^ Int32.ofInt y = Int32.ofInt (xI x y) := (Int32.ofInt_toInt _).symm
theorem bi_sl (x y : Int) : Int32.ofInt x <<< (Int32.ofInt y &&& 31) = Int32.ofInt (slI x y) := (Int32.ofInt_toInt _).symm
theorem bi_sr (x y : Int) : Int32.ofInt x >>> (Int32.ofInt y &&& 31) = Int32.ofInt (srI x y) := (Int32.ofInt_toInt _).symm
theorem bi_su (x y : Int) : ((Int32.ofInt x).toUInt32 >>> ((Int32.ofInt y).toUInt32 &&& Int32.toUInt32 31)).toInt32 = Int32.ofInt (suI x y) := (Int32.ofInt_toInt _).symm
theorem bl_b (x y : Int) : Int64.ofInt x &&& Int64.ofInt y = Int64.ofInt (bL x y) := (Int64.ofInt_toInt _).symm
theorem bl_o (x y : Int) : Int64.ofInt x ||| Int64.ofInt y = Int64.ofInt (oL x y) := (Int64.ofInt_toInt _).symm
theorem bl_sl (x y : Int) : Int64.ofInt x <<< ((Int32.ofInt y).toInt64 &&& 63) = Int64.ofInt (slL x y) := (Int64.ofInt_toInt _).symm
theorem bl_sr (x y : Int) : Int64.ofInt x >>> ((Int32.ofInt y).toInt64 &&& 63) = Int64.ofInt (srL x y) := (Int64.ofInt_toInt _).symm
end
section
/-! what the machine does at an instruction that touches no cell, for the walking machine. Own work (rows laid by wip/pm/gen6.py). -/
theorem ok_c {a : pV} {r : List pV} (h : okV a) (hr : ∀ v ∈ r, okV v) : ∀ v ∈ a :: r, okV v := List.forall_mem_cons.mpr ⟨h, hr⟩
theorem ok_h {a : pV} {r : List pV} (h : ∀ v ∈ a :: r, okV v) : okV a := (List.forall_mem_cons.mp h).1
theorem ok_t {a : pV} {r : List pV} (h : ∀ v ∈ a :: r, okV v) : ∀ v ∈ r, okV v := (List.forall_mem_cons.mp h).2
theorem lg_get : ∀ {lv : List (Option pV)} {a : Nat} {v : pV}, lg lv a = some v → lv[a]? = some (some v)
  | [], _, _, h => by simp [lg] at h
  | x :: _, 0, v, h => by simp [lg] at h; simp [h]
  | _ :: t, i + 1, v, h => by simp [lg] at h; simpa using lg_get h
def asc (G : pG) (lv : List (Option pV)) : List (Nat × Value) := (List.range lv.length).filterMap (fun i => match lv[i]? with
  | some (some w) => some (i, tr G w)
  | _ => none)
theorem mem_asc {G : pG} {lv : List (Option pV)} {i : Nat} {u : Value} : (i, u) ∈ asc G lv ↔ ∃ w, lv[i]? = some (some w) ∧ u = tr G w := by
  unfold asc
  rw [List.mem_filterMap]
  constructor
  · rintro ⟨j, -, hj⟩
    split at hj
    next w hw => cases hj; exact ⟨w, hw, rfl⟩
    next => cases hj
  · rintro ⟨w, hw, rfl⟩
    refine ⟨i, List.mem_range.mpr (List.getElem?_eq_some_iff.mp hw).1, ?_⟩
    rw [hw]
theorem Hs.has {G : pG} {k : Nat} {ls : Array Slot} {lv : List (Option pV)} (h : Hs G k ls lv) : lv_has ls (mL k) (asc G lv) := by
  refine ⟨h.1, h.2.1, fun q hq => ?_⟩
  obtain ⟨i, u⟩ := q
  obtain ⟨w, hw, rfl⟩ := mem_asc.mp hq
  exact (h.2.2.2 i w hw).2
theorem ctg_tr (G : pG) (w : pV) : (tr G w).category = ctg w := by
  cases w with
  | inl r => cases r <;> rfl
  | inr z => cases z <;> rfl
theorem ls1_spec : ∀ {lv : List (Option pV)} {a : Nat} {v : pV} {k : List (Option pV) → Prop}, ls1 lv a v k → ∃ lv', k lv' ∧ lv'.length = lv.length ∧
    ∀ (i : Nat) (w : pV), lv'[i]? = some (some w) → (i = a ∧ w = v) ∨ (i ≠ a ∧ lv[i]? = some (some w) ∧ ¬ (i + 1 = a ∧ ctg w = 2))
  | [], _, _, k, h => ⟨[], h, rfl, fun i w hw => by simp at hw⟩
  | x :: t, 0, v, k, h => ⟨some v :: t, h, rfl, fun i w hw => by
      cases i with
      | zero => simp at hw; exact Or.inl ⟨rfl, hw.symm⟩
      | succ i => exact Or.inr ⟨by omega, by simpa using hw, by omega⟩⟩
  | x :: t, 1, v, k, h => by
      have key : ∀ (y : Option pV) (hy : ∀ w, y = some w → x = some w ∧ ctg w = 1), ls1 t 0 v (fun t' => k (y :: t')) → ∃ lv', k lv' ∧ lv'.length = (x :: t).length ∧
          ∀ (i : Nat) (w : pV), lv'[i]? = some (some w) → (i = 1 ∧ w = v) ∨ (i ≠ 1 ∧ (x :: t)[i]? = some (some w) ∧ ¬ (i + 1 = 1 ∧ ctg w = 2)) := by
        intro y hy h
        obtain ⟨t', h1, h2, h3⟩ := ls1_spec h
        refine ⟨y :: t', h1, by simp [h2], fun i w hw => ?_⟩
        cases i with
        | zero =>
          simp at hw
          obtain ⟨e1, e2⟩ := hy w hw
          exact Or.inr ⟨by omega, by simp [e1], by omega⟩
        | succ i =>
          rcases h3 i w (by simpa using hw) with ⟨e1, e2⟩ | ⟨e1, e2, e3⟩
          · exact Or.inl ⟨by omega, e2⟩
          · exact Or.inr ⟨by omega, by simpa using e2, by omega⟩
      cases x with
      | none => exact key none (fun w e => by cases e) h
      | some y =>
        cases y with
        | inl r => exact key (some (.inl r)) (fun w e => by cases e; exact ⟨rfl, rfl⟩) h
        | inr y =>
          cases y with
          | inl z => exact key (some (.inr (.inl z))) (fun w e => by cases e; exact ⟨rfl, rfl⟩) h
          | inr z => exact key none (fun w e => by cases e) h
  | x :: t, j + 2, v, k, h => by
      obtain ⟨t', h1, h2, h3⟩ := ls1_spec (lv := t) (a := j + 1) (v := v) (k := fun t' => k (x :: t')) h
      refine ⟨x :: t', h1, by simp [h2], fun i w hw => ?_⟩
      cases i with
      | zero => exact Or.inr ⟨by omega, by simpa using hw, by omega⟩
      | succ i =>
        rcases h3 i w (by simpa using hw) with ⟨e1, e2⟩ | ⟨e1, e2, e3⟩
        · exact Or.inl ⟨by omega, e2⟩
        · exact Or.inr ⟨by omega, by simpa using e2, by omega⟩
theorem ls2_spec : ∀ {lv : List (Option pV)} {a : Nat} {v : pV} {k : List (Option pV) → Prop}, ls2 lv a v k → ∃ lv', k lv' ∧ lv'.length = lv.length ∧
    ∀ (i : Nat) (w : pV), lv'[i]? = some (some w) → (i = a ∧ w = v) ∨ (i ≠ a ∧ i ≠ a + 1 ∧ lv[i]? = some (some w) ∧ ¬ (i + 1 = a ∧ ctg w = 2))
  | [], _, _, k, h => ⟨[], h, rfl, fun i w hw => by simp at hw⟩
  | [x], 0, v, k, h => ⟨[some v], h, rfl, fun i w hw => by
      cases i with
      | zero => simp at hw; exact Or.inl ⟨rfl, hw.symm⟩
      | succ i => simp at hw⟩
  | x :: y :: t, 0, v, k, h => ⟨some v :: none :: t, h, rfl, fun i w hw => by
      cases i with
      | zero => simp at hw; exact Or.inl ⟨rfl, hw.symm⟩
      | succ i =>
        cases i with
        | zero => simp at hw
        | succ i => exact Or.inr ⟨by omega, by omega, by simpa using hw, by omega⟩⟩
  | x :: t, 1, v, k, h => by
      have key : ∀ (y : Option pV) (hy : ∀ w, y = some w → x = some w ∧ ctg w = 1), ls2 t 0 v (fun t' => k (y :: t')) → ∃ lv', k lv' ∧ lv'.length = (x :: t).length ∧
          ∀ (i : Nat) (w : pV), lv'[i]? = some (some w) → (i = 1 ∧ w = v) ∨ (i ≠ 1 ∧ i ≠ 1 + 1 ∧ (x :: t)[i]? = some (some w) ∧ ¬ (i + 1 = 1 ∧ ctg w = 2)) := by
        intro y hy h
        obtain ⟨t', h1, h2, h3⟩ := ls2_spec h
        refine ⟨y :: t', h1, by simp [h2], fun i w hw => ?_⟩
        cases i with
        | zero =>
          simp at hw
          obtain ⟨e1, e2⟩ := hy w hw
          exact Or.inr ⟨by omega, by omega, by simp [e1], by omega⟩
        | succ i =>
          rcases h3 i w (by simpa using hw) with ⟨e1, e2⟩ | ⟨e1, e0, e2, e3⟩
          · exact Or.inl ⟨by omega, e2⟩
          · exact Or.inr ⟨by omega, by omega, by simpa using e2, by omega⟩
      cases x with
      | none => exact key none (fun w e => by cases e) h
      | some y =>
        cases y with
        | inl r => exact key (some (.inl r)) (fun w e => by cases e; exact ⟨rfl, rfl⟩) h
        | inr y =>
          cases y with
          | inl z => exact key (some (.inr (.inl z))) (fun w e => by cases e; exact ⟨rfl, rfl⟩) h
          | inr z => exact key none (fun w e => by cases e) h
  | x :: t, j + 2, v, k, h => by
      obtain ⟨t', h1, h2, h3⟩ := ls2_spec (lv := t) (a := j + 1) (v := v) (k := fun t' => k (x :: t')) h
      refine ⟨x :: t', h1, by simp [h2], fun i w hw => ?_⟩
      cases i with
      | zero => exact Or.inr ⟨by omega, by omega, by simpa using hw, by omega⟩
      | succ i =>
        rcases h3 i w (by simpa using hw) with ⟨e1, e2⟩ | ⟨e1, e0, e2, e3⟩
        · exact Or.inl ⟨by omega, e2⟩
        · exact Or.inr ⟨by omega, by omega, by simpa using e2, by omega⟩
/-- the locals behind a store of one word -/
theorem Hs.set1 {G : pG} {k a : Nat} {ls ls' : Array Slot} {lv lv' : List (Option pV)} {v : pV} (h : Hs G k ls lv) (hv : okV v) (hlen : lv'.length = lv.length)
    (hl : lv_has ls' (mL k) ((a, tr G v) :: (asc G lv).filter (fun q => !(q.1 == a) && !(q.1 + 1 == a && q.2.category == 2))))
    (hs : ∀ (i : Nat) (w : pV), lv'[i]? = some (some w) → (i = a ∧ w = v) ∨ (i ≠ a ∧ lv[i]? = some (some w) ∧ ¬ (i + 1 = a ∧ ctg w = 2))) : Hs G k ls' lv' := by
  refine ⟨hl.1, hl.2.1, by rw [hlen]; exact h.2.2.1, fun i w hw => ?_⟩
  rcases hs i w hw with ⟨rfl, rfl⟩ | ⟨e1, e2, e3⟩
  · exact ⟨hv, hl.2.2 (i, tr G w) List.mem_cons_self⟩
  · refine ⟨(h.2.2.2 i w e2).1, hl.2.2 (i, tr G w) (List.mem_cons_of_mem _ (List.mem_filter.mpr ⟨mem_asc.mpr ⟨w, e2, rfl⟩, ?_⟩))⟩
    rw [ctg_tr]
    simp only [Bool.and_eq_true, Bool.not_eq_true', beq_eq_false_iff_ne, ne_eq, Bool.and_eq_false_iff]
    refine ⟨e1, ?_⟩
    by_cases q : i + 1 = a
    · exact Or.inr (fun z => e3 ⟨q, z⟩)
    · exact Or.inl q
theorem Hs.set2 {G : pG} {k a : Nat} {ls ls' : Array Slot} {lv lv' : List (Option pV)} {v : pV} (h : Hs G k ls lv) (hv : okV v) (hlen : lv'.length = lv.length)
    (hl : lv_has ls' (mL k) ((a, tr G v) :: (asc G lv).filter (fun q => !(q.1 == a) && (!(q.1 == a + 1) && !(q.1 + 1 == a && q.2.category == 2)))))
    (hs : ∀ (i : Nat) (w : pV), lv'[i]? = some (some w) → (i = a ∧ w = v) ∨ (i ≠ a ∧ i ≠ a + 1 ∧ lv[i]? = some (some w) ∧ ¬ (i + 1 = a ∧ ctg w = 2))) : Hs G k ls' lv' := by
  refine ⟨hl.1, hl.2.1, by rw [hlen]; exact h.2.2.1, fun i w hw => ?_⟩
  rcases hs i w hw with ⟨rfl, rfl⟩ | ⟨e1, e0, e2, e3⟩
  · exact ⟨hv, hl.2.2 (i, tr G w) List.mem_cons_self⟩
  · refine ⟨(h.2.2.2 i w e2).1, hl.2.2 (i, tr G w) (List.mem_cons_of_mem _ (List.mem_filter.mpr ⟨mem_asc.mpr ⟨w, e2, rfl⟩, ?_⟩))⟩
    rw [ctg_tr]
    simp only [Bool.and_eq_true, Bool.not_eq_true', beq_eq_false_iff_ne, ne_eq, Bool.and_eq_false_iff]
    refine ⟨e1, e0, ?_⟩
    by_cases q : i + 1 = a
    · exact Or.inr (fun z => e3 ⟨q, z⟩)
    · exact Or.inl q
section PURE
variable {G : pG} {d k n0 n pc nx a : Nat} {lv : List (Option pV)} {r : List pV} {F : pF} {I : pI} {Q : Option pV → pF → pI → Prop} {x y : Int} {v : pV}

theorem g_iconst {i : Int} (hd : decode (mB k) pc = .ok (.iconst i, 1)) (hn : nx = pc + 1) (hv : Int32.ofInt i = Int32.ofInt x) (hx : iR x) (h : Go G d k n0 n nx lv (.inr (.inl x) :: r) F I Q) : Go G d k n0 n pc lv (r) F I Q := by
  intro p e s m args below meth c H locs ls C hl hs
  subst hn
  exact lv_iconst C.1 C.2.1 hd hv (h p e s m args below meth c H locs ls C hl (ok_c hx hs))
theorem g_bipush {i : Int} (hd : decode (mB k) pc = .ok (.bipush i, 2)) (hn : nx = pc + 2) (hv : (Int8.ofInt i).toInt32 = Int32.ofInt x) (hx : iR x) (h : Go G d k n0 n nx lv (.inr (.inl x) :: r) F I Q) : Go G d k n0 n pc lv (r) F I Q := by
  intro p e s m args below meth c H locs ls C hl hs
  subst hn
  exact lv_bipush C.1 C.2.1 hd hv (h p e s m args below meth c H locs ls C hl (ok_c hx hs))
theorem g_sipush {i : Int} (hd : decode (mB k) pc = .ok (.sipush i, 3)) (hn : nx = pc + 3) (hv : (Int16.ofInt i).toInt32 = Int32.ofInt x) (hx : iR x) (h : Go G d k n0 n nx lv (.inr (.inl x) :: r) F I Q) : Go G d k n0 n pc lv (r) F I Q := by
  intro p e s m args below meth c H locs ls C hl hs
  subst hn
  exact lv_sipush C.1 C.2.1 hd hv (h p e s m args below meth c H locs ls C hl (ok_c hx hs))
theorem g_lconst {i : Fin 2} (hd : decode (mB k) pc = .ok (.lconst i, 1)) (hn : nx = pc + 1) (hv : Int64.ofNat (i : Nat) = Int64.ofInt x) (hx : lR x) (h : Go G d k n0 n nx lv (.inr (.inr x) :: r) F I Q) : Go G d k n0 n pc lv (r) F I Q := by
  intro p e s m args below meth c H locs ls C hl hs
  subst hn
  exact lv_lconst C.1 C.2.1 hd hv (h p e s m args below meth c H locs ls C hl (ok_c hx hs))
theorem g_null (hd : decode (mB k) pc = .ok (.aconst_null, 1)) (hn : nx = pc + 1) (h : Go G d k n0 n nx lv (.inl none :: r) F I Q) : Go G d k n0 n pc lv (r) F I Q := by
  intro p e s m args below meth c H locs ls C hl hs
  subst hn
  exact lv_null C.1 C.2.1 hd (h p e s m args below meth c H locs ls C hl (ok_c trivial hs))
theorem g_iload_n {i : Fin 4} (hd : decode (mB k) pc = .ok (.iload_n i, 1)) (hn : nx = pc + 1) (hi : (i : Nat) = a) (hg : lg lv a = some (.inr (.inl x))) (h : Go G d k n0 n nx lv (.inr (.inl x) :: r) F I Q) : Go G d k n0 n pc lv (r) F I Q := by
  intro p e s m args below meth c H locs ls C hl hs
  subst hn
  obtain ⟨h1, h2⟩ := hl.2.2.2 a _ (lg_get hg)
  exact lv_iload_n C.1 C.2.1 hd hi h2 (h p e s m args below meth c H locs ls C hl (ok_c h1 hs))
theorem g_iload (hd : decode (mB k) pc = .ok (.iload a, 2)) (hn : nx = pc + 2) (hg : lg lv a = some (.inr (.inl x))) (h : Go G d k n0 n nx lv (.inr (.inl x) :: r) F I Q) : Go G d k n0 n pc lv (r) F I Q := by
  intro p e s m args below meth c H locs ls C hl hs
  subst hn
  obtain ⟨h1, h2⟩ := hl.2.2.2 a _ (lg_get hg)
  exact lv_iload C.1 C.2.1 hd h2 (h p e s m args below meth c H locs ls C hl (ok_c h1 hs))
theorem g_lload_n {i : Fin 4} (hd : decode (mB k) pc = .ok (.lload_n i, 1)) (hn : nx = pc + 1) (hi : (i : Nat) = a) (hg : lg lv a = some (.inr (.inr x))) (h : Go G d k n0 n nx lv (.inr (.inr x) :: r) F I Q) : Go G d k n0 n pc lv (r) F I Q := by
  intro p e s m args below meth c H locs ls C hl hs
  subst hn
  obtain ⟨h1, h2⟩ := hl.2.2.2 a _ (lg_get hg)
  exact lv_lload_n C.1 C.2.1 hd hi h2 (h p e s m args below meth c H locs ls C hl (ok_c h1 hs))
theorem g_lload (hd : decode (mB k) pc = .ok (.lload a, 2)) (hn : nx = pc + 2) (hg : lg lv a = some (.inr (.inr x))) (h : Go G d k n0 n nx lv (.inr (.inr x) :: r) F I Q) : Go G d k n0 n pc lv (r) F I Q := by
  intro p e s m args below meth c H locs ls C hl hs
  subst hn
  obtain ⟨h1, h2⟩ := hl.2.2.2 a _ (lg_get hg)
  exact lv_lload C.1 C.2.1 hd h2 (h p e s m args below meth c H locs ls C hl (ok_c h1 hs))
theorem g_aload_n {w : Option Nat} {i : Fin 4} (hd : decode (mB k) pc = .ok (.aload_n i, 1)) (hn : nx = pc + 1) (hi : (i : Nat) = a) (hg : lg lv a = some (.inl w)) (h : Go G d k n0 n nx lv (.inl w :: r) F I Q) : Go G d k n0 n pc lv (r) F I Q := by
  intro p e s m args below meth c H locs ls C hl hs
  subst hn
  obtain ⟨h1, h2⟩ := hl.2.2.2 a _ (lg_get hg)
  have h3 := h p e s m args below meth c H locs ls C hl (ok_c h1 hs)
  cases w with
  | none => exact lv_aload_nN C.1 C.2.1 hd hi h2 h3
  | some w => exact lv_aload_n C.1 C.2.1 hd hi h2 h3
theorem g_aload {w : Option Nat} (hd : decode (mB k) pc = .ok (.aload a, 2)) (hn : nx = pc + 2) (hg : lg lv a = some (.inl w)) (h : Go G d k n0 n nx lv (.inl w :: r) F I Q) : Go G d k n0 n pc lv (r) F I Q := by
  intro p e s m args below meth c H locs ls C hl hs
  subst hn
  obtain ⟨h1, h2⟩ := hl.2.2.2 a _ (lg_get hg)
  have h3 := h p e s m args below meth c H locs ls C hl (ok_c h1 hs)
  cases w with
  | none => exact lv_aloadN C.1 C.2.1 hd h2 h3
  | some w => exact lv_aload C.1 C.2.1 hd h2 h3
theorem g_istore_n {i : Fin 4} (hd : decode (mB k) pc = .ok (.istore_n i, 1)) (hn : nx = pc + 1) (hi : (i : Nat) = a) (ha : a < mL k) (h : ls1 lv a (.inr (.inl x)) (fun lv' => Go G d k n0 n nx lv' r F I Q)) : Go G d k n0 n pc lv (.inr (.inl x) :: r) F I Q := by
  intro p e s m args below meth c H locs ls C hl hs
  subst hn
  obtain ⟨lv', h1, h2, h3⟩ := ls1_spec h
  exact lv_istore_n (lv' := _) C.1 C.2.1 hd hi hl.has ha rfl (fun ls' hh => h1 p e s m args below meth c H locs ls' C (hl.set1 (ok_h hs) h2 hh h3) (ok_t hs))
theorem g_istore (hd : decode (mB k) pc = .ok (.istore a, 2)) (hn : nx = pc + 2) (ha : a < mL k) (h : ls1 lv a (.inr (.inl x)) (fun lv' => Go G d k n0 n nx lv' r F I Q)) : Go G d k n0 n pc lv (.inr (.inl x) :: r) F I Q := by
  intro p e s m args below meth c H locs ls C hl hs
  subst hn
  obtain ⟨lv', h1, h2, h3⟩ := ls1_spec h
  exact lv_istore (lv' := _) C.1 C.2.1 hd hl.has ha rfl (fun ls' hh => h1 p e s m args below meth c H locs ls' C (hl.set1 (ok_h hs) h2 hh h3) (ok_t hs))
theorem g_lstore_n {i : Fin 4} (hd : decode (mB k) pc = .ok (.lstore_n i, 1)) (hn : nx = pc + 1) (hi : (i : Nat) = a) (ha : a + 1 < mL k) (h : ls2 lv a (.inr (.inr x)) (fun lv' => Go G d k n0 n nx lv' r F I Q)) : Go G d k n0 n pc lv (.inr (.inr x) :: r) F I Q := by
  intro p e s m args below meth c H locs ls C hl hs
  subst hn
  obtain ⟨lv', h1, h2, h3⟩ := ls2_spec h
  exact lv_lstore_n (lv' := _) C.1 C.2.1 hd hi hl.has ha rfl (fun ls' hh => h1 p e s m args below meth c H locs ls' C (hl.set2 (ok_h hs) h2 hh h3) (ok_t hs))
theorem g_lstore (hd : decode (mB k) pc = .ok (.lstore a, 2)) (hn : nx = pc + 2) (ha : a + 1 < mL k) (h : ls2 lv a (.inr (.inr x)) (fun lv' => Go G d k n0 n nx lv' r F I Q)) : Go G d k n0 n pc lv (.inr (.inr x) :: r) F I Q := by
  intro p e s m args below meth c H locs ls C hl hs
  subst hn
  obtain ⟨lv', h1, h2, h3⟩ := ls2_spec h
  exact lv_lstore (lv' := _) C.1 C.2.1 hd hl.has ha rfl (fun ls' hh => h1 p e s m args below meth c H locs ls' C (hl.set2 (ok_h hs) h2 hh h3) (ok_t hs))
theorem g_astore_n {w : Option Nat} {i : Fin 4} (hd : decode (mB k) pc = .ok (.astore_n i, 1)) (hn : nx = pc + 1) (hi : (i : Nat) = a) (ha : a < mL k) (h : ls1 lv a (.inl w) (fun lv' => Go G d k n0 n nx lv' r F I Q)) : Go G d k n0 n pc lv (.inl w :: r) F I Q := by
  intro p e s m args below meth c H locs ls C hl hs
  subst hn
  obtain ⟨lv', h1, h2, h3⟩ := ls1_spec h
  cases w with
  | none => exact lv_astore_nN (lv' := _) C.1 C.2.1 hd hi hl.has ha rfl (fun ls' hh => h1 p e s m args below meth c H locs ls' C (hl.set1 (v := .inl none) trivial h2 hh h3) (ok_t hs))
  | some w => exact lv_astore_n (lv' := _) C.1 C.2.1 hd hi hl.has ha rfl (fun ls' hh => h1 p e s m args below meth c H locs ls' C (hl.set1 (v := .inl (some w)) trivial h2 hh h3) (ok_t hs))
theorem g_astore {w : Option Nat} (hd : decode (mB k) pc = .ok (.astore a, 2)) (hn : nx = pc + 2) (ha : a < mL k) (h : ls1 lv a (.inl w) (fun lv' => Go G d k n0 n nx lv' r F I Q)) : Go G d k n0 n pc lv (.inl w :: r) F I Q := by
  intro p e s m args below meth c H locs ls C hl hs
  subst hn
  obtain ⟨lv', h1, h2, h3⟩ := ls1_spec h
  cases w with
  | none => exact lv_astoreN (lv' := _) C.1 C.2.1 hd hl.has ha rfl (fun ls' hh => h1 p e s m args below meth c H locs ls' C (hl.set1 (v := .inl none) trivial h2 hh h3) (ok_t hs))
  | some w => exact lv_astore (lv' := _) C.1 C.2.1 hd hl.has ha rfl (fun ls' hh => h1 p e s m args below meth c H locs ls' C (hl.set1 (v := .inl (some w)) trivial h2 hh h3) (ok_t hs))
theorem g_iinc {z : Int} (hd : decode (mB k) pc = .ok (.iinc a z, 3)) (hn : nx = pc + 3) (ha : a < mL k) (hg : lg lv a = some (.inr (.inl x))) (h : ls1 lv a (.inr (.inl (wr (x + z)))) (fun lv' => Go G d k n0 n nx lv' r F I Q)) : Go G d k n0 n pc lv (r) F I Q := by
  intro p e s m args below meth c H locs ls C hl hs
  subst hn
  obtain ⟨lv', h1, h2, h3⟩ := ls1_spec h
  obtain ⟨j, hj⟩ := List.getElem?_of_mem (mem_asc.mpr ⟨_, lg_get hg, rfl⟩ : (a, tr G (.inr (.inl x))) ∈ asc G lv)
  exact lv_iinc (lv' := _) C.1 C.2.1 hd hl.has hj (n_add x z) ha rfl (fun ls' hh => h1 p e s m args below meth c H locs ls' C (hl.set1 (v := .inr (.inl (wr (x + z)))) (wr_R _) h2 hh h3) hs)
theorem g_iadd (hd : decode (mB k) pc = .ok (.iadd, 1)) (hn : nx = pc + 1) (h : Go G d k n0 n nx lv (.inr (.inl (wr (x + y))) :: r) F I Q) : Go G d k n0 n pc lv (.inr (.inl y) :: .inr (.inl x) :: r) F I Q := by
  intro p e s m args below meth c H locs ls C hl hs
  subst hn
  refine lv_iadd C.1 C.2.1 hd ?_
  rw [n_add]
  exact h p e s m args below meth c H locs ls C hl (ok_c (wr_R _) (ok_t (ok_t hs)))
theorem g_isub (hd : decode (mB k) pc = .ok (.isub, 1)) (hn : nx = pc + 1) (h : Go G d k n0 n nx lv (.inr (.inl (wr (x - y))) :: r) F I Q) : Go G d k n0 n pc lv (.inr (.inl y) :: .inr (.inl x) :: r) F I Q := by
  intro p e s m args below meth c H locs ls C hl hs
  subst hn
  refine lv_isub C.1 C.2.1 hd ?_
  rw [n_sub]
  exact h p e s m args below meth c H locs ls C hl (ok_c (wr_R _) (ok_t (ok_t hs)))
theorem g_imul (hd : decode (mB k) pc = .ok (.imul, 1)) (hn : nx = pc + 1) (h : Go G d k n0 n nx lv (.inr (.inl (wr (x * y))) :: r) F I Q) : Go G d k n0 n pc lv (.inr (.inl y) :: .inr (.inl x) :: r) F I Q := by
  intro p e s m args below meth c H locs ls C hl hs
  subst hn
  refine lv_imul C.1 C.2.1 hd ?_
  rw [n_mul]
  exact h p e s m args below meth c H locs ls C hl (ok_c (wr_R _) (ok_t (ok_t hs)))
theorem g_iand (hd : decode (mB k) pc = .ok (.iand, 1)) (hn : nx = pc + 1) (h : Go G d k n0 n nx lv (.inr (.inl (bI x y)) :: r) F I Q) : Go G d k n0 n pc lv (.inr (.inl y) :: .inr (.inl x) :: r) F I Q := by
  intro p e s m args below meth c H locs ls C hl hs
  subst hn
  refine lv_iand C.1 C.2.1 hd ?_
  rw [bi_b]
  exact h p e s m args below meth c H locs ls C hl (ok_c (toInt_R _) (ok_t (ok_t hs)))
theorem g_ior (hd : decode (mB k) pc = .ok (.ior, 1)) (hn : nx = pc + 1) (h : Go G d k n0 n nx lv (.inr (.inl (oI x y)) :: r) F I Q) : Go G d k n0 n pc lv (.inr (.inl y) :: .inr (.inl x) :: r) F I Q := by
  intro p e s m args below meth c H locs ls C hl hs
  subst hn
  refine lv_ior C.1 C.2.1 hd ?_
  rw [bi_o]
  exact h p e s m args below meth c H locs ls C hl (ok_c (toInt_R _) (ok_t (ok_t hs)))
theorem g_ixor (hd : decode (mB k) pc = .ok (.ixor, 1)) (hn : nx = pc + 1) (h : Go G d k n0 n nx lv (.inr (.inl (xI x y)) :: r) F I Q) : Go G d k n0 n pc lv (.inr (.inl y) :: .inr (.inl x) :: r) F I Q := by
  intro p e s m args below meth c H locs ls C hl hs
  subst hn
  refine lv_ixor C.1 C.2.1 hd ?_
  rw [bi_x]
  exact h p e s m args below meth c H locs ls C hl (ok_c (toInt_R _) (ok_t (ok_t hs)))
theorem g_ishl (hd : decode (mB k) pc = .ok (.ishl, 1)) (hn : nx = pc + 1) (h : Go G d k n0 n nx lv (.inr (.inl (slI x y)) :: r) F I Q) : Go G d k n0 n pc lv (.inr (.inl y) :: .inr (.inl x) :: r) F I Q := by
  intro p e s m args below meth c H locs ls C hl hs
  subst hn
  refine lv_ishl C.1 C.2.1 hd ?_
  rw [bi_sl]
  exact h p e s m args below meth c H locs ls C hl (ok_c (toInt_R _) (ok_t (ok_t hs)))
theorem g_ishr (hd : decode (mB k) pc = .ok (.ishr, 1)) (hn : nx = pc + 1) (h : Go G d k n0 n nx lv (.inr (.inl (srI x y)) :: r) F I Q) : Go G d k n0 n pc lv (.inr (.inl y) :: .inr (.inl x) :: r) F I Q := by
  intro p e s m args below meth c H locs ls C hl hs
  subst hn
  refine lv_ishr C.1 C.2.1 hd ?_
  rw [bi_sr]
  exact h p e s m args below meth c H locs ls C hl (ok_c (toInt_R _) (ok_t (ok_t hs)))
theorem g_iushr (hd : decode (mB k) pc = .ok (.iushr, 1)) (hn : nx = pc + 1) (h : Go G d k n0 n nx lv (.inr (.inl (suI x y)) :: r) F I Q) : Go G d k n0 n pc lv (.inr (.inl y) :: .inr (.inl x) :: r) F I Q := by
  intro p e s m args below meth c H locs ls C hl hs
  subst hn
  exact lv_iushr C.1 C.2.1 hd (bi_su x y) (h p e s m args below meth c H locs ls C hl (ok_c (toInt_R _) (ok_t (ok_t hs))))
theorem g_idiv (hd : decode (mB k) pc = .ok (.idiv, 1)) (hn : nx = pc + 1) (hy : y ≠ 0) (h : Go G d k n0 n nx lv (.inr (.inl (wr (x.tdiv y))) :: r) F I Q) : Go G d k n0 n pc lv (.inr (.inl y) :: .inr (.inl x) :: r) F I Q := by
  intro p e s m args below meth c H locs ls C hl hs
  subst hn
  refine lv_idiv C.1 C.2.1 hd (n_nz (ok_h hs) hy) ?_
  rw [n_div (ok_h (ok_t hs)) (ok_h hs)]
  exact h p e s m args below meth c H locs ls C hl (ok_c (wr_R _) (ok_t (ok_t hs)))
theorem g_irem (hd : decode (mB k) pc = .ok (.irem, 1)) (hn : nx = pc + 1) (hy : y ≠ 0) (h : Go G d k n0 n nx lv (.inr (.inl (x.tmod y)) :: r) F I Q) : Go G d k n0 n pc lv (.inr (.inl y) :: .inr (.inl x) :: r) F I Q := by
  intro p e s m args below meth c H locs ls C hl hs
  subst hn
  refine lv_irem C.1 C.2.1 hd (n_nz (ok_h hs) hy) ?_
  rw [n_rem (ok_h (ok_t hs)) (ok_h hs)]
  exact h p e s m args below meth c H locs ls C hl (ok_c (tmod_R (ok_h (ok_t hs)) (ok_h hs)) (ok_t (ok_t hs)))
theorem g_ineg (hd : decode (mB k) pc = .ok (.ineg, 1)) (hn : nx = pc + 1) (h : Go G d k n0 n nx lv (.inr (.inl (wr (- x))) :: r) F I Q) : Go G d k n0 n pc lv (.inr (.inl x) :: r) F I Q := by
  intro p e s m args below meth c H locs ls C hl hs
  subst hn
  refine lv_ineg C.1 C.2.1 hd ?_
  rw [n_neg]
  exact h p e s m args below meth c H locs ls C hl (ok_c (wr_R _) (ok_t hs))
theorem g_ladd (hd : decode (mB k) pc = .ok (.ladd, 1)) (hn : nx = pc + 1) (h : Go G d k n0 n nx lv (.inr (.inr (wl (x + y))) :: r) F I Q) : Go G d k n0 n pc lv (.inr (.inr y) :: .inr (.inr x) :: r) F I Q := by
  intro p e s m args below meth c H locs ls C hl hs
  subst hn
  refine lv_ladd C.1 C.2.1 hd ?_
  rw [l_add]
  exact h p e s m args below meth c H locs ls C hl (ok_c (wl_R _) (ok_t (ok_t hs)))
theorem g_lsub (hd : decode (mB k) pc = .ok (.lsub, 1)) (hn : nx = pc + 1) (h : Go G d k n0 n nx lv (.inr (.inr (wl (x - y))) :: r) F I Q) : Go G d k n0 n pc lv (.inr (.inr y) :: .inr (.inr x) :: r) F I Q := by
  intro p e s m args below meth c H locs ls C hl hs
  subst hn
  refine lv_lsub C.1 C.2.1 hd ?_
  rw [l_sub]
  exact h p e s m args below meth c H locs ls C hl (ok_c (wl_R _) (ok_t (ok_t hs)))
theorem g_lmul (hd : decode (mB k) pc = .ok (.lmul, 1)) (hn : nx = pc + 1) (h : Go G d k n0 n nx lv (.inr (.inr (wl (x * y))) :: r) F I Q) : Go G d k n0 n pc lv (.inr (.inr y) :: .inr (.inr x) :: r) F I Q := by
  intro p e s m args below meth c H locs ls C hl hs
  subst hn
  refine lv_lmul C.1 C.2.1 hd ?_
  rw [l_mul]
  exact h p e s m args below meth c H locs ls C hl (ok_c (wl_R _) (ok_t (ok_t hs)))
theorem g_land (hd : decode (mB k) pc = .ok (.land, 1)) (hn : nx = pc + 1) (h : Go G d k n0 n nx lv (.inr (.inr (bL x y)) :: r) F I Q) : Go G d k n0 n pc lv (.inr (.inr y) :: .inr (.inr x) :: r) F I Q := by
  intro p e s m args below meth c H locs ls C hl hs
  subst hn
  refine lv_land C.1 C.2.1 hd ?_
  rw [bl_b]
  exact h p e s m args below meth c H locs ls C hl (ok_c (toInt_LR _) (ok_t (ok_t hs)))
theorem g_lor (hd : decode (mB k) pc = .ok (.lor, 1)) (hn : nx = pc + 1) (h : Go G d k n0 n nx lv (.inr (.inr (oL x y)) :: r) F I Q) : Go G d k n0 n pc lv (.inr (.inr y) :: .inr (.inr x) :: r) F I Q := by
  intro p e s m args below meth c H locs ls C hl hs
  subst hn
  refine lv_lor C.1 C.2.1 hd ?_
  rw [bl_o]
  exact h p e s m args below meth c H locs ls C hl (ok_c (toInt_LR _) (ok_t (ok_t hs)))
theorem g_lshl (hd : decode (mB k) pc = .ok (.lshl, 1)) (hn : nx = pc + 1) (h : Go G d k n0 n nx lv (.inr (.inr (slL x y)) :: r) F I Q) : Go G d k n0 n pc lv (.inr (.inl y) :: .inr (.inr x) :: r) F I Q := by
  intro p e s m args below meth c H locs ls C hl hs
  subst hn
  exact lv_lshl C.1 C.2.1 hd (bl_sl x y) (h p e s m args below meth c H locs ls C hl (ok_c (toInt_LR _) (ok_t (ok_t hs))))
theorem g_lshr (hd : decode (mB k) pc = .ok (.lshr, 1)) (hn : nx = pc + 1) (h : Go G d k n0 n nx lv (.inr (.inr (srL x y)) :: r) F I Q) : Go G d k n0 n pc lv (.inr (.inl y) :: .inr (.inr x) :: r) F I Q := by
  intro p e s m args below meth c H locs ls C hl hs
  subst hn
  exact lv_lshr C.1 C.2.1 hd (bl_sr x y) (h p e s m args below meth c H locs ls C hl (ok_c (toInt_LR _) (ok_t (ok_t hs))))
theorem g_lneg (hd : decode (mB k) pc = .ok (.lneg, 1)) (hn : nx = pc + 1) (h : Go G d k n0 n nx lv (.inr (.inr (wl (- x))) :: r) F I Q) : Go G d k n0 n pc lv (.inr (.inr x) :: r) F I Q := by
  intro p e s m args below meth c H locs ls C hl hs
  subst hn
  refine lv_lneg C.1 C.2.1 hd ?_
  rw [l_neg]
  exact h p e s m args below meth c H locs ls C hl (ok_c (wl_R _) (ok_t hs))
theorem g_ldiv (hd : decode (mB k) pc = .ok (.ldiv, 1)) (hn : nx = pc + 1) (hy : y ≠ 0) (h : Go G d k n0 n nx lv (.inr (.inr (wl (x.tdiv y))) :: r) F I Q) : Go G d k n0 n pc lv (.inr (.inr y) :: .inr (.inr x) :: r) F I Q := by
  intro p e s m args below meth c H locs ls C hl hs
  subst hn
  refine lv_ldiv C.1 C.2.1 hd (l_nz (ok_h hs) hy) ?_
  rw [l_div (ok_h (ok_t hs)) (ok_h hs)]
  exact h p e s m args below meth c H locs ls C hl (ok_c (wl_R _) (ok_t (ok_t hs)))
theorem g_lcmp (hd : decode (mB k) pc = .ok (.lcmp, 1)) (hn : nx = pc + 1) (h : Go G d k n0 n nx lv (.inr (.inl (lcm x y)) :: r) F I Q) : Go G d k n0 n pc lv (.inr (.inr y) :: .inr (.inr x) :: r) F I Q := by
  intro p e s m args below meth c H locs ls C hl hs
  subst hn
  refine W.lcmp C.1 C.2.1 hd ?_
  rw [n_cmp (ok_h (ok_t hs)) (ok_h hs)]
  exact h p e s m args below meth c H locs ls C hl (ok_c (lcm_R x y) (ok_t (ok_t hs)))
theorem g_i2l (hd : decode (mB k) pc = .ok (.i2l, 1)) (hn : nx = pc + 1) (h : Go G d k n0 n nx lv (.inr (.inr x) :: r) F I Q) : Go G d k n0 n pc lv (.inr (.inl x) :: r) F I Q := by
  intro p e s m args below meth c H locs ls C hl hs
  subst hn
  exact lv_i2l C.1 C.2.1 hd (n_i2l (ok_h hs)) (h p e s m args below meth c H locs ls C hl (ok_c (by have h9 : iR x := ok_h hs; unfold iR at h9; show lR x; unfold lR; omega) (ok_t hs)))
theorem g_l2i (hd : decode (mB k) pc = .ok (.l2i, 1)) (hn : nx = pc + 1) (h : Go G d k n0 n nx lv (.inr (.inl (wr x)) :: r) F I Q) : Go G d k n0 n pc lv (.inr (.inr x) :: r) F I Q := by
  intro p e s m args below meth c H locs ls C hl hs
  subst hn
  exact lv_l2i C.1 C.2.1 hd (n_l2i (ok_h hs)) (h p e s m args below meth c H locs ls C hl (ok_c (wr_R _) (ok_t hs)))
theorem g_i2b (hd : decode (mB k) pc = .ok (.i2b, 1)) (hn : nx = pc + 1) (h : Go G d k n0 n nx lv (.inr (.inl (wb x)) :: r) F I Q) : Go G d k n0 n pc lv (.inr (.inl x) :: r) F I Q := by
  intro p e s m args below meth c H locs ls C hl hs
  subst hn
  exact lv_i2b C.1 C.2.1 hd (n_i2b (ok_h hs)) (h p e s m args below meth c H locs ls C hl (ok_c (wb_R _) (ok_t hs)))
theorem g_i2s (hd : decode (mB k) pc = .ok (.i2s, 1)) (hn : nx = pc + 1) (h : Go G d k n0 n nx lv (.inr (.inl (wsh x)) :: r) F I Q) : Go G d k n0 n pc lv (.inr (.inl x) :: r) F I Q := by
  intro p e s m args below meth c H locs ls C hl hs
  subst hn
  exact lv_i2s C.1 C.2.1 hd (n_i2s (ok_h hs)) (h p e s m args below meth c H locs ls C hl (ok_c (wsh_R _) (ok_t hs)))
theorem g_i2c (hd : decode (mB k) pc = .ok (.i2c, 1)) (hn : nx = pc + 1) (h : Go G d k n0 n nx lv (.inr (.inl (x % 65536)) :: r) F I Q) : Go G d k n0 n pc lv (.inr (.inl x) :: r) F I Q := by
  intro p e s m args below meth c H locs ls C hl hs
  subst hn
  exact lv_i2c C.1 C.2.1 hd (n_i2c (ok_h hs)) (h p e s m args below meth c H locs ls C hl (ok_c (by show iR _; unfold iR; omega) (ok_t hs)))
theorem g_dupI (hd : decode (mB k) pc = .ok (.dup, 1)) (hn : nx = pc + 1) (h : Go G d k n0 n nx lv (.inr (.inl x) :: .inr (.inl x) :: r) F I Q) : Go G d k n0 n pc lv (.inr (.inl x) :: r) F I Q := by
  intro p e s m args below meth c H locs ls C hl hs
  subst hn
  exact lv_dup C.1 C.2.1 hd (by rw [ctg_tr]; rfl) (h p e s m args below meth c H locs ls C hl (ok_c (ok_h hs) hs))
theorem g_dupA {w : Option Nat} (hd : decode (mB k) pc = .ok (.dup, 1)) (hn : nx = pc + 1) (h : Go G d k n0 n nx lv (.inl w :: .inl w :: r) F I Q) : Go G d k n0 n pc lv (.inl w :: r) F I Q := by
  intro p e s m args below meth c H locs ls C hl hs
  subst hn
  exact lv_dup C.1 C.2.1 hd (by rw [ctg_tr]; rfl) (h p e s m args below meth c H locs ls C hl (ok_c (ok_h hs) hs))
theorem g_dup2 {w : Option Nat} (hd : decode (mB k) pc = .ok (.dup2, 1)) (hn : nx = pc + 1) (h : Go G d k n0 n nx lv (.inr (.inl x) :: .inl w :: .inr (.inl x) :: .inl w :: r) F I Q) : Go G d k n0 n pc lv (.inr (.inl x) :: .inl w :: r) F I Q := by
  intro p e s m args below meth c H locs ls C hl hs
  subst hn
  exact lv_dup2_11 C.1 C.2.1 hd (by rw [ctg_tr]; rfl) (by rw [ctg_tr]; rfl) (h p e s m args below meth c H locs ls C hl (ok_c (ok_h hs) (ok_c (ok_h (ok_t hs)) hs)))
theorem g_popI (hd : decode (mB k) pc = .ok (.pop, 1)) (hn : nx = pc + 1) (h : Go G d k n0 n nx lv (r) F I Q) : Go G d k n0 n pc lv (.inr (.inl x) :: r) F I Q := by
  intro p e s m args below meth c H locs ls C hl hs
  subst hn
  exact lv_pop C.1 C.2.1 hd (by rw [ctg_tr]; rfl) (h p e s m args below meth c H locs ls C hl (ok_t hs))
theorem g_popA {w : Option Nat} (hd : decode (mB k) pc = .ok (.pop, 1)) (hn : nx = pc + 1) (h : Go G d k n0 n nx lv (r) F I Q) : Go G d k n0 n pc lv (.inl w :: r) F I Q := by
  intro p e s m args below meth c H locs ls C hl hs
  subst hn
  exact lv_pop C.1 C.2.1 hd (by rw [ctg_tr]; rfl) (h p e s m args below meth c H locs ls C hl (ok_t hs))
theorem g_goto {off : Int} (hd : decode (mB k) pc = .ok (.goto off, 3)) (ht : (pc : Int) + off = (a : Int)) (h : Go G d k n0 n a lv (r) F I Q) : Go G d k n0 n pc lv (r) F I Q := by
  intro p e s m args below meth c H locs ls C hl hs
  exact lv_goto C.1 C.2.1 hd ht (h p e s m args below meth c H locs ls C hl hs)
theorem g_icmp {cn : Jvm.ClassFile.Cond} {off : Int} (hd : decode (mB k) pc = .ok (.if_icmp cn off, 3)) (hn : nx = pc + 3) (ht : (pc : Int) + off = (a : Int)) (h : br cn x y (Go G d k n0 n a lv (r) F I Q) (Go G d k n0 n nx lv (r) F I Q)) : Go G d k n0 n pc lv (.inr (.inl y) :: .inr (.inl x) :: r) F I Q := by
  subst hn
  intro p e s m args below meth c H locs ls C hl hs
  have hx : iR x := ok_h (ok_t hs)
  have hy : iR y := ok_h hs
  have hr := ok_t (ok_t hs)
  cases cn with
  | eq => exact lv_icmp_eq C.1 C.2.1 hd ht (fun z => h.1 ((n_eq hx hy).mp z) p e s m args below meth c H locs ls C hl hr) (fun z => h.2 (fun q => z ((n_eq hx hy).mpr q)) p e s m args below meth c H locs ls C hl hr)
  | ne => exact lv_icmp_ne C.1 C.2.1 hd ht (fun z => h.1 (fun q => z ((n_eq hx hy).mpr q)) p e s m args below meth c H locs ls C hl hr) (fun z => h.2 ((n_eq hx hy).mp z) p e s m args below meth c H locs ls C hl hr)
  | lt => exact lv_icmp_lt C.1 C.2.1 hd ht (fun z => h.1 ((n_lt hx hy).mp z) p e s m args below meth c H locs ls C hl hr) (fun z => h.2 (fun q => z ((n_lt hx hy).mpr q)) p e s m args below meth c H locs ls C hl hr)
  | ge => exact lv_icmp_ge C.1 C.2.1 hd ht (fun z => h.1 ((n_le hy hx).mp z) p e s m args below meth c H locs ls C hl hr) (fun z => h.2 (fun q => z ((n_le hy hx).mpr q)) p e s m args below meth c H locs ls C hl hr)
  | gt => exact lv_icmp_gt C.1 C.2.1 hd ht (fun z => h.1 ((n_lt hy hx).mp z) p e s m args below meth c H locs ls C hl hr) (fun z => h.2 (fun q => z ((n_lt hy hx).mpr q)) p e s m args below meth c H locs ls C hl hr)
  | le => exact lv_icmp_le C.1 C.2.1 hd ht (fun z => h.1 ((n_le hx hy).mp z) p e s m args below meth c H locs ls C hl hr) (fun z => h.2 (fun q => z ((n_le hx hy).mpr q)) p e s m args below meth c H locs ls C hl hr)
theorem g_if {cn : Jvm.ClassFile.Cond} {off : Int} (hd : decode (mB k) pc = .ok (.ifCond cn off, 3)) (hn : nx = pc + 3) (ht : (pc : Int) + off = (a : Int)) (h : br cn x 0 (Go G d k n0 n a lv (r) F I Q) (Go G d k n0 n nx lv (r) F I Q)) : Go G d k n0 n pc lv (.inr (.inl x) :: r) F I Q := by
  subst hn
  intro p e s m args below meth c H locs ls C hl hs
  have hx : iR x := ok_h hs
  have hy : iR 0 := iR0
  have hr := ok_t hs
  cases cn with
  | eq => exact lv_if_eq C.1 C.2.1 hd ht (fun z => h.1 ((n_eq hx hy).mp z) p e s m args below meth c H locs ls C hl hr) (fun z => h.2 (fun q => z ((n_eq hx hy).mpr q)) p e s m args below meth c H locs ls C hl hr)
  | ne => exact lv_if_ne C.1 C.2.1 hd ht (fun z => h.1 (fun q => z ((n_eq hx hy).mpr q)) p e s m args below meth c H locs ls C hl hr) (fun z => h.2 ((n_eq hx hy).mp z) p e s m args below meth c H locs ls C hl hr)
  | lt => exact lv_if_lt C.1 C.2.1 hd ht (fun z => h.1 ((n_lt hx hy).mp z) p e s m args below meth c H locs ls C hl hr) (fun z => h.2 (fun q => z ((n_lt hx hy).mpr q)) p e s m args below meth c H locs ls C hl hr)
  | ge => exact lv_if_ge C.1 C.2.1 hd ht (fun z => h.1 ((n_le hy hx).mp z) p e s m args below meth c H locs ls C hl hr) (fun z => h.2 (fun q => z ((n_le hy hx).mpr q)) p e s m args below meth c H locs ls C hl hr)
  | gt => exact lv_if_gt C.1 C.2.1 hd ht (fun z => h.1 ((n_lt hy hx).mp z) p e s m args below meth c H locs ls C hl hr) (fun z => h.2 (fun q => z ((n_lt hy hx).mpr q)) p e s m args below meth c H locs ls C hl hr)
  | le => exact lv_if_le C.1 C.2.1 hd ht (fun z => h.1 ((n_le hx hy).mp z) p e s m args below meth c H locs ls C hl hr) (fun z => h.2 (fun q => z ((n_le hx hy).mpr q)) p e s m args below meth c H locs ls C hl hr)
theorem g_ifnullN {off : Int} (hd : decode (mB k) pc = .ok (.ifnull off, 3)) (ht : (pc : Int) + off = (a : Int)) (h : Go G d k n0 n a lv (r) F I Q) : Go G d k n0 n pc lv (.inl none :: r) F I Q := by
  intro p e s m args below meth c H locs ls C hl hs
  exact lv_ifnullN C.1 C.2.1 hd ht (h p e s m args below meth c H locs ls C hl (ok_t hs))
theorem g_ifnullS {off : Int} {w : Nat} (hd : decode (mB k) pc = .ok (.ifnull off, 3)) (hn : nx = pc + 3) (h : Go G d k n0 n nx lv (r) F I Q) : Go G d k n0 n pc lv (.inl (some w) :: r) F I Q := by
  intro p e s m args below meth c H locs ls C hl hs
  subst hn
  exact lv_ifnull C.1 C.2.1 hd (h p e s m args below meth c H locs ls C hl (ok_t hs))
theorem g_ifnonnullS {off : Int} {w : Nat} (hd : decode (mB k) pc = .ok (.ifnonnull off, 3)) (ht : (pc : Int) + off = (a : Int)) (h : Go G d k n0 n a lv (r) F I Q) : Go G d k n0 n pc lv (.inl (some w) :: r) F I Q := by
  intro p e s m args below meth c H locs ls C hl hs
  exact lv_ifnonnull C.1 C.2.1 hd ht (h p e s m args below meth c H locs ls C hl (ok_t hs))
theorem g_ifnonnullN {off : Int} (hd : decode (mB k) pc = .ok (.ifnonnull off, 3)) (hn : nx = pc + 3) (h : Go G d k n0 n nx lv (r) F I Q) : Go G d k n0 n pc lv (.inl none :: r) F I Q := by
  intro p e s m args below meth c H locs ls C hl hs
  subst hn
  exact lv_ifnonnullN C.1 C.2.1 hd (h p e s m args below meth c H locs ls C hl (ok_t hs))
end PURE
end
section
/-! the cells of the world, seen as rows of the walking machine. Own work. -/
def clQ (c : Nat) : vw_C := vwCl.getD c (RX0, TX0, 7)
def clC (c : Nat) : String := (clQ c).1
def clT (c : Nat) : u_T := (clQ c).2.1
def clN (c : Nat) : Nat := (clQ c).2.2
def tyF (c : Nat) : Nat → FieldType := match c with
  | 0 => tyX0
  | 1 => tyX1
  | 2 => tyX2
  | 3 => tyX3
  | 4 => tyX4
  | 5 => tyX5
  | 6 => tyX6
  | 7 => tyX7
  | 8 => tyX8
  | 9 => tyX9
  | 10 => tyX10
  | 11 => tyX11
  | _ => tyX12
theorem cl_get {c : Nat} (h : c < 13) : vwCl[c]? = some (clC c, clT c, clN c) := by
  have h1 : c < vwCl.length := h
  show vwCl[c]? = some (clQ c)
  unfold clQ
  rw [List.getD_eq_getElem?_getD, List.getElem?_eq_getElem h1]
  rfl
theorem c13 {P : Nat → Prop} (h0 : P 0) (h1 : P 1) (h2 : P 2) (h3 : P 3) (h4 : P 4) (h5 : P 5) (h6 : P 6) (h7 : P 7) (h8 : P 8) (h9 : P 9) (h10 : P 10) (h11 : P 11) (h12 : P 12) : ∀ c, c < 13 → P c := by
  intro c h
  match c, h with
  | 0, _ => exact h0
  | 1, _ => exact h1
  | 2, _ => exact h2
  | 3, _ => exact h3
  | 4, _ => exact h4
  | 5, _ => exact h5
  | 6, _ => exact h6
  | 7, _ => exact h7
  | 8, _ => exact h8
  | 9, _ => exact h9
  | 10, _ => exact h10
  | 11, _ => exact h11
  | 12, _ => exact h12
  | c + 13, h => omega
theorem cl_ty : ∀ c, c < 13 → ∀ k, k < clN c → parseFieldDescriptor (clT c k).2.2.1 = some (tyF c k) :=
  c13 tyX0_ok tyX1_ok tyX2_ok tyX3_ok tyX4_ok tyX5_ok tyX6_ok tyX7_ok tyX8_ok tyX9_ok tyX10_ok tyX11_ok tyX12_ok
theorem cl_nm : ∀ c, c < 13 → ∀ a, a < clN c → ∀ b, b < clN c → a ≠ b → (clT c a).2.1 ≠ (clT c b).2.1 :=
  c13 nmX0 nmX1 nmX2 nmX3 nmX4 nmX5 nmX6 nmX7 nmX8 nmX9 nmX10 nmX11 nmX12
theorem mem_goods {w : Jvm.Cond} (h : w ∈ lw_tbl) (hg : goodWord w = true) : w ∈ goods := List.mem_filter.mpr ⟨h, hg⟩
theorem in_hints {ws : List Jvm.Cond} (ps : List Nat) (hp : ws = ps.filterMap (fun i => lw_tbl[i]?)) (hg : ws.all goodWord = true) : ∀ w ∈ ws, w ∈ goods := by
  intro w hw
  have h1 := List.all_eq_true.mp hg w hw
  rw [hp] at hw
  obtain ⟨i, -, hi⟩ := List.mem_filterMap.mp hw
  exact mem_goods (List.mem_of_getElem? hi) h1
theorem cl_in0 : ∀ w ∈ u_ws RX0 TX0 7, w ∈ goods := in_hints [156, 158, 160, 162, 164, 166, 168] (by decide +kernel) (by decide +kernel)
theorem cl_in1 : ∀ w ∈ u_ws RX1 TX1 15, w ∈ goods := in_hints [369, 371, 373, 375, 377, 379, 381, 383, 385, 387, 389, 391, 393, 395, 397] (by decide +kernel) (by decide +kernel)
theorem cl_in2 : ∀ w ∈ u_ws RX2 TX2 4, w ∈ goods := in_hints [127, 129, 131, 133] (by decide +kernel) (by decide +kernel)
theorem cl_in3 : ∀ w ∈ u_ws RX3 TX3 3, w ∈ goods := in_hints [432, 434, 436] (by decide +kernel) (by decide +kernel)
theorem cl_in4 : ∀ w ∈ u_ws RX4 TX4 6, w ∈ goods := in_hints [221, 223, 225, 227, 229, 231] (by decide +kernel) (by decide +kernel)
theorem cl_in5 : ∀ w ∈ u_ws RX5 TX5 5, w ∈ goods := in_hints [249, 251, 253, 255, 257] (by decide +kernel) (by decide +kernel)
theorem cl_in6 : ∀ w ∈ u_ws RX6 TX6 6, w ∈ goods := in_hints [194, 196, 198, 200, 202, 204] (by decide +kernel) (by decide +kernel)
theorem cl_in7 : ∀ w ∈ u_ws RX7 TX7 3, w ∈ goods := in_hints [449, 451, 453] (by decide +kernel) (by decide +kernel)
theorem cl_in8 : ∀ w ∈ u_ws RX8 TX8 12, w ∈ goods := in_hints [278, 280, 282, 284, 286, 288, 290, 292, 294, 296, 298, 300] (by decide +kernel) (by decide +kernel)
theorem cl_in9 : ∀ w ∈ u_ws RX9 TX9 4, w ∈ goods := in_hints [410, 412, 414, 416] (by decide +kernel) (by decide +kernel)
theorem cl_in10 : ∀ w ∈ u_ws RX10 TX10 8, w ∈ goods := in_hints [321, 323, 325, 327, 329, 331, 333, 335] (by decide +kernel) (by decide +kernel)
theorem cl_in11 : ∀ w ∈ u_ws RX11 TX11 11, w ∈ goods := in_hints [467, 469, 471, 473, 475, 477, 479, 481, 483, 485, 487] (by decide +kernel) (by decide +kernel)
theorem cl_in12 : ∀ w ∈ u_ws RX12 TX12 38, w ∈ goods := in_hints [1308, 1310, 1312, 1314, 1316, 1318, 1320, 1322, 1324, 1326, 1328, 1330, 1332, 1334, 1336, 1338, 1340, 1342, 1344, 1346, 1348, 1350, 1352, 1354, 1356, 1358, 1360, 1362, 1364, 1366, 1368, 1370, 1372, 1374, 1376, 1378, 1380, 1382] (by decide +kernel) (by decide +kernel)
theorem cl_in : ∀ c, c < 13 → ∀ w ∈ u_ws (clC c) (clT c) (clN c), w ∈ goods :=
  c13 cl_in0 cl_in1 cl_in2 cl_in3 cl_in4 cl_in5 cl_in6 cl_in7 cl_in8 cl_in9 cl_in10 cl_in11 cl_in12
theorem layG_ge : ∀ (l : List (List (Nat × Nat))) (i : Nat), l.length ≤ i → layG l i = []
  | [], _, _ => rfl
  | _ :: t, 0, h => by simp at h
  | _ :: t, i + 1, h => layG_ge t i (by simpa using h)
theorem lay_big {q : Nat} (h : 256 ≤ q) : lay q = (999, 0) := by
  unfold lay
  rw [layG_ge layT (q / 16) (by show 16 ≤ q / 16; omega)]
  rfl
theorem lay_all : ∀ q, q < 256 → (lay q).1 < 13 → (lay q).2 = clN (lay q).1 := by decide +kernel
theorem lay_cl {q a m : Nat} (h : lay q = (a, m)) (ha : a < 13) : m = clN a := by
  by_cases hq : q < 256
  · have := lay_all q hq (by rw [h]; exact ha)
    rw [h] at this
    exact this
  · rw [lay_big (by omega)] at h
    cases h
    omega
theorem wL_len (G : pG) (n : Nat) (F : pF) (I : pI) : (wL G n F I).length = n := by simp [wL]
theorem wL_at (G : pG) {n q : Nat} (F : pF) (I : pI) (h : q < n) : (wL G n F I)[q]? = some (gH G + q, cE G F I q) := by
  unfold wL
  rw [List.getElem?_map, List.getElem?_range h]
  rfl
theorem wL_lt {G : pG} {n i : Nat} {F : pF} {I : pI} {p : Nat × va_E} (h : (wL G n F I)[i]? = some p) : i < n ∧ p = (gH G + i, cE G F I i) := by
  have h1 : i < n := by
    have := (List.getElem?_eq_some_iff.mp h).1
    rwa [wL_len] at this
  rw [wL_at G F I h1] at h
  exact ⟨h1, (Option.some.inj h).symm⟩
theorem wL_D (G : pG) (n : Nat) (F : pF) (I : pI) : va_D (A0 G) (wL G n F I) := by
  refine ⟨fun i j p q hi hj hpq => ?_, fun k q hk => ?_⟩
  · obtain ⟨-, rfl⟩ := wL_lt hi
    obtain ⟨-, rfl⟩ := wL_lt hj
    simp at hpq
    exact hpq
  · obtain ⟨-, rfl⟩ := wL_lt hk
    exact Nat.le_add_right _ _
theorem wL_set {G : pG} {n q : Nat} {F F' : pF} {I I' : pI} {e : va_E} (he : cE G F' I' q = e) (ho : ∀ k, k ≠ q → cE G F' I' k = cE G F I k) : (wL G n F I).set q (gH G + q, e) = wL G n F' I' := by
  apply List.ext_getElem?
  intro i
  rw [List.getElem?_set, wL_len]
  by_cases hi : i < n
  · rw [wL_at G F' I' hi, wL_at G F I hi]
    by_cases hq : q = i
    · subst hq
      rw [if_pos rfl, if_pos hi, he]
    · rw [if_neg hq, ho i (fun z => hq z.symm)]
  · have h1 : ∀ F I, (wL G n F I)[i]? = none := fun F I => List.getElem?_eq_none (by rw [wL_len]; omega)
    rw [h1, h1]
    split
    · rw [if_neg (by omega)]
    · rfl
theorem wL_push (G : pG) (n : Nat) (F : pF) (I : pI) : wL G (n + 1) F I = wL G n F I ++ [(gH G + n, cE G F I n)] := by
  unfold wL
  rw [List.range_succ, List.map_append]
  rfl
theorem cE_obj {G : pG} {F : pF} {I : pI} {q c m : Nat} (h : lay q = (c, m)) (hc : c < 13) : cE G F I q = .inr (c, (List.range m).map (fV G F I q c)) := by
  unfold cE
  rw [h, if_pos (by show c < 100; omega)]
theorem cE_i {G : pG} {F : pF} {I : pI} {q m : Nat} (h : lay q = (100, m)) : cE G F I q = .inl (gC G 100, (m, .inl (fun j => Int32.ofInt (I q j)))) := by
  unfold cE
  rw [h, if_neg (Nat.not_lt.mpr (by show 100 ≤ _; exact Nat.le_of_ble_eq_true rfl)), if_pos (show _ < 200 from Nat.lt_of_lt_of_le (Nat.lt_succ_self _) (Nat.le_of_ble_eq_true rfl))]
theorem cE_b {G : pG} {F : pF} {I : pI} {q m : Nat} (h : lay q = (101, m)) : cE G F I q = .inl (gC G 101, (m, .inl (fun j => Int32.ofInt (I q j)))) := by
  unfold cE
  rw [h, if_neg (Nat.not_lt.mpr (by show 100 ≤ _; exact Nat.le_of_ble_eq_true rfl)), if_pos (show _ < 200 from Nat.lt_of_lt_of_le (Nat.lt_succ_self _) (Nat.le_of_ble_eq_true rfl))]
theorem cE_r {G : pG} {F : pF} {I : pI} {q t m : Nat} (h : lay q = (t, m)) (ht : 200 ≤ t) : cE G F I q = .inl (gC G t, (m, .inr (.inr (.inr (.inr (fun j => (F q j).map (ad G))))))) := by
  unfold cE
  rw [h, if_neg (by show ¬ t < 100; omega), if_neg (by show ¬ t < 200; omega)]
theorem fV_ne {G : pG} {F F' : pF} {I I' : pI} {q c j : Nat} (hF : F' q j = F q j) (hI : I' q j = I q j) : fV G F' I' q c j = fV G F I q c j := by unfold fV; rw [hF, hI]
theorem cE_ne {G : pG} {F F' : pF} {I I' : pI} {q : Nat} (hF : ∀ j, F' q j = F q j) (hI : ∀ j, I' q j = I q j) : cE G F' I' q = cE G F I q := by
  have h1 : F' q = F q := funext hF
  have h2 : I' q = I q := funext hI
  unfold cE
  have h3 : ∀ c, fV G F' I' q c = fV G F I q c := fun c => funext fun j => fV_ne (hF j) (hI j)
  rw [h1, h2, h3]
theorem set_map {m b : Nat} {f g : Nat → Value} {v : Value} (hb : g b = v) (ho : ∀ j, j ≠ b → g j = f j) : ((List.range m).map f).set b v = (List.range m).map g := by
  apply List.ext_getElem?
  intro i
  rw [List.getElem?_set]
  simp only [List.length_map, List.length_range, List.getElem?_map]
  by_cases hi : i < m
  · rw [List.getElem?_range hi]
    by_cases hq : b = i
    · subst hq
      simp [hi, hb]
    · simp [hq, ho i (fun z => hq z.symm)]
  · rw [List.getElem?_eq_none (by simp; omega)]
    split
    · rw [if_neg (by omega)]; rfl
    · rfl
theorem ad_w (G : pG) {q : Nat} (h : q < EXT) : ad G q = gH G + q := by unfold ad; rw [if_pos h]
theorem uI_ne {I : pI} {q b k : Nat} {x : Int} (h : k ≠ q) (j : Nat) : uI I q b x k j = I k j := by unfold uI; rw [if_neg (fun z => h z.1)]
theorem uF_ne {F : pF} {q b k : Nat} {x : Option Nat} (h : k ≠ q) (j : Nat) : uF F q b x k j = F k j := by unfold uF; rw [if_neg (fun z => h z.1)]
theorem uI_eq (I : pI) (q b : Nat) (x : Int) : uI I q b x q b = x := by unfold uI; rw [if_pos ⟨rfl, rfl⟩]
theorem uF_eq (F : pF) (q b : Nat) (x : Option Nat) : uF F q b x q b = x := by unfold uF; rw [if_pos ⟨rfl, rfl⟩]
theorem uI_nj {I : pI} {q b j : Nat} {x : Int} (h : j ≠ b) (k : Nat) : uI I q b x k j = I k j := by unfold uI; rw [if_neg (fun z => h z.2)]
theorem uF_nj {F : pF} {q b j : Nat} {x : Option Nat} (h : j ≠ b) (k : Nat) : uF F q b x k j = F k j := by unfold uF; rw [if_neg (fun z => h z.2)]
theorem uI_R {I : pI} (h : ∀ k j, iR (I k j)) {x : Int} (hx : iR x) (q b : Nat) : ∀ k j, iR (uI I q b x k j) := by
  intro k j
  unfold uI
  split
  · exact hx
  · exact h k j
/-- how large the heap is at most, from the walk itself -/
theorem W_sz {p : Program} {l : Launch} {e : Env} {R : Room} {s : State} {m : MethodId} {args : Array Value} {below : List Frame} {meth : Method} {c : Code} {H : Heap} {locs : List Loc} {cells slots : Nat} {Q : State → Prop} {g : JFrame}
    (h : H.size ≤ s.heap.size + cells → W p l e R s m args below meth c H locs cells slots Q g) : W p l e R s m args below meth c H locs cells slots Q g := by
  intro T hT X
  subst hT
  exact h X.heapSize T rfl X
/-- the size of the world's heap -/
theorem sz_of {G : pG} {n0 n : Nat} {F : pF} {I : pI} {s : State} {H : Heap} {locs : List Loc} (h0 : s.heap.size = gH G + n0) (hn : n0 ≤ n) (hP : va_P (gD G) vwCl (wL G n F I) H) (hS : va_S (A0 G) s.heap H locs) (hz : H.size ≤ s.heap.size + (n - n0)) : H.size = gH G + n := by
  have h1 := hS.1
  by_cases q : n = n0
  · omega
  · have h2 := (hP (n - 1) _ (wL_at G F I (by omega))).lt
    simp at h2
    omega
end
section
/-! what the machine does at an instruction that reads or writes a cell, for the walking machine. Own work. -/
theorem KX.cls {G : pG} {s : State} {H : Heap} (h : KX G s H) : ∀ (c : Nat) (q : vw_C), vwCl[c]? = some q → u_Kn s q.1 q.2.1 q.2.2 ((gD G).1 c) ((gD G).2 c) := h.2.2.2.2.2.2.1
theorem KX.arr {G : pG} {s : State} {H : Heap} (h : KX G s H) : ∀ t, t ∈ kinds → ArrOfT s (gC G t) (tyA t) ∧ va_RA s (gC G t) (tyA t) := h.2.2.2.2.2.2.2.1
theorem KX.nest {G : pG} {s : State} {H : Heap} (h : KX G s H) : ∀ w, w ∈ lw_tbl → isNest w = true → va_Nw w s := h.2.2.2.2.2.2.2.2.1
theorem KX.ao {G : pG} {s : State} {H : Heap} (h : KX G s H) : va_AO RX5 s ∧ va_AO RX6 s ∧ va_AO RX8 s ∧ va_AO RJ0 s := h.2.2.2.2.2.2.2.2.2.1
theorem KX.sio {G : pG} {s : State} {H : Heap} (h : KX G s H) : gS G = .inl none ∨ gS G = .inl (some (EXT + 4)) := h.2.2.2.2.2.2.2.2.2.2
theorem KX.txt {G : pG} {s : State} {H : Heap} (h : KX G s H) : KT G s H := h.2.2.2.2.2.1
theorem KX.K {G : pG} {s : State} {H : Heap} (h : KX G s H) {t : Nat} (ht : t ∈ kinds) : va_K (gD G) vwCl [(gC G t, tyA t)] s := by
  refine ⟨h.cls, fun i q hq => ?_⟩
  cases i with
  | zero => cases hq; exact h.arr t ht
  | succ i => cases hq
theorem KX.K0 {G : pG} {s : State} {H : Heap} (h : KX G s H) : va_K (gD G) vwCl [] s := ⟨h.cls, fun i q hq => by cases hq⟩
theorem Ct.kx {G : pG} {d k n0 n : Nat} {F : pF} {I : pI} {p : Program} {e : Env} {s : State} {m : MethodId} {args : Array Value} {meth : Method} {c : Code} {H : Heap} {locs : List Loc} (C : Ct G d k n0 n F I p e s m args meth c H locs) : KX G s s.heap := C.2.2.2.2.2.2.2.2.1
theorem Ct.wd {G : pG} {d k n0 n : Nat} {F : pF} {I : pI} {p : Program} {e : Env} {s : State} {m : MethodId} {args : Array Value} {meth : Method} {c : Code} {H : Heap} {locs : List Loc} (C : Ct G d k n0 n F I p e s m args meth c H locs) : Wd G n F I H := C.2.2.2.2.2.2.2.2.2.2.2.2.1
theorem Ct.S {G : pG} {d k n0 n : Nat} {F : pF} {I : pI} {p : Program} {e : Env} {s : State} {m : MethodId} {args : Array Value} {meth : Method} {c : Code} {H : Heap} {locs : List Loc} (C : Ct G d k n0 n F I p e s m args meth c H locs) : va_S (A0 G) s.heap H locs := C.2.2.2.2.2.2.2.2.2.2.2.2.2
theorem Ct.sz0 {G : pG} {d k n0 n : Nat} {F : pF} {I : pI} {p : Program} {e : Env} {s : State} {m : MethodId} {args : Array Value} {meth : Method} {c : Code} {H : Heap} {locs : List Loc} (C : Ct G d k n0 n F I p e s m args meth c H locs) : s.heap.size = gH G + n0 := C.2.2.2.2.2.2.2.2.2.1
theorem Ct.n0 {G : pG} {d k n0 n : Nat} {F : pF} {I : pI} {p : Program} {e : Env} {s : State} {m : MethodId} {args : Array Value} {meth : Method} {c : Code} {H : Heap} {locs : List Loc} (C : Ct G d k n0 n F I p e s m args meth c H locs) : n0 ≤ n := C.2.2.2.2.2.2.2.2.2.2.1
theorem Ct.n1 {G : pG} {d k n0 n : Nat} {F : pF} {I : pI} {p : Program} {e : Env} {s : State} {m : MethodId} {args : Array Value} {meth : Method} {c : Code} {H : Heap} {locs : List Loc} (C : Ct G d k n0 n F I p e s m args meth c H locs) : n ≤ n0 + alc k := C.2.2.2.2.2.2.2.2.2.2.2.1
theorem Ct.own {G : pG} {d k n0 n : Nat} {F : pF} {I : pI} {p : Program} {e : Env} {s : State} {m : MethodId} {args : Array Value} {meth : Method} {c : Code} {H : Heap} {locs : List Loc} (C : Ct G d k n0 n F I p e s m args meth c H locs) : s.vm.findClass (mY k).cls = some m.cls := C.2.2.2.2.2.1
theorem Ct.hts {G : pG} {d k n0 n : Nat} {F : pF} {I : pI} {p : Program} {e : Env} {s : State} {m : MethodId} {args : Array Value} {meth : Method} {c : Code} {H : Heap} {locs : List Loc} (C : Ct G d k n0 n F I p e s m args meth c H locs) : ∀ w ∈ goods, w.before args s = true := C.2.2.2.2.2.2.1
theorem Ct.ini {G : pG} {d k n0 n : Nat} {F : pF} {I : pI} {p : Program} {e : Env} {s : State} {m : MethodId} {args : Array Value} {meth : Method} {c : Code} {H : Heap} {locs : List Loc} (C : Ct G d k n0 n F I p e s m args meth c H locs) : mK k = 2 → meth.name = "<init>" := C.2.2.2.2.2.2.2.1
/-- the same place of the method, another world -/
theorem Ct.mv {G : pG} {d k n0 n n' : Nat} {F F' : pF} {I I' : pI} {p : Program} {e : Env} {s : State} {m : MethodId} {args : Array Value} {meth : Method} {c : Code} {H H' : Heap} {locs locs' : List Loc} (C : Ct G d k n0 n F I p e s m args meth c H locs) (h1 : n0 ≤ n') (h2 : n' ≤ n0 + alc k) (h3 : Wd G n' F' I' H') (h4 : va_S (A0 G) s.heap H' locs') : Ct G d k n0 n' F' I' p e s m args meth c H' locs' :=
  ⟨C.1, C.2.1, C.2.2.1, C.2.2.2.1, C.2.2.2.2.1, C.own, C.hts, C.ini, C.kx, C.sz0, h1, h2, h3, h4⟩
theorem Wd.R {G : pG} {n : Nat} {F : pF} {I : pI} {H : Heap} (h : Wd G n F I H) : ∀ k j, iR (I k j) := h.2.2.2.1
theorem Wd.ext {G : pG} {n : Nat} {F : pF} {I : pI} {H : Heap} (h : Wd G n F I H) : n ≤ EXT := h.2.2.1
theorem Wd.by {G : pG} {n : Nat} {F : pF} {I : pI} {H : Heap} (h : Wd G n F I H) : ∀ k, (lay k).1 = 101 → ∀ j, -128 ≤ I k j ∧ I k j ≤ 127 := h.2.2.2.2
theorem upd_i (f : Nat → Int) (i : Nat) (x : Int) : upd (fun j => Int32.ofInt (f j)) i (Int32.ofInt x) = fun j => Int32.ofInt (if j = i then x else f j) := by
  funext j
  unfold upd
  split <;> rfl
section HEAP
variable {G : pG} {d k n0 n pc nx a b i q m : Nat} {lv : List (Option pV)} {r : List pV} {F : pF} {I : pI} {Q : Option pV → pF → pI → Prop} {x y : Int} {v : pV}
/-- behind a store: the world anew -/
theorem after {p : Program} {e : Env} {s : State} {mm : MethodId} {args : Array Value} {below : List Frame} {meth : Method} {c : Code} {H H1 : Heap} {locs locs1 : List Loc} {ls : Array Slot} {st : List pV} {F' : pF} {I' : pI} {pc' : Nat}
    (C : Ct G d k n0 n F I p e s mm args meth c H locs) (hl : Hs G k ls lv) (hs : ∀ v ∈ st, okV v) (h : Go G d k n0 n pc' lv st F' I' Q)
    (hP : va_P (gD G) vwCl (wL G n F' I') H1) (hS : va_S (A0 G) s.heap H1 locs1) (hR : ∀ k j, iR (I' k j)) (hB : ∀ k, (lay k).1 = 101 → ∀ j, -128 ≤ I' k j ∧ I' k j ≤ 127) :
    W p (gL G) e (Rm d k n0) s mm args below meth c H1 locs1 (n - n0) (sz n - sz n0) (MQ below (fun a st o t => Qc G (n0 + alc k) Q a st o t ∧ va_F (A0 G) st t) args s (alc k) (sz (n0 + alc k) - sz n0) (A0 G)) (F0 mm pc' ls (st.map (tr G))) :=
  W_sz fun hz => h p e s mm args below meth c H1 locs1 ls (C.mv C.n0 C.n1 ⟨sz_of C.sz0 C.n0 hP hS hz, hP, C.wd.ext, hR, hB⟩ hS) hl hs
theorem tr_w {n : Nat} (hn : n ≤ EXT) (hq : q < n) : tr G (.inl (some q)) = .ref (gH G + q) := by
  show Value.ref (ad G q) = _
  rw [ad_w G (by omega)]
theorem g_getI (hd : decode (mB k) pc = .ok (.getfield i, 3)) (hn : nx = pc + 3) (ha : a < 13) (hb : b < clN a) (hf : frf a b = false)
    (hw : Jvm.Cond.fieldLink (mY k).cls i (clT a b).1 (clT a b).2.1 (clT a b).2.2.1 ∈ goods) (hq : lay q = (a, m)) (hqn : q < n)
    (h : Go G d k n0 n nx lv (.inr (.inl (I q b)) :: r) F I Q) : Go G d k n0 n pc lv (.inl (some q) :: r) F I Q := by
  intro p e s mm args below meth c H locs ls C hl hs
  subst hn
  have hm := lay_cl hq ha
  have h0 := wL_at G F I hqn
  rw [cE_obj hq ha] at h0
  have h3 := h p e s mm args below meth c H locs ls C hl (ok_c (C.wd.R q b) (ok_t hs))
  show W p (gL G) e (Rm d k n0) s mm args below meth c H locs (n - n0) (sz n - sz n0) _ (F0 mm pc ls (tr G (.inl (some q)) :: r.map (tr G)))
  rw [tr_w C.wd.ext hqn]
  refine va_get (D := gD G) (cl := vwCl) (own := (mY k).cls) (ref := (clT a b).1) C.1 C.2.1 C.hts (cl_in a ha) C.own C.kx.K0 C.wd.2.1 q h0 (cl_get ha) b hb (C.hts _ hw) (fun _ z => z) (v := tr G (.inr (.inl (I q b)))) ?_ hd h3
  rw [List.getElem?_map, List.getElem?_range (by omega)]
  show some (fV G F I q a b) = _
  unfold fV
  rw [hf]
  rfl
theorem g_getIN {host : String} (hd : decode (mB k) pc = .ok (.getfield i, 3)) (hn : nx = pc + 3) (ha : a < 13) (hb : b < clN a) (hf : frf a b = false)
    (hw : Jvm.Cond.fieldLinkNest (mY k).cls i (clT a b).1 (clT a b).2.1 (clT a b).2.2.1 host ∈ lw_tbl) (hq : lay q = (a, m)) (hqn : q < n)
    (h : Go G d k n0 n nx lv (.inr (.inl (I q b)) :: r) F I Q) : Go G d k n0 n pc lv (.inl (some q) :: r) F I Q := by
  intro p e s mm args below meth c H locs ls C hl hs
  subst hn
  have hm := lay_cl hq ha
  have h0 := wL_at G F I hqn
  rw [cE_obj hq ha] at h0
  have h3 := h p e s mm args below meth c H locs ls C hl (ok_c (C.wd.R q b) (ok_t hs))
  show W p (gL G) e (Rm d k n0) s mm args below meth c H locs (n - n0) (sz n - sz n0) _ (F0 mm pc ls (tr G (.inl (some q)) :: r.map (tr G)))
  rw [tr_w C.wd.ext hqn]
  refine va_getN (D := gD G) (cl := vwCl) (own := (mY k).cls) (ref := (clT a b).1) (host := host) C.1 C.2.1 C.hts (cl_in a ha) C.own C.kx.K0 C.wd.2.1 q h0 (cl_get ha) b hb (va_Nw.use rfl (C.kx.nest _ hw rfl)) (fun _ z => z) (v := tr G (.inr (.inl (I q b)))) ?_ hd h3
  rw [List.getElem?_map, List.getElem?_range (by omega)]
  show some (fV G F I q a b) = _
  unfold fV
  rw [hf]
  rfl
theorem va_rf_tr (G : pG) (w : Option Nat) : va_rf (w.map (ad G)) = tr G (.inl w) := by cases w <;> rfl
theorem g_getR (hd : decode (mB k) pc = .ok (.getfield i, 3)) (hn : nx = pc + 3) (ha : a < 13) (hb : b < clN a) (hf : frf a b = true)
    (hw : Jvm.Cond.fieldLink (mY k).cls i (clT a b).1 (clT a b).2.1 (clT a b).2.2.1 ∈ goods) (hq : lay q = (a, m)) (hqn : q < n)
    (h : ∀ w, F q b = w → Go G d k n0 n nx lv (.inl w :: r) F I Q) : Go G d k n0 n pc lv (.inl (some q) :: r) F I Q := by
  intro p e s mm args below meth c H locs ls C hl hs
  subst hn
  have hm := lay_cl hq ha
  have h0 := wL_at G F I hqn
  rw [cE_obj hq ha] at h0
  have h3 := h _ rfl p e s mm args below meth c H locs ls C hl (ok_c trivial (ok_t hs))
  show W p (gL G) e (Rm d k n0) s mm args below meth c H locs (n - n0) (sz n - sz n0) _ (F0 mm pc ls (tr G (.inl (some q)) :: r.map (tr G)))
  rw [tr_w C.wd.ext hqn]
  refine va_get (D := gD G) (cl := vwCl) (own := (mY k).cls) (ref := (clT a b).1) C.1 C.2.1 C.hts (cl_in a ha) C.own C.kx.K0 C.wd.2.1 q h0 (cl_get ha) b hb (C.hts _ hw) (fun _ z => z) (v := tr G (.inl (F q b))) ?_ hd h3
  rw [List.getElem?_map, List.getElem?_range (by omega), ← va_rf_tr]
  show some (fV G F I q a b) = _
  unfold fV
  rw [if_pos hf]
theorem g_getRN {host : String} (hd : decode (mB k) pc = .ok (.getfield i, 3)) (hn : nx = pc + 3) (ha : a < 13) (hb : b < clN a) (hf : frf a b = true)
    (hw : Jvm.Cond.fieldLinkNest (mY k).cls i (clT a b).1 (clT a b).2.1 (clT a b).2.2.1 host ∈ lw_tbl) (hq : lay q = (a, m)) (hqn : q < n)
    (h : ∀ w, F q b = w → Go G d k n0 n nx lv (.inl w :: r) F I Q) : Go G d k n0 n pc lv (.inl (some q) :: r) F I Q := by
  intro p e s mm args below meth c H locs ls C hl hs
  subst hn
  have hm := lay_cl hq ha
  have h0 := wL_at G F I hqn
  rw [cE_obj hq ha] at h0
  have h3 := h _ rfl p e s mm args below meth c H locs ls C hl (ok_c trivial (ok_t hs))
  show W p (gL G) e (Rm d k n0) s mm args below meth c H locs (n - n0) (sz n - sz n0) _ (F0 mm pc ls (tr G (.inl (some q)) :: r.map (tr G)))
  rw [tr_w C.wd.ext hqn]
  refine va_getN (D := gD G) (cl := vwCl) (own := (mY k).cls) (ref := (clT a b).1) (host := host) C.1 C.2.1 C.hts (cl_in a ha) C.own C.kx.K0 C.wd.2.1 q h0 (cl_get ha) b hb (va_Nw.use rfl (C.kx.nest _ hw rfl)) (fun _ z => z) (v := tr G (.inl (F q b))) ?_ hd h3
  rw [List.getElem?_map, List.getElem?_range (by omega), ← va_rf_tr]
  show some (fV G F I q a b) = _
  unfold fV
  rw [if_pos hf]
/-- the cells behind a store of a whole number into a field -/
theorem cE_putI (ha : a < 13) (hf : frf a b = false) (hq : lay q = (a, m)) : cE G F (uI I q b x) q = .inr (a, ((List.range m).map (fV G F I q a)).set b (tr G (.inr (.inl x)))) := by
  rw [cE_obj hq ha]
  refine congrArg (fun z => Sum.inr (a, z)) (set_map ?_ (fun j hj => fV_ne rfl (uI_nj hj q))).symm
  unfold fV
  rw [hf, uI_eq]
  rfl
theorem cE_putR {w : Option Nat} (ha : a < 13) (hf : frf a b = true) (hq : lay q = (a, m)) : cE G (uF F q b w) I q = .inr (a, ((List.range m).map (fV G F I q a)).set b (tr G (.inl w))) := by
  rw [cE_obj hq ha]
  refine congrArg (fun z => Sum.inr (a, z)) (set_map ?_ (fun j hj => fV_ne (uF_nj hj q) rfl)).symm
  unfold fV
  rw [if_pos hf, uF_eq, va_rf_tr]
theorem by_uI (hB : ∀ k, (lay k).1 = 101 → ∀ j, -128 ≤ I k j ∧ I k j ≤ 127) (hq : (lay q).1 ≠ 101) : ∀ k, (lay k).1 = 101 → ∀ j, -128 ≤ uI I q b x k j ∧ uI I q b x k j ≤ 127 := by
  intro k hk j
  rw [uI_ne (fun z => hq (by rw [← z]; exact hk)) j]
  exact hB k hk j
theorem fit_i (x : Int) : narrow .int (tr G (.inr (.inl x))) = tr G (.inr (.inl x)) ∧ fits .int (tr G (.inr (.inl x))) = true := ⟨rfl, rfl⟩
theorem fit_z {x : Int} (h : x = 0 ∨ x = 1) : narrow .boolean (tr G (.inr (.inl x))) = tr G (.inr (.inl x)) ∧ fits .boolean (tr G (.inr (.inl x))) = true := by
  rcases h with rfl | rfl
  · exact ⟨rfl, rfl⟩
  · exact ⟨rfl, rfl⟩
theorem g_putI (hd : decode (mB k) pc = .ok (.putfield i, 3)) (hn : nx = pc + 3) (ha : a < 13) (hb : b < clN a) (hf : frf a b = false) (hfin : (clT a b).2.2.2 = false)
    (hw : Jvm.Cond.fieldLink (mY k).cls i (clT a b).1 (clT a b).2.1 (clT a b).2.2.1 ∈ goods) (hq : lay q = (a, m)) (hqn : q < n)
    (hfit : narrow (tyF a b) (tr G (.inr (.inl x))) = tr G (.inr (.inl x)) ∧ fits (tyF a b) (tr G (.inr (.inl x))) = true)
    (h : Go G d k n0 n nx lv r F (uI I q b x) Q) : Go G d k n0 n pc lv (.inr (.inl x) :: .inl (some q) :: r) F I Q := by
  intro p e s mm args below meth c H locs ls C hl hs
  subst hn
  have hm := lay_cl hq ha
  have h0 := wL_at G F I hqn
  rw [cE_obj hq ha] at h0
  show W p (gL G) e (Rm d k n0) s mm args below meth c H locs (n - n0) (sz n - sz n0) _ (F0 mm pc ls (tr G (.inr (.inl x)) :: tr G (.inl (some q)) :: r.map (tr G)))
  rw [tr_w C.wd.ext hqn]
  refine va_put (D := gD G) (cl := vwCl) (own := (mY k).cls) (ref := (clT a b).1) C.1 C.2.1 C.hts (cl_in a ha) (tyF a) (cl_ty a ha) (cl_nm a ha) C.own C.kx.K0 C.wd.2.1 (wL_D G n F I) C.S q h0 (cl_get ha) b hb (C.hts _ hw) (fun _ z => z) hfin (cl_ty a ha b hb) hfit.1 hfit.2 (by simp; omega) hd (fun H1 locs1 hP hD hS => ?_)
  rw [wL_set (F' := F) (I' := uI I q b x) (cE_putI ha hf hq) (fun k hk => cE_ne (fun _ => rfl) (uI_ne hk))] at hP
  exact after C hl (ok_t (ok_t hs)) h hP hS (uI_R C.wd.R (ok_h hs) q b) (by_uI C.wd.by (by rw [hq]; show a ≠ 101; omega))
theorem g_putIN {host : String} (hd : decode (mB k) pc = .ok (.putfield i, 3)) (hn : nx = pc + 3) (ha : a < 13) (hb : b < clN a) (hf : frf a b = false) (hfin : (clT a b).2.2.2 = false)
    (hw : Jvm.Cond.fieldLinkNest (mY k).cls i (clT a b).1 (clT a b).2.1 (clT a b).2.2.1 host ∈ lw_tbl) (hq : lay q = (a, m)) (hqn : q < n)
    (hfit : narrow (tyF a b) (tr G (.inr (.inl x))) = tr G (.inr (.inl x)) ∧ fits (tyF a b) (tr G (.inr (.inl x))) = true)
    (h : Go G d k n0 n nx lv r F (uI I q b x) Q) : Go G d k n0 n pc lv (.inr (.inl x) :: .inl (some q) :: r) F I Q := by
  intro p e s mm args below meth c H locs ls C hl hs
  subst hn
  have hm := lay_cl hq ha
  have h0 := wL_at G F I hqn
  rw [cE_obj hq ha] at h0
  show W p (gL G) e (Rm d k n0) s mm args below meth c H locs (n - n0) (sz n - sz n0) _ (F0 mm pc ls (tr G (.inr (.inl x)) :: tr G (.inl (some q)) :: r.map (tr G)))
  rw [tr_w C.wd.ext hqn]
  refine va_putN (D := gD G) (cl := vwCl) (own := (mY k).cls) (ref := (clT a b).1) (host := host) C.1 C.2.1 C.hts (cl_in a ha) (tyF a) (cl_ty a ha) (cl_nm a ha) C.own C.kx.K0 C.wd.2.1 (wL_D G n F I) C.S q h0 (cl_get ha) b hb (va_Nw.use rfl (C.kx.nest _ hw rfl)) (fun _ z => z) hfin (cl_ty a ha b hb) hfit.1 hfit.2 (by simp; omega) hd (fun H1 locs1 hP hD hS => ?_)
  rw [wL_set (F' := F) (I' := uI I q b x) (cE_putI ha hf hq) (fun k hk => cE_ne (fun _ => rfl) (uI_ne hk))] at hP
  exact after C hl (ok_t (ok_t hs)) h hP hS (uI_R C.wd.R (ok_h hs) q b) (by_uI C.wd.by (by rw [hq]; show a ≠ 101; omega))
def isR : FieldType → Bool
  | .object _ => true
  | .array _ => true
  | _ => false
theorem fit_r {t : FieldType} (ht : isR t = true) (w : Option Nat) : narrow t (tr G (.inl w)) = tr G (.inl w) ∧ fits t (tr G (.inl w)) = true := by
  cases t <;> first | (cases ht; done) | (cases w <;> exact ⟨rfl, rfl⟩)
theorem g_putR {w : Option Nat} (hd : decode (mB k) pc = .ok (.putfield i, 3)) (hn : nx = pc + 3) (ha : a < 13) (hb : b < clN a) (hf : frf a b = true) (hfin : (clT a b).2.2.2 = false) (ht : isR (tyF a b) = true)
    (hw : Jvm.Cond.fieldLink (mY k).cls i (clT a b).1 (clT a b).2.1 (clT a b).2.2.1 ∈ goods) (hq : lay q = (a, m)) (hqn : q < n)
    (h : Go G d k n0 n nx lv r (uF F q b w) I Q) : Go G d k n0 n pc lv (.inl w :: .inl (some q) :: r) F I Q := by
  intro p e s mm args below meth c H locs ls C hl hs
  subst hn
  have hm := lay_cl hq ha
  have h0 := wL_at G F I hqn
  rw [cE_obj hq ha] at h0
  show W p (gL G) e (Rm d k n0) s mm args below meth c H locs (n - n0) (sz n - sz n0) _ (F0 mm pc ls (tr G (.inl w) :: tr G (.inl (some q)) :: r.map (tr G)))
  rw [tr_w C.wd.ext hqn]
  refine va_put (D := gD G) (cl := vwCl) (own := (mY k).cls) (ref := (clT a b).1) C.1 C.2.1 C.hts (cl_in a ha) (tyF a) (cl_ty a ha) (cl_nm a ha) C.own C.kx.K0 C.wd.2.1 (wL_D G n F I) C.S q h0 (cl_get ha) b hb (C.hts _ hw) (fun _ z => z) hfin (cl_ty a ha b hb) (fit_r ht w).1 (fit_r ht w).2 (by simp; omega) hd (fun H1 locs1 hP hD hS => ?_)
  rw [wL_set (F' := uF F q b w) (I' := I) (cE_putR ha hf hq) (fun k hk => cE_ne (uF_ne hk) (fun _ => rfl))] at hP
  exact after C hl (ok_t (ok_t hs)) h hP hS C.wd.R C.wd.by
theorem g_putF {w : Option Nat} (hd : decode (mB k) pc = .ok (.putfield i, 3)) (hn : nx = pc + 3) (ha : a < 13) (hb : b < clN a) (hf : frf a b = true) (hfin : (clT a b).2.2.2 = true) (hi2 : mK k = 2) (hdc : (clT a b).1 = (mY k).cls) (ht : isR (tyF a b) = true)
    (hw : Jvm.Cond.fieldLink (mY k).cls i (clT a b).1 (clT a b).2.1 (clT a b).2.2.1 ∈ goods) (hq : lay q = (a, m)) (hqn : q < n)
    (h : Go G d k n0 n nx lv r (uF F q b w) I Q) : Go G d k n0 n pc lv (.inl w :: .inl (some q) :: r) F I Q := by
  intro p e s mm args below meth c H locs ls C hl hs
  subst hn
  have hm := lay_cl hq ha
  have h0 := wL_at G F I hqn
  rw [cE_obj hq ha] at h0
  show W p (gL G) e (Rm d k n0) s mm args below meth c H locs (n - n0) (sz n - sz n0) _ (F0 mm pc ls (tr G (.inl w) :: tr G (.inl (some q)) :: r.map (tr G)))
  rw [tr_w C.wd.ext hqn]
  refine va_putF (D := gD G) (cl := vwCl) (own := (mY k).cls) (ref := (clT a b).1) C.1 C.2.1 C.hts (cl_in a ha) (tyF a) (cl_ty a ha) (cl_nm a ha) C.own C.kx.K0 C.wd.2.1 (wL_D G n F I) C.S q h0 (cl_get ha) b hb (C.hts _ hw) (fun _ z => z) hfin (C.ini hi2) hdc (cl_ty a ha b hb) (fit_r ht w).1 (fit_r ht w).2 (by simp; omega) hd (fun H1 locs1 hP hD hS => ?_)
  rw [wL_set (F' := uF F q b w) (I' := I) (cE_putR ha hf hq) (fun k hk => cE_ne (uF_ne hk) (fun _ => rfl))] at hP
  exact after C hl (ok_t (ok_t hs)) h hP hS C.wd.R C.wd.by
end HEAP
end
section
/-! rows, new cells, what was there before, for the walking machine. Own work. -/
section ARR
variable {G : pG} {d k n0 n pc nx a b i q m : Nat} {lv : List (Option pV)} {r : List pV} {F : pF} {I : pI} {Q : Option pV → pF → pI → Prop} {x y z : Int} {v : pV}
theorem kd (t : Nat) (h : t = 100 ∨ t = 101 ∨ t = 205 ∨ t = 206 ∨ t = 208 ∨ t = 299) : t ∈ kinds := by
  unfold kinds
  simp
  exact h
theorem g_iald (hd : decode (mB k) pc = .ok (.iaload, 1)) (hn : nx = pc + 1) (hq : lay q = (100, m)) (hqn : q < n) (h0 : 0 ≤ z) (h1 : z < (m : Int))
    (h : Go G d k n0 n nx lv (.inr (.inl (I q z.toNat)) :: r) F I Q) : Go G d k n0 n pc lv (.inr (.inl z) :: .inl (some q) :: r) F I Q := by
  intro p e s mm args below meth c H locs ls C hl hs
  subst hn
  have hz : iR z := ok_h hs
  have h2 := wL_at G F I hqn
  rw [cE_i hq] at h2
  have h3 := h p e s mm args below meth c H locs ls C hl (ok_c (C.wd.R q _) (ok_t (ok_t hs)))
  show W p (gL G) e (Rm d k n0) s mm args below meth c H locs (n - n0) (sz n - sz n0) _ (F0 mm pc ls (tr G (.inr (.inl z)) :: tr G (.inl (some q)) :: r.map (tr G)))
  rw [tr_w C.wd.ext hqn]
  refine va_iald (D := gD G) (cl := vwCl) C.1 C.2.1 (C.kx.K (kd 100 (Or.inl rfl))) C.wd.2.1 q 0 h2 rfl (n_in hz h0 h1) hd ?_
  rw [n_cl hz]
  exact h3
theorem g_bald (hd : decode (mB k) pc = .ok (.baload, 1)) (hn : nx = pc + 1) (hq : lay q = (101, m)) (hqn : q < n) (h0 : 0 ≤ z) (h1 : z < (m : Int))
    (h : Go G d k n0 n nx lv (.inr (.inl (I q z.toNat)) :: r) F I Q) : Go G d k n0 n pc lv (.inr (.inl z) :: .inl (some q) :: r) F I Q := by
  intro p e s mm args below meth c H locs ls C hl hs
  subst hn
  have hz : iR z := ok_h hs
  have h2 := wL_at G F I hqn
  rw [cE_b hq] at h2
  have h3 := h p e s mm args below meth c H locs ls C hl (ok_c (C.wd.R q _) (ok_t (ok_t hs)))
  show W p (gL G) e (Rm d k n0) s mm args below meth c H locs (n - n0) (sz n - sz n0) _ (F0 mm pc ls (tr G (.inr (.inl z)) :: tr G (.inl (some q)) :: r.map (tr G)))
  rw [tr_w C.wd.ext hqn]
  refine va_bald (D := gD G) (cl := vwCl) C.1 C.2.1 (C.kx.K (kd 101 (by omega))) C.wd.2.1 q 0 h2 rfl (n_in hz h0 h1) hd ?_
  rw [n_cl hz]
  exact h3
theorem tyA_r {t : Nat} (ht : t ∈ [205, 206, 208, 299]) : t ∈ kinds ∧ 200 ≤ t ∧ ∃ C, tyA t = .object C := by
  simp at ht
  rcases ht with rfl | rfl | rfl | rfl
  · exact ⟨kd _ (by omega), by omega, _, rfl⟩
  · exact ⟨kd _ (by omega), by omega, _, rfl⟩
  · exact ⟨kd _ (by omega), by omega, _, rfl⟩
  · exact ⟨kd _ (by omega), by omega, _, rfl⟩
theorem g_aald {t : Nat} (hd : decode (mB k) pc = .ok (.aaload, 1)) (hn : nx = pc + 1) (ht : t ∈ [205, 206, 208, 299]) (hq : lay q = (t, m)) (hqn : q < n) (h0 : 0 ≤ z) (h1 : z < (m : Int))
    (h : ∀ w, F q z.toNat = w → Go G d k n0 n nx lv (.inl w :: r) F I Q) : Go G d k n0 n pc lv (.inr (.inl z) :: .inl (some q) :: r) F I Q := by
  intro p e s mm args below meth c H locs ls C hl hs
  subst hn
  obtain ⟨hk, h200, E, hE⟩ := tyA_r ht
  have hz : iR z := ok_h hs
  have h2 := wL_at G F I hqn
  rw [cE_r hq h200] at h2
  have h3 := h _ rfl p e s mm args below meth c H locs ls C hl (ok_c trivial (ok_t (ok_t hs)))
  show W p (gL G) e (Rm d k n0) s mm args below meth c H locs (n - n0) (sz n - sz n0) _ (F0 mm pc ls (tr G (.inr (.inl z)) :: tr G (.inl (some q)) :: r.map (tr G)))
  rw [tr_w C.wd.ext hqn]
  have hK := C.kx.K hk
  rw [hE] at hK
  refine va_aldq (D := gD G) (cl := vwCl) C.1 C.2.1 hK C.wd.2.1 q 0 h2 rfl (n_in hz h0 h1) hd ?_
  rw [n_cl hz, va_rf_tr]
  exact h3
theorem cE_ast (hq : lay q = (100, m)) : cE G F (uI I q i x) q = .inl (gC G 100, m, .inl (upd (fun j => Int32.ofInt (I q j)) i (Int32.ofInt x))) := by
  rw [cE_i hq, upd_i]
  refine congrArg (fun g => Sum.inl (gC G 100, m, Sum.inl g)) (funext fun j => ?_)
  unfold uI
  by_cases hj : j = i
  · rw [if_pos ⟨rfl, hj⟩, if_pos hj]
  · rw [if_neg (fun z => hj z.2), if_neg hj]
theorem cE_bst (hq : lay q = (101, m)) : cE G F (uI I q i x) q = .inl (gC G 101, m, .inl (upd (fun j => Int32.ofInt (I q j)) i (Int32.ofInt x))) := by
  rw [cE_b hq, upd_i]
  refine congrArg (fun g => Sum.inl (gC G 101, m, Sum.inl g)) (funext fun j => ?_)
  unfold uI
  by_cases hj : j = i
  · rw [if_pos ⟨rfl, hj⟩, if_pos hj]
  · rw [if_neg (fun z => hj z.2), if_neg hj]
theorem g_iast (hd : decode (mB k) pc = .ok (.iastore, 1)) (hn : nx = pc + 1) (hq : lay q = (100, m)) (hqn : q < n) (h0 : 0 ≤ z) (h1 : z < (m : Int))
    (h : Go G d k n0 n nx lv r F (uI I q z.toNat x) Q) : Go G d k n0 n pc lv (.inr (.inl x) :: .inr (.inl z) :: .inl (some q) :: r) F I Q := by
  intro p e s mm args below meth c H locs ls C hl hs
  subst hn
  have hz : iR z := ok_h (ok_t hs)
  have h2 := wL_at G F I hqn
  rw [cE_i hq] at h2
  show W p (gL G) e (Rm d k n0) s mm args below meth c H locs (n - n0) (sz n - sz n0) _ (F0 mm pc ls (tr G (.inr (.inl x)) :: tr G (.inr (.inl z)) :: tr G (.inl (some q)) :: r.map (tr G)))
  rw [tr_w C.wd.ext hqn]
  refine va_iast (D := gD G) (cl := vwCl) C.1 C.2.1 (C.kx.K (kd 100 (Or.inl rfl))) C.wd.2.1 (wL_D G n F I) C.S q 0 h2 rfl (n_in hz h0 h1) hd (fun H1 locs1 hP hD hS => ?_)
  rw [n_cl hz, wL_set (F' := F) (I' := uI I q z.toNat x) (cE_ast hq) (fun k hk => cE_ne (fun _ => rfl) (uI_ne hk))] at hP
  exact after C hl (ok_t (ok_t (ok_t hs))) h hP hS (uI_R C.wd.R (ok_h hs) q _) (by_uI C.wd.by (by rw [hq]; show 100 ≠ 101; omega))
theorem nar_b (x : Int) (hx : iR x) : vp_nar .byte (Int32.ofInt x) = Int32.ofInt (wb x) := n_i2b hx
theorem g_bast (hd : decode (mB k) pc = .ok (.bastore, 1)) (hn : nx = pc + 1) (hq : lay q = (101, m)) (hqn : q < n) (h0 : 0 ≤ z) (h1 : z < (m : Int))
    (h : Go G d k n0 n nx lv r F (uI I q z.toNat (wb x)) Q) : Go G d k n0 n pc lv (.inr (.inl x) :: .inr (.inl z) :: .inl (some q) :: r) F I Q := by
  intro p e s mm args below meth c H locs ls C hl hs
  subst hn
  have hz : iR z := ok_h (ok_t hs)
  have hx : iR x := ok_h hs
  have h2 := wL_at G F I hqn
  rw [cE_b hq] at h2
  show W p (gL G) e (Rm d k n0) s mm args below meth c H locs (n - n0) (sz n - sz n0) _ (F0 mm pc ls (tr G (.inr (.inl x)) :: tr G (.inr (.inl z)) :: tr G (.inl (some q)) :: r.map (tr G)))
  rw [tr_w C.wd.ext hqn]
  refine va_bast (D := gD G) (cl := vwCl) C.1 C.2.1 (C.kx.K (kd 101 (by omega))) C.wd.2.1 (wL_D G n F I) C.S q 0 h2 rfl (n_in hz h0 h1) hd (fun H1 locs1 hP hD hS => ?_)
  rw [n_cl hz, nar_b x hx, wL_set (F' := F) (I' := uI I q z.toNat (wb x)) (cE_bst hq) (fun k hk => cE_ne (fun _ => rfl) (uI_ne hk))] at hP
  refine after C hl (ok_t (ok_t (ok_t hs))) h hP hS (uI_R C.wd.R (wb_R x) q _) (fun k hk j => ?_)
  unfold uI
  split
  · unfold wb; omega
  · exact C.wd.by k hk j
theorem cE_rst {t w : Nat} (hq : lay q = (t, m)) (ht : 200 ≤ t) : cE G (uF F q i (some w)) I q = .inl (gC G t, m, .inr (.inr (.inr (.inr (va_up (fun j => (F q j).map (ad G)) i (some (ad G w))))))) := by
  rw [cE_r hq ht]
  refine congrArg (fun g => Sum.inl (gC G t, m, Sum.inr (Sum.inr (Sum.inr (Sum.inr g))))) (funext fun j => ?_)
  unfold uF va_up
  by_cases hj : j = i
  · rw [if_pos ⟨rfl, hj⟩, if_pos hj]; rfl
  · rw [if_neg (fun z => hj z.2), if_neg hj]
theorem g_aast {t y : Nat} (hd : decode (mB k) pc = .ok (.aastore, 1)) (hn : nx = pc + 1) (hq : lay q = (t, m)) (hqn : q < n) (h0 : 0 ≤ z) (h1 : z < (m : Int))
    (hv : (∃ j, t = 299 ∧ j < 18 ∧ y = EXT + 10 + j) ∨ (∃ c m', t = 200 + c ∧ c ∈ [5, 6, 8] ∧ lay y = (c, m') ∧ y < n))
    (h : Go G d k n0 n nx lv r (uF F q z.toNat (some y)) I Q) : Go G d k n0 n pc lv (.inl (some y) :: .inr (.inl z) :: .inl (some q) :: r) F I Q := by
  intro p e s mm args below meth c H locs ls C hl hs
  subst hn
  have ht : t ∈ [205, 206, 208, 299] := by
    rcases hv with ⟨j, rfl, -, -⟩ | ⟨c', m', rfl, hc, -, -⟩
    · simp
    · simp at hc ⊢
      omega
  obtain ⟨hk, h200, E, hE⟩ := tyA_r ht
  have hz : iR z := ok_h (ok_t hs)
  have h2 := wL_at G F I hqn
  rw [cE_r hq h200] at h2
  show W p (gL G) e (Rm d k n0) s mm args below meth c H locs (n - n0) (sz n - sz n0) _ (F0 mm pc ls (.ref (ad G y) :: tr G (.inr (.inl z)) :: tr G (.inl (some q)) :: r.map (tr G)))
  rw [tr_w C.wd.ext hqn]
  have hK := C.kx.K hk
  rw [hE] at hK
  have hany : va_Any E s H (ad G y) := by
    rcases hv with ⟨j, rfl, hj, rfl⟩ | ⟨c', m', rfl, hc, hy, hyn⟩
    · have hE2 : FieldType.object RJ0 = .object E := hE
      cases hE2
      obtain ⟨cell, f1, f2, f3, f4⟩ := (C.kx.txt j hj).1
      have e1 := C.S.2.1 (ad G (EXT + 10 + j)) (Array.getElem?_eq_some_iff.mp f1).1 f4
      refine ⟨cell, e1.trans f1, f2, Vm.classAt_of_findClass f3, fun comp hc => ?_⟩
      cases hc.symm.trans f3
      exact Vm.assignable_self _ _
    · have hc13 : c' < 13 := by simp at hc; omega
      have h5 := wL_at G F I hyn
      rw [cE_obj hy hc13] at h5
      rw [ad_w G (by have := C.wd.ext; omega)]
      have hE2 : E = clC c' := by
        simp at hc
        rcases hc with rfl | rfl | rfl
        · have : FieldType.object RX5 = .object E := hE
          cases this; rfl
        · have : FieldType.object RX6 = .object E := hE
          cases this; rfl
        · have : FieldType.object RX8 = .object E := hE
          cases this; rfl
      subst hE2
      refine va_rAny C.kx.K0 C.wd.2.1 h5 (cl_get hc13) (fun comp c0 f1 f2 => ?_)
      have h6 := (C.kx.cls c' _ (cl_get hc13)).2
      have h7 := h6.1
      cases f1.symm.trans h7
      cases f2.symm.trans h7
      exact va_assign h6
  refine va_astqM (D := gD G) (cl := vwCl) C.1 C.2.1 hK C.wd.2.1 (wL_D G n F I) C.S q 0 h2 rfl hany (n_in hz h0 h1) hd (fun H1 locs1 hP hD hS => ?_)
  rw [n_cl hz, wL_set (F' := uF F q z.toNat (some y)) (I' := I) (cE_rst hq h200) (fun k hk => cE_ne (uF_ne hk) (fun _ => rfl))] at hP
  exact after C hl (ok_t (ok_t (ok_t hs))) h hP hS C.wd.R C.wd.by
theorem g_alen {t : Nat} (hd : decode (mB k) pc = .ok (.arraylength, 1)) (hn : nx = pc + 1) (ht : t ∈ [100, 101]) (hq : lay q = (t, m)) (hqn : q < n) (hm : m < 100000)
    (h : Go G d k n0 n nx lv (.inr (.inl (m : Int)) :: r) F I Q) : Go G d k n0 n pc lv (.inl (some q) :: r) F I Q := by
  intro p e s mm args below meth c H locs ls C hl hs
  subst hn
  have h3 := h p e s mm args below meth c H locs ls C hl (ok_c (by show iR _; unfold iR; omega) (ok_t hs))
  have h2 := wL_at G F I hqn
  show W p (gL G) e (Rm d k n0) s mm args below meth c H locs (n - n0) (sz n - sz n0) _ (F0 mm pc ls (tr G (.inl (some q)) :: r.map (tr G)))
  rw [tr_w C.wd.ext hqn]
  simp at ht
  rcases ht with rfl | rfl
  · rw [cE_i hq] at h2
    exact va_alen (D := gD G) (cl := vwCl) C.1 C.2.1 (C.kx.K (kd 100 (Or.inl rfl))) C.wd.2.1 q 0 h2 rfl (Int32.ofInt_eq_ofNat).symm hd h3
  · rw [cE_b hq] at h2
    exact va_alen (D := gD G) (cl := vwCl) C.1 C.2.1 (C.kx.K (kd 101 (by omega))) C.wd.2.1 q 0 h2 rfl (Int32.ofInt_eq_ofNat).symm hd h3
end ARR
end
section
/-! new cells; copies; what was there before, for the walking machine. Own work. -/
theorem sz_s (n : Nat) : sz (n + 1) = sz n + (lay n).2 := by
  unfold sz
  rw [List.range_succ, List.map_append, List.sum_append]
  simp
theorem sz_le {a b : Nat} (h : a ≤ b) : sz a ≤ sz b := by
  induction h with
  | refl => exact Nat.le_refl _
  | step _ ih => rw [sz_s]; omega
section NEW
variable {G : pG} {d k n0 n pc nx a b i q m : Nat} {lv : List (Option pV)} {r : List pV} {F : pF} {I : pI} {Q : Option pV → pF → pI → Prop} {x y z : Int} {v : pV}
theorem zI_ne {I : pI} {q k : Nat} (h : k ≠ q) (j : Nat) : zI I q k j = I k j := by unfold zI; rw [if_neg h]
theorem zF_ne {F : pF} {q k : Nat} (h : k ≠ q) (j : Nat) : zF F q k j = F k j := by unfold zF; rw [if_neg h]
theorem zI_eq (I : pI) (q j : Nat) : zI I q q j = 0 := by unfold zI; rw [if_pos rfl]
theorem zF_eq (F : pF) (q j : Nat) : zF F q q j = none := by unfold zF; rw [if_pos rfl]
theorem wL_z (G : pG) (n : Nat) (F : pF) (I : pI) : wL G n (zF F n) (zI I n) = wL G n F I := by
  apply List.ext_getElem?
  intro i
  by_cases hi : i < n
  · rw [wL_at _ _ _ hi, wL_at _ _ _ hi, cE_ne (zF_ne (by omega)) (zI_ne (by omega))]
  · rw [List.getElem?_eq_none (by rw [wL_len]; omega), List.getElem?_eq_none (by rw [wL_len]; omega)]
/-- a new cell stands at the next place -/
theorem new_at {p : Program} {e : Env} {s : State} {mm : MethodId} {args : Array Value} {below : List Frame} {meth : Method} {c : Code} {H H1 : Heap} {locs : List Loc} {ls : Array Slot} {st : List pV} {pc' qq sl : Nat} {e0 : va_E}
    (C : Ct G d k n0 n F I p e s mm args meth c H locs) (hl : Hs G k ls lv) (hs : ∀ v ∈ st, okV v) (h : Go G d k n0 (n + 1) pc' lv (.inl (some n) :: st) (zF F n) (zI I n) Q)
    (h1 : n + 1 ≤ n0 + alc k) (hx : n + 1 ≤ EXT) (he : cE G (zF F n) (zI I n) n = e0) (hsl : (lay n).2 = sl)
    (hP : va_P (gD G) vwCl (wL G n F I ++ [(qq, e0)]) H1) (hD : va_D (A0 G) (wL G n F I ++ [(qq, e0)])) (hS : va_S (A0 G) s.heap H1 locs) :
    W p (gL G) e (Rm d k n0) s mm args below meth c H1 locs (n - n0 + 1) (sz n - sz n0 + sl) (MQ below (fun a st o t => Qc G (n0 + alc k) Q a st o t ∧ va_F (A0 G) st t) args s (alc k) (sz (n0 + alc k) - sz n0) (A0 G)) (F0 mm pc' ls (.ref qq :: st.map (tr G))) := by
  have hn0 := C.n0
  have hz0 := C.sz0
  refine W_sz fun hz => ?_
  have hat : (wL G n F I ++ [(qq, e0)])[n]? = some (qq, e0) := by rw [List.getElem?_append_right (by rw [wL_len]; omega), wL_len]; simp
  have hq1 : qq < H1.size := (hP n _ hat).lt
  have hq2 : gH G ≤ qq := hD.2 n _ hat
  have hqq : qq = gH G + n := by
    by_cases hlt : qq < gH G + n
    · exfalso
      have hi : qq - gH G < n := by omega
      have h5 : (wL G n F I ++ [(qq, e0)])[qq - gH G]? = some (gH G + (qq - gH G), cE G F I (qq - gH G)) := by
        rw [List.getElem?_append_left (by rw [wL_len]; exact hi)]
        exact wL_at G F I hi
      have := hD.1 _ _ _ _ h5 hat (by show gH G + (qq - gH G) = qq; omega)
      omega
    · omega
  subst hqq
  have hw : wL G (n + 1) (zF F n) (zI I n) = wL G n F I ++ [(gH G + n, e0)] := by rw [wL_push, wL_z, he]
  rw [← hw] at hP
  have hz' : H1.size = gH G + (n + 1) := sz_of (n := n + 1) C.sz0 (by omega) hP hS (by omega)
  have e1 : n - n0 + 1 = n + 1 - n0 := by omega
  have e2 : sz n - sz n0 + sl = sz (n + 1) - sz n0 := by
    have := sz_le hn0
    rw [sz_s]
    omega
  rw [e1, e2]
  have e3 : Value.ref (gH G + n) :: st.map (tr G) = (Sum.inl (some n) :: st : List pV).map (tr G) := by
    show _ = Value.ref (ad G n) :: _
    rw [ad_w G (by omega)]
  rw [e3]
  refine h p e s mm args below meth c H1 locs ls (C.mv (by omega) h1 ⟨hz', hP, hx, ?_, ?_⟩ hS) hl (ok_c trivial hs)
  · intro kk j
    unfold zI
    split
    · exact iR0
    · exact C.wd.R kk j
  · intro kk hk j
    unfold zI
    split
    · omega
    · exact C.wd.by kk hk j
theorem fr_ty : ∀ c, c < 13 → ∀ j, j < clN c → defaultValue (tyF c j) = if frf c j = true then Value.null else Value.int 0 := by decide +kernel
theorem g_new (hd : decode (mB k) pc = .ok (.new i, 3)) (hn : nx = pc + 3) (ha : a < 13) (hcl : Jvm.Cond.classLink (mY k).cls i (clC a) ∈ goods) (hin : Jvm.Cond.instantiable (clC a) (clN a) ∈ goods) (hini : Jvm.Cond.initialized (clC a) ∈ goods)
    (hq : lay n = (a, b)) (h1 : n + 1 ≤ n0 + alc k) (hx : n + 1 ≤ EXT)
    (h : Go G d k n0 (n + 1) nx lv (.inl (some n) :: r) (zF F n) (zI I n) Q) : Go G d k n0 n pc lv r F I Q := by
  intro p e s mm args below meth c H locs ls C hl hs
  subst hn
  have hm := lay_cl hq ha
  subst hm
  have hce : cE G (zF F n) (zI I n) n = .inr (a, (List.range (clN a)).map (fun j => if frf a j = true then Value.null else Value.int 0)) := by
    rw [cE_obj hq ha]
    refine congrArg (fun w => Sum.inr (a, w)) (List.map_congr_left fun j _ => ?_)
    unfold fV
    rw [zF_eq, zI_eq]
    rfl
  have hs1 := sz_le (show n + 1 ≤ n0 + alc k from h1)
  have hs2 := sz_s n
  rw [hq] at hs2
  have hs3 := sz_le C.n0
  refine va_new (D := gD G) (cl := vwCl) C.1 C.2.1 C.hts (cl_in a ha) (tyF a) (cl_ty a ha) C.own (C.hts _ hcl) (C.hts _ hin) (C.hts _ hini) C.kx.K0 C.wd.2.1 (wL_D G n F I) C.S (fun q hq => Nat.le_trans (by rw [C.sz0]; omega) hq) (cl_get ha)
    (fs := (List.range (clN a)).map (fun j => if frf a j = true then Value.null else Value.int 0)) (fun j hj => ?_) ?_ ?_ hd (fun qq H1 hP hD hS => new_at C hl hs h h1 hx hce (by rw [hq]) hP hD hS)
  · rw [fr_ty a ha j hj]
    simp [vp_V, hj]
  · show n - n0 + 1 ≤ alc k
    have := C.n0
    omega
  · show sz n - sz n0 + clN a ≤ sz (n0 + alc k) - sz n0
    simp only at hs2
    omega
theorem nn_i {x : Int} (hx : iR x) (h0 : 0 ≤ x) : ¬ Int32.ofInt x < 0 := by rw [z0, n_lt hx iR0]; omega
/-- the class of a row is the one that the tables name -/
theorem ra_uniq {s : State} {c1 c2 : ClassId} {t : FieldType} (h1 : va_RA s c1 t) (h2 : va_RA s c2 t) : c1 = c2 := by
  cases t <;> first
    | (obtain ⟨_, _, _, _, _, e1⟩ := h1; obtain ⟨_, _, _, _, _, e2⟩ := h2; exact Option.some.inj (e1.symm.trans e2))
    | exact Option.some.inj (h1.symm.trans h2)
theorem g_newa {at_ : ArrayType} (hd : decode (mB k) pc = .ok (.newarray at_, 2)) (hn : nx = pc + 2) (hat : (at_ = .int ∧ a = 100) ∨ (at_ = .byte ∧ a = 101)) (hac : Jvm.Cond.arrayClass (newarray.typeOf at_) ∈ goods)
    (hq : lay n = (a, x.toNat)) (h0 : 0 ≤ x) (hx2 : x < 100000) (h1 : n + 1 ≤ n0 + alc k) (hx : n + 1 ≤ EXT)
    (h : Go G d k n0 (n + 1) nx lv (.inl (some n) :: r) (zF F n) (zI I n) Q) : Go G d k n0 n pc lv (.inr (.inl x) :: r) F I Q := by
  intro p e s mm args below meth c H locs ls C hl hs
  subst hn
  have hxr : iR x := ok_h hs
  have hs1 := sz_le (show n + 1 ≤ n0 + alc k from h1)
  have hs2 := sz_s n
  rw [hq] at hs2
  have hs3 := sz_le C.n0
  have hcells : n - n0 + 1 ≤ (Rm d k n0).cells := by
    show n - n0 + 1 ≤ alc k
    have := C.n0
    omega
  have hslots : sz n - sz n0 + x.toNat ≤ (Rm d k n0).slots := by
    show sz n - sz n0 + x.toNat ≤ sz (n0 + alc k) - sz n0
    simp only at hs2
    omega
  rcases hat with ⟨rfl, rfl⟩ | ⟨rfl, rfl⟩
  · have hce : cE G (zF F n) (zI I n) n = .inl (gC G 100, (x.toNat, .inl (fun _ => 0))) := by
      rw [cE_i hq]
      refine congrArg (fun g => Sum.inl (gC G 100, x.toNat, Sum.inl g)) (funext fun j => ?_)
      rw [zI_eq]
      rfl
    refine va_newa (D := gD G) (cl := vwCl) (atype := .int) (ty := .int) C.1 C.2.1 (C.hts _ hac) rfl C.kx.K0 C.wd.2.1 (wL_D G n F I) C.S (fun q hq => Nat.le_trans (by rw [C.sz0]; omega) hq)
      (n := Int32.ofInt x) (a0 := (x.toNat, .inl (fun _ => 0))) (fun cA => rfl) (nn_i hxr h0) (n_cl hxr) (by show x.toNat * 4 ≤ 536870912; omega) hcells hslots hd (fun qq cA H1 hK hP hD hS => ?_)
    have hc : cA = gC G 100 := ra_uniq (hK.2 0 (cA, .int) rfl).2 (C.kx.arr 100 (kd 100 (by omega))).2
    subst hc
    exact new_at C hl (ok_t hs) h h1 hx hce (by rw [hq]) hP hD hS
  · have hce : cE G (zF F n) (zI I n) n = .inl (gC G 101, (x.toNat, .inl (fun _ => 0))) := by
      rw [cE_b hq]
      refine congrArg (fun g => Sum.inl (gC G 101, x.toNat, Sum.inl g)) (funext fun j => ?_)
      rw [zI_eq]
      rfl
    refine va_newa (D := gD G) (cl := vwCl) (atype := .byte) (ty := .byte) C.1 C.2.1 (C.hts _ hac) rfl C.kx.K0 C.wd.2.1 (wL_D G n F I) C.S (fun q hq => Nat.le_trans (by rw [C.sz0]; omega) hq)
      (n := Int32.ofInt x) (a0 := (x.toNat, .inl (fun _ => 0))) (fun cA => rfl) (nn_i hxr h0) (n_cl hxr) (by show x.toNat * 1 ≤ 536870912; omega) hcells hslots hd (fun qq cA H1 hK hP hD hS => ?_)
    have hc : cA = gC G 101 := ra_uniq (hK.2 0 (cA, .byte) rfl).2 (C.kx.arr 101 (kd 101 (by omega))).2
    subst hc
    exact new_at C hl (ok_t hs) h h1 hx hce (by rw [hq]) hP hD hS
def anC (t : Nat) : String := if t = 205 then RX5 else if t = 206 then RX6 else if t = 208 then RX8 else RJ0
theorem g_anew (hd : decode (mB k) pc = .ok (.anewarray i, 3)) (hn : nx = pc + 3) (ha : a ∈ [205, 206, 208, 299]) (hcl : Jvm.Cond.classLink (mY k).cls i (anC a) ∈ goods)
    (hq : lay n = (a, x.toNat)) (h0 : 0 ≤ x) (hx2 : x < 100000) (h1 : n + 1 ≤ n0 + alc k) (hx : n + 1 ≤ EXT)
    (h : Go G d k n0 (n + 1) nx lv (.inl (some n) :: r) (zF F n) (zI I n) Q) : Go G d k n0 n pc lv (.inr (.inl x) :: r) F I Q := by
  intro p e s mm args below meth c H locs ls C hl hs
  subst hn
  have hxr : iR x := ok_h hs
  have hs1 := sz_le (show n + 1 ≤ n0 + alc k from h1)
  have hs2 := sz_s n
  rw [hq] at hs2
  have hs3 := sz_le C.n0
  have hcells : n - n0 + 1 ≤ (Rm d k n0).cells := by
    show n - n0 + 1 ≤ alc k
    have := C.n0
    omega
  have hslots : sz n - sz n0 + x.toNat ≤ (Rm d k n0).slots := by
    show sz n - sz n0 + x.toNat ≤ sz (n0 + alc k) - sz n0
    simp only at hs2
    omega
  obtain ⟨hk, h200, -⟩ := tyA_r ha
  have hty : tyA a = .object (anC a) := by
    simp at ha
    rcases ha with rfl | rfl | rfl | rfl <;> rfl
  have hao : va_AO (anC a) s := by
    obtain ⟨g1, g2, g3, g4⟩ := C.kx.ao
    simp at ha
    rcases ha with rfl | rfl | rfl | rfl
    · exact g1
    · exact g2
    · exact g3
    · exact g4
  have hce : cE G (zF F n) (zI I n) n = .inl (gC G a, (x.toNat, .inr (.inr (.inr (.inr (fun _ => none)))))) := by
    rw [cE_r hq h200]
    refine congrArg (fun g => Sum.inl (gC G a, x.toNat, Sum.inr (Sum.inr (Sum.inr (Sum.inr g))))) (funext fun j => ?_)
    rw [zF_eq]
    rfl
  refine va_newq (D := gD G) (cl := vwCl) C.1 C.2.1 C.own (C.hts _ hcl) hao C.kx.K0 C.wd.2.1 (wL_D G n F I) C.S (fun q hq => Nat.le_trans (by rw [C.sz0]; omega) hq)
    (n := Int32.ofInt x) (nn_i hxr h0) (n_cl hxr) (by omega) hcells hslots hd (fun qq cA H1 hK hP hD hS => ?_)
  have h9 := (C.kx.arr a hk).2
  rw [hty] at h9
  have hc : cA = gC G a := ra_uniq (hK.2 0 (cA, .object (anC a)) rfl).2 h9
  subst hc
  exact new_at C hl (ok_t hs) h h1 hx hce (by rw [hq]) hP hD hS
end NEW
end
section
/-! copies; constants; what was there before, for the walking machine. Own work. -/
theorem ctgs_sum (G : pG) : ∀ r : List pV, ((r.map (tr G)).map fun v => v.category).sum = ctgs r
  | [] => rfl
  | .inr (.inr z) :: t => by
    have := ctgs_sum G t
    show 2 + _ = 2 + ctgs t
    rw [← this]
    rfl
  | .inr (.inl z) :: t => by
    have := ctgs_sum G t
    show 1 + _ = 1 + ctgs t
    rw [← this]
    rfl
  | .inl none :: t => by
    have := ctgs_sum G t
    show 1 + _ = 1 + ctgs t
    rw [← this]
    rfl
  | .inl (some _) :: t => by
    have := ctgs_sum G t
    show 1 + _ = 1 + ctgs t
    rw [← this]
    rfl
section EXTS
variable {G : pG} {d k n0 n pc nx a b i q m : Nat} {lv : List (Option pV)} {r : List pV} {F : pF} {I : pI} {Q : Option pV → pF → pI → Prop} {x y z : Int} {v : pV}
theorem cI_ne {I : pI} {q sp p dp n k : Nat} (h : k ≠ p) (j : Nat) : cI I q sp p dp n k j = I k j := by unfold cI; rw [if_neg (fun z => h z.1)]
theorem cE_cpyi {p m2 sp dp len : Nat} (hp : lay p = (100, m2)) : cE G F (cI I q sp p dp len) p = .inl (gC G 100, m2, .inl (va_cpy (fun j => Int32.ofInt (I q j)) (fun j => Int32.ofInt (I p j)) sp dp len)) := by
  rw [cE_i hp]
  refine congrArg (fun g => Sum.inl (gC G 100, m2, Sum.inl g)) (funext fun j => ?_)
  unfold cI va_cpy
  by_cases h : dp ≤ j ∧ j < dp + len
  · rw [if_pos ⟨rfl, h⟩, if_pos h]
  · rw [if_neg (fun z => h z.2), if_neg h]
theorem cE_cpyb {p m2 sp dp len : Nat} (hp : lay p = (101, m2)) : cE G F (cI I q sp p dp len) p = .inl (gC G 101, m2, .inl (va_cpy (fun j => Int32.ofInt (I q j)) (fun j => Int32.ofInt (I p j)) sp dp len)) := by
  rw [cE_b hp]
  refine congrArg (fun g => Sum.inl (gC G 101, m2, Sum.inl g)) (funext fun j => ?_)
  unfold cI va_cpy
  by_cases h : dp ≤ j ∧ j < dp + len
  · rw [if_pos ⟨rfl, h⟩, if_pos h]
  · rw [if_neg (fun z => h z.2), if_neg h]
theorem fit_b {x : Int} (h : -128 ≤ x ∧ x ≤ 127) : fits .byte (.int (Int32.ofInt x)) = true := by
  have h1 : iR x := by unfold iR; omega
  show (decide ((-128 : Int32) ≤ Int32.ofInt x) && decide (Int32.ofInt x ≤ (127 : Int32))) = true
  rw [show (-128 : Int32) = Int32.ofInt (-128) from rfl, show (127 : Int32) = Int32.ofInt 127 from rfl]
  rw [decide_eq_true ((n_le (by unfold iR; omega) h1).mpr h.1), decide_eq_true ((n_le h1 (by unfold iR; omega)).mpr h.2)]
  rfl
theorem g_copy {t p m1 m2 : Nat} {sp dp len : Int} (hd : decode (mB k) pc = .ok (.invokestatic i, 3)) (hn : nx = pc + 3)
    (hlink : Jvm.Cond.methodLink (mY k).cls i arraycopyName ∈ goods) (hnat : Jvm.Cond.native arraycopyName ∈ goods) (hstat : Jvm.Cond.static arraycopyName ∈ goods) (hini : Jvm.Cond.initialized "java/lang/System" ∈ goods)
    (ht : t ∈ [100, 101]) (hq : lay q = (t, m1)) (hp : lay p = (t, m2)) (hqn : q < n) (hpn : p < n) (h0 : 0 ≤ sp) (h1 : 0 ≤ dp) (h2 : 0 ≤ len) (h3 : sp + len ≤ (m1 : Int)) (h4 : dp + len ≤ (m2 : Int)) (hr : ctgs r ≤ 8) (hd1 : 1 ≤ d)
    (h : Go G d k n0 n nx lv r F (cI I q sp.toNat p dp.toNat len.toNat) Q) : Go G d k n0 n pc lv (.inr (.inl len) :: .inr (.inl dp) :: .inl (some p) :: .inr (.inl sp) :: .inl (some q) :: r) F I Q := by
  intro pp e s mm args below meth c H locs ls C hl hs
  subst hn
  have r1 : iR len := ok_h hs
  have r2 : iR dp := ok_h (ok_t hs)
  have r3 : iR sp := ok_h (ok_t (ok_t (ok_t hs)))
  have hrs := ok_t (ok_t (ok_t (ok_t (ok_t hs))))
  have hw1 := wL_at G F I hqn
  have hw2 := wL_at G F I hpn
  show W pp (gL G) e (Rm d k n0) s mm args below meth c H locs (n - n0) (sz n - sz n0) _ (F0 mm pc ls (tr G (.inr (.inl len)) :: tr G (.inr (.inl dp)) :: tr G (.inl (some p)) :: tr G (.inr (.inl sp)) :: tr G (.inl (some q)) :: r.map (tr G)))
  rw [tr_w C.wd.ext hqn, tr_w C.wd.ext hpn]
  have hloc : ((r.map (tr G)).map fun v => v.category).sum + (nativeFrameWords "java/lang/System" "arraycopy" 5 + 11) ≤ (Rm d k n0).locals := by
    rw [ctgs_sum]
    show ctgs r + (nativeFrameWords "java/lang/System" "arraycopy" 5 + 11) ≤ 64 * d
    have : nativeFrameWords "java/lang/System" "arraycopy" 5 ≤ 40 := by decide +kernel
    omega
  have hml : c.maxLocals = ls.size := by rw [C.2.2.2.2.1, hl.1]
  simp at ht
  rcases ht with rfl | rfl
  · rw [cE_i hq] at hw1
    rw [cE_i hp] at hw2
    refine va_copyi (D := gD G) (cl := vwCl) (ty := .int) C.1 C.2.1 hml C.own (C.hts _ hlink) (C.hts _ hnat) (C.hts _ hstat) (C.hts _ hini) (C.kx.K (kd 100 (Or.inl rfl))) C.wd.2.1 (wL_D G n F I) C.S q p 0 0 hw1 hw2 rfl rfl rfl
      (nn_i r3 h0) (nn_i r2 h1) (nn_i r1 h2) (by rw [n_cl r3, n_cl r1]; omega) (by rw [n_cl r2, n_cl r1]; omega) (fun _ _ => rfl) hd1 hloc hd (fun H1 locs1 hP hD hS => ?_)
    rw [n_cl r3, n_cl r2, n_cl r1, wL_set (F' := F) (I' := cI I q sp.toNat p dp.toNat len.toNat) (cE_cpyi hp) (fun k hk => cE_ne (fun _ => rfl) (cI_ne hk))] at hP
    refine after C hl hrs h hP hS (fun kk j => ?_) (fun kk hk j => ?_)
    · unfold cI
      split
      · exact C.wd.R _ _
      · exact C.wd.R _ _
    · rw [cI_ne (fun z => by rw [z, hp] at hk; cases hk) j]
      exact C.wd.by kk hk j
  · rw [cE_b hq] at hw1
    rw [cE_b hp] at hw2
    refine va_copyi (D := gD G) (cl := vwCl) (ty := .byte) C.1 C.2.1 hml C.own (C.hts _ hlink) (C.hts _ hnat) (C.hts _ hstat) (C.hts _ hini) (C.kx.K (kd 101 (by omega))) C.wd.2.1 (wL_D G n F I) C.S q p 0 0 hw1 hw2 rfl rfl rfl
      (nn_i r3 h0) (nn_i r2 h1) (nn_i r1 h2) (by rw [n_cl r3, n_cl r1]; omega) (by rw [n_cl r2, n_cl r1]; omega) (fun _ _ => fit_b (C.wd.by q (by rw [hq]) _)) hd1 hloc hd (fun H1 locs1 hP hD hS => ?_)
    rw [n_cl r3, n_cl r2, n_cl r1, wL_set (F' := F) (I' := cI I q sp.toNat p dp.toNat len.toNat) (cE_cpyb hp) (fun k hk => cE_ne (fun _ => rfl) (cI_ne hk))] at hP
    refine after C hl hrs h hP hS (fun kk j => ?_) (fun kk hk j => ?_)
    · unfold cI
      split
      · exact C.wd.R _ _
      · exact C.wd.R _ _
    · unfold cI
      split
      · exact C.wd.by q (by rw [hq]) _
      · exact C.wd.by kk hk j
theorem g_ldc (hd : decode (mB k) pc = .ok (.ldc i, 2)) (hn : nx = pc + 2) (hc : Jvm.Cond.constant (mY k).cls i (Int32.ofInt x) ∈ goods) (hx : iR x) (h : Go G d k n0 n nx lv (.inr (.inl x) :: r) F I Q) : Go G d k n0 n pc lv r F I Q := by
  intro p e s mm args below meth c H locs ls C hl hs
  subst hn
  exact lv_ldc C.1 C.2.1 C.own (C.hts _ hc) hd (h p e s mm args below meth c H locs ls C hl (ok_c hx hs))
theorem g_ldcw (hd : decode (mB k) pc = .ok (.ldc_w i, 3)) (hn : nx = pc + 3) (hc : Jvm.Cond.constant (mY k).cls i (Int32.ofInt x) ∈ goods) (hx : iR x) (h : Go G d k n0 n nx lv (.inr (.inl x) :: r) F I Q) : Go G d k n0 n pc lv r F I Q := by
  intro p e s mm args below meth c H locs ls C hl hs
  subst hn
  exact lv_ldcw C.1 C.2.1 C.own (C.hts _ hc) hd (h p e s mm args below meth c H locs ls C hl (ok_c hx hs))
theorem g_ldc2 (hd : decode (mB k) pc = .ok (.ldc2_w i, 3)) (hn : nx = pc + 3) (hc : Jvm.Cond.constantLong (mY k).cls i (Int64.ofInt x) ∈ goods) (hx : lR x) (h : Go G d k n0 n nx lv (.inr (.inr x) :: r) F I Q) : Go G d k n0 n pc lv r F I Q := by
  intro p e s mm args below meth c H locs ls C hl hs
  subst hn
  exact lv_ldc2 C.1 C.2.1 C.own (C.hts _ hc) hd (h p e s mm args below meth c H locs ls C hl (ok_c hx hs))
theorem g_ldcS (hd : decode (mB k) pc = .ok (.ldc i, 2)) (hn : nx = pc + 2) (ha : a < 18) (hi : (strO.getD a ("", 0, "", 0)).2.1 = i) (ho : (strO.getD a ("", 0, "", 0)).1 = (mY k).cls) (h : Go G d k n0 n nx lv (.inl (some (EXT + 10 + a)) :: r) F I Q) : Go G d k n0 n pc lv r F I Q := by
  intro p e s mm args below meth c H locs ls C hl hs
  subst hn
  obtain ⟨-, -, -, -, h5⟩ := C.kx.txt a ha
  rw [hi, ho] at h5
  exact va_ldcS C.1 C.2.1 C.own h5 hd (h p e s mm args below meth c H locs ls C hl (ok_c trivial hs))
theorem g_val (hd : decode (mB k) pc = .ok (.getfield i, 3)) (hn : nx = pc + 3) (hw : Jvm.Cond.fieldLink (mY k).cls i "java/lang/String" "value" "[B" ∈ goods) (ha : a < 18) (hq : q = EXT + 10 + a) (h : Go G d k n0 n nx lv (.inl (some (q + 30)) :: r) F I Q) : Go G d k n0 n pc lv (.inl (some q) :: r) F I Q := by
  intro p e s mm args below meth c H locs ls C hl hs
  subst hn
  subst hq
  obtain ⟨-, -, h3, -, -⟩ := C.kx.txt a ha
  have h9 := h p e s mm args below meth c H locs ls C hl (ok_c trivial (ok_t hs))
  refine vk_getf C.1 C.2.1 h3 C.S C.own (C.hts _ hw) (fun _ z => z) hd ?_
  rw [show EXT + 40 + a = EXT + 10 + a + 30 by omega]
  exact h9
theorem g_cod (hd : decode (mB k) pc = .ok (.getfield i, 3)) (hn : nx = pc + 3) (hw : Jvm.Cond.fieldLink (mY k).cls i "java/lang/String" "coder" "B" ∈ goods) (ha : a < 18) (hq : q = EXT + 10 + a) (h : Go G d k n0 n nx lv (.inr (.inl 0) :: r) F I Q) : Go G d k n0 n pc lv (.inl (some q) :: r) F I Q := by
  intro p e s mm args below meth c H locs ls C hl hs
  subst hn
  subst hq
  obtain ⟨-, h2, -, -, -⟩ := C.kx.txt a ha
  exact vk_getf C.1 C.2.1 h2 C.S C.own (C.hts _ hw) (fun _ z => z) hd (h p e s mm args below meth c H locs ls C hl (ok_c iR0 (ok_t hs)))
theorem str_R : ∀ j, j < 18 → ∀ b, b ∈ strB.getD j [] → -128 ≤ b ∧ b ≤ 127 := by decide +kernel
theorem getD_R {l : List Int} (h : ∀ b, b ∈ l → -128 ≤ b ∧ b ≤ 127) (i : Nat) : iR (l.getD i 0) := by
  rw [List.getD_eq_getElem?_getD]
  cases hi : l[i]? with
  | none => exact iR0
  | some b =>
    have := h b (List.mem_of_getElem? hi)
    show iR b
    unfold iR
    omega
theorem g_strb (hd : decode (mB k) pc = .ok (.baload, 1)) (hn : nx = pc + 1) (ha : a < 18) (hq : q = EXT + 40 + a) (h0 : 0 ≤ z) (h1 : z < (strL.getD a 0 : Int)) (h : Go G d k n0 n nx lv (.inr (.inl ((strB.getD a []).getD z.toNat 0)) :: r) F I Q) : Go G d k n0 n pc lv (.inr (.inl z) :: .inl (some q) :: r) F I Q := by
  intro p e s mm args below meth c H locs ls C hl hs
  subst hn
  subst hq
  have hz : iR z := ok_h hs
  obtain ⟨-, -, -, h4, -⟩ := C.kx.txt a ha
  exact va_tb C.1 C.2.1 h4 C.S (n_in hz h0 h1) (by rw [n_cl hz]; rfl) hd (h p e s mm args below meth c H locs ls C hl (ok_c (getD_R (str_R a ha) _) (ok_t (ok_t hs))))
theorem strL_R : ∀ j, j < 18 → strL.getD j 0 < 100 := by decide +kernel
theorem g_strl (hd : decode (mB k) pc = .ok (.arraylength, 1)) (hn : nx = pc + 1) (ha : a < 18) (hq : q = EXT + 40 + a) (h : Go G d k n0 n nx lv (.inr (.inl (strL.getD a 0 : Int)) :: r) F I Q) : Go G d k n0 n pc lv (.inl (some q) :: r) F I Q := by
  intro p e s mm args below meth c H locs ls C hl hs
  subst hn
  subst hq
  obtain ⟨-, -, -, h4, -⟩ := C.kx.txt a ha
  have := strL_R a ha
  exact va_tlen C.1 C.2.1 h4 C.S Int32.ofInt_eq_ofNat.symm hd (h p e s mm args below meth c H locs ls C hl (ok_c (by show iR _; unfold iR; omega) (ok_t hs)))
theorem above_R : ∀ b, b ∈ aboveT → -128 ≤ b ∧ b ≤ 127 := by decide +kernel
theorem bodies_R : ∀ b, b ∈ bodiesT → -128 ≤ b ∧ b ≤ 127 := by decide +kernel
theorem g_above (hd : decode (mB k) pc = .ok (.iaload, 1)) (hn : nx = pc + 1) (hq : q = EXT + 1) (h0 : 0 ≤ z) (h1 : z < 6) (h : Go G d k n0 n nx lv (.inr (.inl (aboveT.getD z.toNat 0)) :: r) F I Q) : Go G d k n0 n pc lv (.inr (.inl z) :: .inl (some q) :: r) F I Q := by
  intro p e s mm args below meth c H locs ls C hl hs
  subst hn
  subst hq
  have hz : iR z := ok_h hs
  exact va_ti C.1 C.2.1 C.kx.2.1.1 C.S (n_in hz h0 (by omega)) (by rw [n_cl hz]; rfl) hd (h p e s mm args below meth c H locs ls C hl (ok_c (getD_R above_R _) (ok_t (ok_t hs))))
theorem g_bodies (hd : decode (mB k) pc = .ok (.iaload, 1)) (hn : nx = pc + 1) (hq : q = EXT + 2) (h0 : 0 ≤ z) (h1 : z < 24) (h : Go G d k n0 n nx lv (.inr (.inl (bodiesT.getD z.toNat 0)) :: r) F I Q) : Go G d k n0 n pc lv (.inr (.inl z) :: .inl (some q) :: r) F I Q := by
  intro p e s mm args below meth c H locs ls C hl hs
  subst hn
  subst hq
  have hz : iR z := ok_h hs
  exact va_ti C.1 C.2.1 C.kx.2.2.1.1 C.S (n_in hz h0 (by omega)) (by rw [n_cl hz]; rfl) hd (h p e s mm args below meth c H locs ls C hl (ok_c (getD_R bodies_R _) (ok_t (ok_t hs))))
theorem g_abovel (hd : decode (mB k) pc = .ok (.arraylength, 1)) (hn : nx = pc + 1) (hq : q = EXT + 1) (h : Go G d k n0 n nx lv (.inr (.inl 6) :: r) F I Q) : Go G d k n0 n pc lv (.inl (some q) :: r) F I Q := by
  intro p e s mm args below meth c H locs ls C hl hs
  subst hn
  subst hq
  exact va_tlen C.1 C.2.1 C.kx.2.1.1 C.S rfl hd (h p e s mm args below meth c H locs ls C hl (ok_c (by show iR _; unfold iR; omega) (ok_t hs)))
theorem g_bodiesl (hd : decode (mB k) pc = .ok (.arraylength, 1)) (hn : nx = pc + 1) (hq : q = EXT + 2) (h : Go G d k n0 n nx lv (.inr (.inl 24) :: r) F I Q) : Go G d k n0 n pc lv (.inl (some q) :: r) F I Q := by
  intro p e s mm args below meth c H locs ls C hl hs
  subst hn
  subst hq
  exact va_tlen C.1 C.2.1 C.kx.2.2.1.1 C.S rfl hd (h p e s mm args below meth c H locs ls C hl (ok_c (by show iR _; unfold iR; omega) (ok_t hs)))
theorem g_scr (hd : decode (mB k) pc = .ok (.iaload, 1)) (hn : nx = pc + 1) (hq : q = EXT) (h0 : 0 ≤ z) (h1 : z < (gN G : Int)) (h : Go G d k n0 n nx lv (.inr (.inl (gX G z.toNat).toInt) :: r) F I Q) : Go G d k n0 n pc lv (.inr (.inl z) :: .inl (some q) :: r) F I Q := by
  intro p e s mm args below meth c H locs ls C hl hs
  subst hn
  subst hq
  have hz : iR z := ok_h hs
  have h9 := h p e s mm args below meth c H locs ls C hl (ok_c (toInt_R _) (ok_t (ok_t hs)))
  have hb : ad G EXT < s.heap.size := by rw [C.sz0]; have := C.kx.1.2; omega
  refine va_sld C.1 C.2.1 C.kx.1.1 hb (Nat.not_le.mpr C.kx.1.2) C.S (n_in hz h0 h1) hd ?_
  rw [n_cl hz]
  have h8 : tr G (.inr (.inl (gX G z.toNat).toInt)) = .int (gX G z.toNat) := congrArg Value.int (Int32.ofInt_toInt _)
  rw [← h8]
  exact h9
theorem g_scrl (hd : decode (mB k) pc = .ok (.arraylength, 1)) (hn : nx = pc + 1) (hq : q = EXT) (h : Go G d k n0 n nx lv (.inr (.inl (Int32.ofNat (gN G)).toInt) :: r) F I Q) : Go G d k n0 n pc lv (.inl (some q) :: r) F I Q := by
  intro p e s mm args below meth c H locs ls C hl hs
  subst hn
  subst hq
  have h9 := h p e s mm args below meth c H locs ls C hl (ok_c (toInt_R _) (ok_t hs))
  have hb : ad G EXT < s.heap.size := by rw [C.sz0]; have := C.kx.1.2; omega
  refine va_slen C.1 C.2.1 C.kx.1.1 hb (Nat.not_le.mpr C.kx.1.2) C.S hd ?_
  have h8 : tr G (.inr (.inl (Int32.ofNat (gN G)).toInt)) = .int (Int32.ofNat (gN G)) := congrArg Value.int (Int32.ofInt_toInt _)
  rw [← h8]
  exact h9
theorem g_stat {Cn nm ds : String} (hd : decode (mB k) pc = .ok (.getstatic i, 3)) (hn : nx = pc + 3) (hw : Jvm.Cond.fieldLink (mY k).cls i Cn nm ds ∈ goods) (hZ : ∀ s H, KX G s H → va_Z Cn nm ds (tr G v) (A0 G) s H) (hv : okV v) (h : Go G d k n0 n nx lv (v :: r) F I Q) : Go G d k n0 n pc lv r F I Q := by
  intro p e s mm args below meth c H locs ls C hl hs
  subst hn
  exact va_gets C.1 C.2.1 (hZ s s.heap C.kx) C.S C.own (C.hts _ hw) (fun _ z => z) hd (h p e s mm args below meth c H locs ls C hl (ok_c hv hs))
theorem g_obj (hd : decode (mB k) pc = .ok (.invokespecial i, 3)) (hn : nx = pc + 3) (hlink : Jvm.Cond.methodLink (mY k).cls i objectInit ∈ goods) (hinst : Jvm.Cond.instanceMethod objectInit ∈ goods) (hcode : Jvm.Cond.code objectInit ⟨#[0xb1]⟩ 1 none ∈ goods) (hr : ctgs r ≤ 8) (hd1 : 1 ≤ d)
    (h : Go G d k n0 n nx lv r F I Q) : Go G d k n0 n pc lv (.inl (some q) :: r) F I Q := by
  intro p e s mm args below meth c H locs ls C hl hs
  subst hn
  refine W.objInit C.1 C.2.1 C.own (C.hts _ hlink) (C.hts _ hinst) (C.hts _ hcode) rfl (by rw [C.2.2.2.2.1]; exact hl.1) rfl hd hd1 ?_ (h p e s mm args below meth c H locs ls C hl (ok_t hs))
  show 2 * 0 + ((r.map (tr G)).map fun v => v.category).sum + 12 ≤ 64 * d
  rw [ctgs_sum]
  omega
end EXTS
end
section
/-! calls, returns, entries, for the walking machine. Own work. -/
theorem nest_warm {w : Jvm.Cond} (hn : isNest w = true) {s U : State} (hW : s.WarmedH U.vm) (h : va_Nw w s) : va_Nw w U := by
  cases w <;> first | (cases hn; done) | exact va_Nw.warmF hW h | exact va_Nw.warmM hW h
theorem KX.mv {G : pG} {s U : State} {H H' : Heap} (h : KX G s H) (hW : s.WarmedH U.vm) (hq : ∀ q : Nat, q < H.size → ¬ A0 G q → H'[q]? = H[q]?) : KX G U H' := by
  obtain ⟨⟨h1, h1'⟩, ⟨h2, h2'⟩, ⟨h3, h3'⟩, h4, h5, h6, h7, h8, h9, ⟨a1, a2, a3, a4⟩, h11⟩ := h
  have hv := hW.alike
  refine ⟨⟨(h1.kept ?_).moved hv, h1'⟩, ⟨(h2.kept hq).moved hv, (h2'.kept hq).moved hv⟩, ⟨(h3.kept hq).moved hv, (h3'.kept hq).moved hv⟩, (h4.kept hq).moved hv, (h5.kept hq).moved hv, fun i hi => ?_, fun c q hc => u_Kn_moved hv (h7 c q hc), fun t ht => ⟨arrOfT_moved hv (h8 t ht).1, (h8 t ht).2.moved hv⟩, fun w hw hn => nest_warm hn hW (h9 w hw hn), ⟨a1.moved hv, a2.moved hv, a3.moved hv, a4.moved hv⟩, h11⟩
  · obtain ⟨scr, g1, -⟩ := h1
    exact hq _ (Array.getElem?_eq_some_iff.mp g1).1 (Nat.not_le.mpr h1')
  · obtain ⟨t1, t2, t3, t4, t5⟩ := h6 i hi
    exact ⟨(t1.kept hq).moved hv, (t2.kept hq).moved hv, (t3.kept hq).moved hv, (t4.kept hq).moved hv, t5.warm hW⟩
theorem Pc_blind (G : pG) (as : List pV) (n : Nat) (F : pF) (I : pI) : FrameBlind (Pc G as n F I) := by
  intro a U g mk h
  exact ⟨h.1, h.2.1.mv (State.WarmedH.refl U) (fun _ _ _ => rfl), h.2.2⟩
section CALLS
variable {p : Program} {l : Launch} {e : Env} {R : Room} {s : State} {m : MethodId} {args : Array Value} {below : List Frame} {meth : Method} {c : Code} {H : Heap} {locs : List Loc} {cells slots : Nat} {Q : State → Prop}
variable {pc : Nat} {ls : Array Slot} {rest st0 : List Value} {A1 : Nat → Prop} {mc ms : Nat} {free : Addr → Prop} {Qa : State → Outcome → State → Prop}
theorem after_call (hr : va_Run p l e R s m args below meth c H locs cells slots mc ms (F0 m pc ls st0) rest Qa free)
    (kk : ∀ (v : Option Value) (st t : State) (L : List Loc), st.heap = H → Qa st (.returned v) t → (∀ q ∈ L, free q.base) → W p l e R s m args below meth c t.heap (locs ++ L) (cells + mc) (slots + ms) Q (F0 m (pc + 3) ls (v.toList ++ rest))) : W p l e R s m args below meth c H locs cells slots Q (F0 m pc ls st0) := by
  intro T hT X
  obtain ⟨v, st₀, t, T', L, h0, X', hL, e1, e2, hqa, st⟩ := hr T hT X
  obtain ⟨t2, a1, b1⟩ := kk v st₀ t L h0 hqa hL T' e1 X'
  exact ⟨t2, st t2 a1, b1⟩
end CALLS
/-- what the tables say of method j -/
def mOK (j : Nat) : Prop := Jvm.Cond.code (mY j) (mB j) (mL j) (mR j) ∈ goods ∧ Jvm.Cond.initialized (mY j).cls ∈ goods ∧ ((mY j).cls ≠ "java/lang/invoke/MethodHandle" ∧ (mY j).cls ≠ "java/lang/invoke/VarHandle") ∧ (parseMethodDescriptor (mY j).desc).map (fun d => d.parameters.length) = some (mN j) ∧ mL j ≤ 40
section CL
variable {G : pG} {d k n0 n pc nx a b i q mm j : Nat} {lv : List (Option pV)} {r as : List pV} {F : pF} {I : pI} {Q : Option pV → pF → pI → Prop} {x y z : Int} {v : pV}
theorem good_word {w : Jvm.Cond} (h : w ∈ goods) : (w.onTables && w.keeps) = true ∨ ∃ ty, w = .arrayClass ty := good_of_word (List.mem_filter.mp h).2
/-- the words of a callee hold later, too -/
theorem ws_later {s : State} {args : Array Value} (hts : ∀ w ∈ goods, w.before args s = true) (hj : Jvm.Cond.code (mY j) (mB j) (mL j) (mR j) ∈ goods) : ∀ w ∈ mW j, ∀ (a' : Array Value) (U : State), s.WarmedH U.vm → w.before a' U = true := by
  intro w hw a' U hW
  have hg : w ∈ goods := by
    rcases List.mem_cons.mp hw with rfl | h
    · exact hj
    · exact h
  exact word_at hW (good_word hg) (hts w hg)
theorem back_to {p : Program} {e : Env} {s : State} {m : MethodId} {args : Array Value} {below : List Frame} {meth : Method} {c : Code} {H : Heap} {locs : List Loc} {ls : Array Slot} {st0 : List Value} {rest : List pV} {arr : Array Value}
    (C : Ct G d k n0 n F I p e s m args meth c H locs) (hl : Hs G k ls lv) (hrs : ∀ v ∈ rest, okV v) (hnz : n + alc j ≤ n0 + alc k)
    (hr : va_Run p (gL G) e (Rm d k n0) s m args below meth c H locs (n - n0) (sz n - sz n0) (alc j) (sz (n + alc j) - sz n) (F0 m pc ls st0) (rest.map (tr G)) (fun st o t => Qc G (n + alc j) (fun rv F' I' => match rv with
      | none => Go G d k n0 (n + alc j) (pc + 3) lv rest F' I' Q
      | some w => Go G d k n0 (n + alc j) (pc + 3) lv (w :: rest) F' I' Q) arr st o t ∧ va_F (A0 G) st t) (A0 G)) :
    W p (gL G) e (Rm d k n0) s m args below meth c H locs (n - n0) (sz n - sz n0) (MQ below (fun a st o t => Qc G (n0 + alc k) Q a st o t ∧ va_F (A0 G) st t) args s (alc k) (sz (n0 + alc k) - sz n0) (A0 G)) (F0 m pc ls st0) := by
  refine after_call hr (fun v st t L h0 hq hL => ?_)
  obtain ⟨⟨rv, F', I', e1, e2, e3, e4⟩, e5⟩ := hq
  have hn0 := C.n0
  have g1 := sz_le hn0
  have g2 := sz_le (Nat.le_add_right n (alc j))
  rw [show n - n0 + alc j = n + alc j - n0 by omega, show sz n - sz n0 + (sz (n + alc j) - sz n) = sz (n + alc j) - sz n0 by omega]
  have hS : va_S (A0 G) s.heap t.heap (locs ++ L) := by
    refine ⟨Nat.le_trans C.S.1 (by rw [← h0]; exact e5.1), fun q g3 g4 => ?_, fun q hq => ?_⟩
    · rw [e5.2 q (by rw [h0]; exact Nat.lt_of_lt_of_le g3 C.S.1) g4, h0]
      exact C.S.2.1 q g3 g4
    · rcases List.mem_append.mp hq with h | h
      · exact C.S.2.2 q h
      · exact hL q h
  cases rv with
  | none =>
    cases e1
    exact e2 p e s m args below meth c t.heap (locs ++ L) ls (C.mv (by omega) hnz e3 hS) hl hrs
  | some w =>
    cases e1
    exact e2 p e s m args below meth c t.heap (locs ++ L) ls (C.mv (by omega) hnz e3 hS) hl (ok_c (e4 w rfl) hrs)
theorem room_ok (hn : n0 ≤ n) (hj : mL j ≤ 40) (hnz : n + alc j ≤ n0 + alc k) : ((Rm d j n).cells = alc j ∧ (Rm d j n).slots = sz (n + alc j) - sz n ∧ (Rm d j n).frames + 1 ≤ (Rm (d + 1) k n0).frames ∧ 8 + (mL j + 11) + (Rm d j n).locals ≤ (Rm (d + 1) k n0).locals) ∧ (n - n0 + alc j ≤ (Rm (d + 1) k n0).cells ∧ sz n - sz n0 + (sz (n + alc j) - sz n) ≤ (Rm (d + 1) k n0).slots) := by
  have h1 := sz_le hn
  have h2 := sz_le (Nat.le_add_right n (alc j))
  have h3 := sz_le hnz
  refine ⟨⟨rfl, rfl, Nat.le_refl _, ?_⟩, ?_, ?_⟩
  · show 8 + (mL j + 11) + 64 * d ≤ 64 * (d + 1)
    omega
  · show n - n0 + alc j ≤ alc k
    omega
  · show sz n - sz n0 + (sz (n + alc j) - sz n) ≤ sz (n0 + alc k) - sz n0
    omega
theorem args_arr (G : pG) (as : List pV) : (as.map (tr G)).toArray = (as.map (tr G)).toArray := rfl
theorem pre_at {p : Program} {e : Env} {s : State} {m : MethodId} {args : Array Value} {meth : Method} {c : Code} {H : Heap} {locs : List Loc} (C : Ct G d k n0 n F I p e s m args meth c H locs) : ∀ U : State, U.heap = H → s.WarmedH U.vm → Pc G as n F I (as.map (tr G)).toArray U := by
  intro U hU hW
  refine ⟨rfl, C.kx.mv hW (fun q g1 g2 => ?_), by rw [hU]; exact C.wd⟩
  rw [hU]
  exact C.S.2.1 q g1 g2
theorem g_callS (hd : decode (mB k) pc = .ok (.invokestatic i, 3)) (hn : nx = pc + 3) (hj : mOK j) (hst : Jvm.Cond.static (mY j) ∈ goods) (hlk : Jvm.Cond.methodLink (mY k).cls i (mY j) ∈ goods) (hlen : as.length = mN j) (hr : ctgs r ≤ 8) (hnz : n + alc j ≤ n0 + alc k)
    (h : Call G d j as n F I (fun rv F' I' => match rv with
      | none => Go G (d + 1) k n0 (n + alc j) nx lv r F' I' Q
      | some w => Go G (d + 1) k n0 (n + alc j) nx lv (w :: r) F' I' Q)) : Go G (d + 1) k n0 n pc lv (as.reverse ++ r) F I Q := by
  intro p e s m args below meth c H locs ls C hl hs
  subst hn
  obtain ⟨j1, j2, j3, j4, j5⟩ := hj
  obtain ⟨⟨q1, q2, q3, q4⟩, q5⟩ := room_ok (d := d) C.n0 j5 hnz
  have hok : ∀ v ∈ as, okV v := fun v hv => hs v (List.mem_append_left _ (List.mem_reverse.mpr hv))
  have hM := h hok
  refine back_to C hl (fun v hv => hs v (List.mem_append_right _ hv)) hnz (arr := (as.map (tr G)).toArray) ?_
  refine va_runS (As := as.map (tr G)) (Ts := goods) (nL := mL k) ⟨C.1, C.2.1, C.2.2.2.2.1, C.own, C.hts⟩ hM ⟨⟨q1, q2, q3, q4, ws_later C.hts j1, List.mem_cons_self, C.hts _ j1, C.hts _ j2, j3, fun sig hsig => ?_, C.hts _ hlk⟩, C.hts _ hst⟩ ⟨Pc_blind G as n F I, pre_at C⟩ rfl rfl hl.1 (by show List.map (tr G) (as.reverse ++ r) = _; rw [List.map_append, List.map_reverse]) (lv_room (by rw [ctgs_sum]; exact hr)) hd q5
  · rw [hsig] at j4
    rw [List.length_map, hlen]
    exact (Option.some.inj j4).symm
theorem g_callSN {host : String} (hd : decode (mB k) pc = .ok (.invokestatic i, 3)) (hn : nx = pc + 3) (hj : mOK j) (hst : Jvm.Cond.static (mY j) ∈ goods) (hlk : Jvm.Cond.methodLinkNest (mY k).cls i (mY j) host ∈ lw_tbl) (hlen : as.length = mN j) (hr : ctgs r ≤ 8) (hnz : n + alc j ≤ n0 + alc k)
    (h : Call G d j as n F I (fun rv F' I' => match rv with
      | none => Go G (d + 1) k n0 (n + alc j) nx lv r F' I' Q
      | some w => Go G (d + 1) k n0 (n + alc j) nx lv (w :: r) F' I' Q)) : Go G (d + 1) k n0 n pc lv (as.reverse ++ r) F I Q := by
  intro p e s m args below meth c H locs ls C hl hs
  subst hn
  obtain ⟨j1, j2, j3, j4, j5⟩ := hj
  obtain ⟨⟨q1, q2, q3, q4⟩, q5⟩ := room_ok (d := d) C.n0 j5 hnz
  have hok : ∀ v ∈ as, okV v := fun v hv => hs v (List.mem_append_left _ (List.mem_reverse.mpr hv))
  have hM := h hok
  refine back_to C hl (fun v hv => hs v (List.mem_append_right _ hv)) hnz (arr := (as.map (tr G)).toArray) ?_
  refine va_runSN (As := as.map (tr G)) (Ts := goods) (nL := mL k) (host := host) ⟨C.1, C.2.1, C.2.2.2.2.1, C.own, C.hts⟩ hM ⟨⟨⟨q1, q2, q3, q4, ws_later C.hts j1, List.mem_cons_self⟩, C.hts _ j1, C.hts _ j2, j3, fun sig hsig => ?_, va_Nw.use rfl (C.kx.nest _ hlk rfl)⟩, C.hts _ hst, trivial⟩ ⟨Pc_blind G as n F I, pre_at C⟩ rfl rfl hl.1 (by show List.map (tr G) (as.reverse ++ r) = _; rw [List.map_append, List.map_reverse]) (lv_room (by rw [ctgs_sum]; exact hr)) hd q5
  · rw [hsig] at j4
    rw [List.length_map, hlen]
    exact (Option.some.inj j4).symm
/-- the receiver of a call -/
def Rcv (G : pG) (n q : Nat) (C : String) : Prop := (∃ c m, c < 13 ∧ C = clC c ∧ lay q = (c, m) ∧ q < n) ∨ (∃ i, i < 18 ∧ q = EXT + 10 + i ∧ C = "java/lang/String")
theorem rcv_at {Cn : String} {p : Program} {e : Env} {s : State} {m : MethodId} {args : Array Value} {meth : Method} {c : Code} {H : Heap} {locs : List Loc} (C : Ct G d k n0 n F I p e s m args meth c H locs) (h : Rcv G n q Cn) : ∃ cellB : Cell, H[ad G q]? = some cellB ∧ cellB.vm.isStatics = false ∧ s.vm.findClass Cn = some cellB.cls := by
  rcases h with ⟨c0, m0, hc, rfl, hq, hqn⟩ | ⟨i0, hi, rfl, rfl⟩
  · have h0 := wL_at G F I hqn
    rw [cE_obj hq hc] at h0
    rw [ad_w G (by have := C.wd.ext; omega)]
    exact va_recv C.kx.K0 C.wd.2.1 (cl_get hc) h0
  · obtain ⟨cell, f1, f2, f3, f4⟩ := (C.kx.txt i0 hi).1
    exact ⟨cell, (C.S.2.1 _ (Array.getElem?_eq_some_iff.mp f1).1 f4).trans f1, f2, f3⟩
theorem g_callV (hd : decode (mB k) pc = .ok (.invokevirtual i, 3)) (hn : nx = pc + 3) (hj : mOK j) (hst : Jvm.Cond.instanceMethod (mY j) ∈ goods) (hsel : Jvm.Cond.selects (mY j).cls (mY j) (mY j) ∈ goods) (hlk : Jvm.Cond.methodLink (mY k).cls i (mY j) ∈ goods) (hrc : Rcv G n q (mY j).cls) (hlen : as.length = mN j) (hr : ctgs r ≤ 8) (hnz : n + alc j ≤ n0 + alc k)
    (h : Call G d j (.inl (some q) :: as) n F I (fun rv F' I' => match rv with
      | none => Go G (d + 1) k n0 (n + alc j) nx lv r F' I' Q
      | some w => Go G (d + 1) k n0 (n + alc j) nx lv (w :: r) F' I' Q)) : Go G (d + 1) k n0 n pc lv (as.reverse ++ .inl (some q) :: r) F I Q := by
  intro p e s m args below meth c H locs ls C hl hs
  subst hn
  obtain ⟨j1, j2, j3, j4, j5⟩ := hj
  obtain ⟨⟨q1, q2, q3, q4⟩, q5⟩ := room_ok (d := d) C.n0 j5 hnz
  have hok : ∀ v ∈ (.inl (some q) :: as : List pV), okV v := ok_c trivial (fun v hv => hs v (List.mem_append_left _ (List.mem_reverse.mpr hv)))
  have hM := h hok
  refine back_to C hl (fun v hv => hs v (List.mem_append_right _ (List.mem_cons_of_mem _ hv))) hnz (arr := ((.inl (some q) :: as : List pV).map (tr G)).toArray) ?_
  refine va_runV (As := as.map (tr G)) (Ts := goods) (nL := mL k) (C := (mY j).cls) (b := ad G q) ⟨C.1, C.2.1, C.2.2.2.2.1, C.own, C.hts⟩ hM ⟨⟨q1, q2, q3, q4, ws_later C.hts j1, List.mem_cons_self, C.hts _ j1, C.hts _ j2, j3, fun sig hsig => ?_, C.hts _ hlk⟩, C.hts _ hst, C.hts _ hsel⟩ ⟨Pc_blind G _ n F I, rcv_at C hrc, pre_at (as := .inl (some q) :: as) C⟩ rfl rfl hl.1 (by show List.map (tr G) (as.reverse ++ .inl (some q) :: r) = _; rw [List.map_append, List.map_reverse]; rfl) (lv_room (by rw [ctgs_sum]; exact hr)) hd q5
  · rw [hsig] at j4
    rw [List.length_map, hlen]
    exact (Option.some.inj j4).symm
theorem g_callVN {host : String} (hd : decode (mB k) pc = .ok (.invokevirtual i, 3)) (hn : nx = pc + 3) (hj : mOK j) (hst : Jvm.Cond.instanceMethod (mY j) ∈ goods) (hsel : Jvm.Cond.selects (mY j).cls (mY j) (mY j) ∈ goods) (hlk : Jvm.Cond.methodLinkNest (mY k).cls i (mY j) host ∈ lw_tbl) (hrc : Rcv G n q (mY j).cls) (hlen : as.length = mN j) (hr : ctgs r ≤ 8) (hnz : n + alc j ≤ n0 + alc k)
    (h : Call G d j (.inl (some q) :: as) n F I (fun rv F' I' => match rv with
      | none => Go G (d + 1) k n0 (n + alc j) nx lv r F' I' Q
      | some w => Go G (d + 1) k n0 (n + alc j) nx lv (w :: r) F' I' Q)) : Go G (d + 1) k n0 n pc lv (as.reverse ++ .inl (some q) :: r) F I Q := by
  intro p e s m args below meth c H locs ls C hl hs
  subst hn
  obtain ⟨j1, j2, j3, j4, j5⟩ := hj
  obtain ⟨⟨q1, q2, q3, q4⟩, q5⟩ := room_ok (d := d) C.n0 j5 hnz
  have hok : ∀ v ∈ (.inl (some q) :: as : List pV), okV v := ok_c trivial (fun v hv => hs v (List.mem_append_left _ (List.mem_reverse.mpr hv)))
  have hM := h hok
  refine back_to C hl (fun v hv => hs v (List.mem_append_right _ (List.mem_cons_of_mem _ hv))) hnz (arr := ((.inl (some q) :: as : List pV).map (tr G)).toArray) ?_
  refine va_runVN (As := as.map (tr G)) (Ts := goods) (nL := mL k) (C := (mY j).cls) (b := ad G q) (host := host) ⟨C.1, C.2.1, C.2.2.2.2.1, C.own, C.hts⟩ hM ⟨⟨⟨q1, q2, q3, q4, ws_later C.hts j1, List.mem_cons_self⟩, C.hts _ j1, C.hts _ j2, j3, fun sig hsig => ?_, va_Nw.use rfl (C.kx.nest _ hlk rfl)⟩, C.hts _ hst, C.hts _ hsel⟩ ⟨Pc_blind G _ n F I, rcv_at C hrc, pre_at (as := .inl (some q) :: as) C⟩ rfl rfl hl.1 (by show List.map (tr G) (as.reverse ++ .inl (some q) :: r) = _; rw [List.map_append, List.map_reverse]; rfl) (lv_room (by rw [ctgs_sum]; exact hr)) hd q5
  · rw [hsig] at j4
    rw [List.length_map, hlen]
    exact (Option.some.inj j4).symm
theorem g_callI (hd : decode (mB k) pc = .ok (.invokespecial i, 3)) (hn : nx = pc + 3) (hj : mOK j) (hnm : (mY j).name = "<init>") (hret : mR j = none) (hst : Jvm.Cond.instanceMethod (mY j) ∈ goods) (hlk : Jvm.Cond.methodLink (mY k).cls i (mY j) ∈ goods) (hlen : as.length = mN j) (hr : ctgs r ≤ 8) (hnz : n + alc j ≤ n0 + alc k)
    (h : Call G d j (.inl (some q) :: as) n F I (fun rv F' I' => match rv with
      | none => Go G (d + 1) k n0 (n + alc j) nx lv r F' I' Q
      | some w => Go G (d + 1) k n0 (n + alc j) nx lv (w :: r) F' I' Q)) : Go G (d + 1) k n0 n pc lv (as.reverse ++ .inl (some q) :: r) F I Q := by
  intro p e s m args below meth c H locs ls C hl hs
  subst hn
  obtain ⟨j1, j2, j3, j4, j5⟩ := hj
  obtain ⟨⟨q1, q2, q3, q4⟩, q5⟩ := room_ok (d := d) C.n0 j5 hnz
  have hok : ∀ v ∈ (.inl (some q) :: as : List pV), okV v := ok_c trivial (fun v hv => hs v (List.mem_append_left _ (List.mem_reverse.mpr hv)))
  have hM := h hok
  refine back_to C hl (fun v hv => hs v (List.mem_append_right _ (List.mem_cons_of_mem _ hv))) hnz (arr := ((.inl (some q) :: as : List pV).map (tr G)).toArray) ?_
  have hcode : Jvm.Cond.code (mY j) (mB j) (mL j) none ∈ mW j := by rw [← hret]; exact List.mem_cons_self
  refine va_runI (As := as.map (tr G)) (Ts := goods) (nL := mL k) (b := ad G q) (bytes := mB j) (maxL := mL j) ⟨C.1, C.2.1, C.2.2.2.2.1, C.own, C.hts⟩ hM ⟨⟨q1, q2, q3, q4, ws_later C.hts j1, hcode, by rw [← hret]; exact C.hts _ j1, C.hts _ j2, j3, fun sig hsig => ?_, C.hts _ hlk⟩, hnm, C.hts _ hst⟩ ⟨Pc_blind G _ n F I, pre_at (as := .inl (some q) :: as) C⟩ rfl rfl hl.1 (by show List.map (tr G) (as.reverse ++ .inl (some q) :: r) = _; rw [List.map_append, List.map_reverse]; rfl) (lv_room (by rw [ctgs_sum]; exact hr)) hd q5
  · rw [hsig] at j4
    rw [List.length_map, hlen]
    exact (Option.some.inj j4).symm
theorem g_callIN {host : String} (hd : decode (mB k) pc = .ok (.invokespecial i, 3)) (hn : nx = pc + 3) (hj : mOK j) (hnm : (mY j).name = "<init>") (hret : mR j = none) (hst : Jvm.Cond.instanceMethod (mY j) ∈ goods) (hlk : Jvm.Cond.methodLinkNest (mY k).cls i (mY j) host ∈ lw_tbl) (hlen : as.length = mN j) (hr : ctgs r ≤ 8) (hnz : n + alc j ≤ n0 + alc k)
    (h : Call G d j (.inl (some q) :: as) n F I (fun rv F' I' => match rv with
      | none => Go G (d + 1) k n0 (n + alc j) nx lv r F' I' Q
      | some w => Go G (d + 1) k n0 (n + alc j) nx lv (w :: r) F' I' Q)) : Go G (d + 1) k n0 n pc lv (as.reverse ++ .inl (some q) :: r) F I Q := by
  intro p e s m args below meth c H locs ls C hl hs
  subst hn
  obtain ⟨j1, j2, j3, j4, j5⟩ := hj
  obtain ⟨⟨q1, q2, q3, q4⟩, q5⟩ := room_ok (d := d) C.n0 j5 hnz
  have hok : ∀ v ∈ (.inl (some q) :: as : List pV), okV v := ok_c trivial (fun v hv => hs v (List.mem_append_left _ (List.mem_reverse.mpr hv)))
  have hM := h hok
  refine back_to C hl (fun v hv => hs v (List.mem_append_right _ (List.mem_cons_of_mem _ hv))) hnz (arr := ((.inl (some q) :: as : List pV).map (tr G)).toArray) ?_
  have hcode : Jvm.Cond.code (mY j) (mB j) (mL j) none ∈ mW j := by rw [← hret]; exact List.mem_cons_self
  refine va_runIN (As := as.map (tr G)) (Ts := goods) (nL := mL k) (b := ad G q) (host := host) (bytes := mB j) (maxL := mL j) ⟨C.1, C.2.1, C.2.2.2.2.1, C.own, C.hts⟩ hM ⟨⟨⟨q1, q2, q3, q4, ws_later C.hts j1, hcode⟩, by rw [← hret]; exact C.hts _ j1, C.hts _ j2, j3, fun sig hsig => ?_, va_Nw.use rfl (C.kx.nest _ hlk rfl)⟩, hnm, C.hts _ hst⟩ ⟨Pc_blind G _ n F I, pre_at (as := .inl (some q) :: as) C⟩ rfl rfl hl.1 (by show List.map (tr G) (as.reverse ++ .inl (some q) :: r) = _; rw [List.map_append, List.map_reverse]; rfl) (lv_room (by rw [ctgs_sum]; exact hr)) hd q5
  · rw [hsig] at j4
    rw [List.length_map, hlen]
    exact (Option.some.inj j4).symm
end CL
end
