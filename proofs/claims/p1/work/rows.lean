section
-- ===== PART A: goes FIRST, ahead of the names: the tables' words, and 'selects' of the private methods out of them =====
/-- a private method of a class that the tables say can be made, by its rows of tables_1 -/
def lw_okq (q : MethodName × Nat) : Prop := (q.1.cls ≠ "java/lang/invoke/MethodHandle" ∧ q.1.cls ≠ "java/lang/invoke/VarHandle") ∧ Cond.instantiable q.1.cls q.2 ∈ tables_1 ∧ Cond.privateMethod q.1 ∈ tables_1 ∧ Cond.instanceMethod q.1 ∈ tables_1
theorem lw_p0 : lw_okq (⟨"StrengthHouse", "sheetAt", "(I)LStrengthHouse$Sheet;"⟩, 11) := ⟨⟨by decide +kernel, by decide +kernel⟩, List.mem_of_getElem? (i := 22) (by decide +kernel), List.mem_of_getElem? (i := 418) (by decide +kernel), List.mem_of_getElem? (i := 419) (by decide +kernel)⟩
theorem lw_p1 : lw_okq (⟨"StrengthHouse", "refuse", "(I)I"⟩, 11) := ⟨⟨by decide +kernel, by decide +kernel⟩, List.mem_of_getElem? (i := 22) (by decide +kernel), List.mem_of_getElem? (i := 428) (by decide +kernel), List.mem_of_getElem? (i := 429) (by decide +kernel)⟩
theorem lw_p2 : lw_okq (⟨"StrengthHouse$Piece", "answerAt", "(I)I"⟩, 6) := ⟨⟨by decide +kernel, by decide +kernel⟩, List.mem_of_getElem? (i := 94) (by decide +kernel), List.mem_of_getElem? (i := 519) (by decide +kernel), List.mem_of_getElem? (i := 520) (by decide +kernel)⟩
theorem lw_p3 : lw_okq (⟨"StrengthHouse$TextReader", "next", "()V"⟩, 4) := ⟨⟨by decide +kernel, by decide +kernel⟩, List.mem_of_getElem? (i := 324) (by decide +kernel), List.mem_of_getElem? (i := 597) (by decide +kernel), List.mem_of_getElem? (i := 598) (by decide +kernel)⟩
theorem lw_p4 : lw_okq (⟨"StrengthHouse$TextReader", "byteAt", "(I)I"⟩, 4) := ⟨⟨by decide +kernel, by decide +kernel⟩, List.mem_of_getElem? (i := 324) (by decide +kernel), List.mem_of_getElem? (i := 601) (by decide +kernel), List.mem_of_getElem? (i := 602) (by decide +kernel)⟩
theorem lw_p5 : lw_okq (⟨"StrengthHouse$TextReader", "isLetter", "(I)Z"⟩, 4) := ⟨⟨by decide +kernel, by decide +kernel⟩, List.mem_of_getElem? (i := 324) (by decide +kernel), List.mem_of_getElem? (i := 605) (by decide +kernel), List.mem_of_getElem? (i := 606) (by decide +kernel)⟩
theorem lw_p6 : lw_okq (⟨"StrengthHouse$TextReader", "isDigit", "(I)Z"⟩, 4) := ⟨⟨by decide +kernel, by decide +kernel⟩, List.mem_of_getElem? (i := 324) (by decide +kernel), List.mem_of_getElem? (i := 610) (by decide +kernel), List.mem_of_getElem? (i := 611) (by decide +kernel)⟩
theorem lw_p7 : lw_okq (⟨"StrengthHouse$TextReader", "isMark", "(Ljava/lang/String;)Z"⟩, 4) := ⟨⟨by decide +kernel, by decide +kernel⟩, List.mem_of_getElem? (i := 324) (by decide +kernel), List.mem_of_getElem? (i := 615) (by decide +kernel), List.mem_of_getElem? (i := 616) (by decide +kernel)⟩
theorem lw_p8 : lw_okq (⟨"StrengthHouse$TextReader", "readPart", "(LStrengthHouse$Program;Z)Z"⟩, 4) := ⟨⟨by decide +kernel, by decide +kernel⟩, List.mem_of_getElem? (i := 324) (by decide +kernel), List.mem_of_getElem? (i := 667) (by decide +kernel), List.mem_of_getElem? (i := 668) (by decide +kernel)⟩
theorem lw_p9 : lw_okq (⟨"StrengthHouse$TextReader", "actHere", "()I"⟩, 4) := ⟨⟨by decide +kernel, by decide +kernel⟩, List.mem_of_getElem? (i := 324) (by decide +kernel), List.mem_of_getElem? (i := 671) (by decide +kernel), List.mem_of_getElem? (i := 672) (by decide +kernel)⟩
theorem lw_p10 : lw_okq (⟨"StrengthHouse$TextReader", "numberHere", "()I"⟩, 4) := ⟨⟨by decide +kernel, by decide +kernel⟩, List.mem_of_getElem? (i := 324) (by decide +kernel), List.mem_of_getElem? (i := 688) (by decide +kernel), List.mem_of_getElem? (i := 689) (by decide +kernel)⟩
theorem lw_p11 : lw_okq (⟨"StrengthHouse$Machine", "begin", "(LStrengthHouse$Piece;LStrengthHouse$State;)V"⟩, 15) := ⟨⟨by decide +kernel, by decide +kernel⟩, List.mem_of_getElem? (i := 262) (by decide +kernel), List.mem_of_getElem? (i := 709) (by decide +kernel), List.mem_of_getElem? (i := 710) (by decide +kernel)⟩
theorem lw_p12 : lw_okq (⟨"StrengthHouse$Machine", "doPart", "(II)V"⟩, 15) := ⟨⟨by decide +kernel, by decide +kernel⟩, List.mem_of_getElem? (i := 262) (by decide +kernel), List.mem_of_getElem? (i := 723) (by decide +kernel), List.mem_of_getElem? (i := 724) (by decide +kernel)⟩
theorem lw_p13 : lw_okq (⟨"StrengthHouse$Machine", "isWanted", "(II)Z"⟩, 15) := ⟨⟨by decide +kernel, by decide +kernel⟩, List.mem_of_getElem? (i := 262) (by decide +kernel), List.mem_of_getElem? (i := 730) (by decide +kernel), List.mem_of_getElem? (i := 731) (by decide +kernel)⟩
theorem lw_p14 : lw_okq (⟨"StrengthHouse$Machine", "load", "()I"⟩, 15) := ⟨⟨by decide +kernel, by decide +kernel⟩, List.mem_of_getElem? (i := 262) (by decide +kernel), List.mem_of_getElem? (i := 734) (by decide +kernel), List.mem_of_getElem? (i := 735) (by decide +kernel)⟩
theorem lw_p15 : lw_okq (⟨"StrengthHouse$Machine", "doOnce", "(I)V"⟩, 15) := ⟨⟨by decide +kernel, by decide +kernel⟩, List.mem_of_getElem? (i := 262) (by decide +kernel), List.mem_of_getElem? (i := 739) (by decide +kernel), List.mem_of_getElem? (i := 740) (by decide +kernel)⟩
def lw_privs_1 : List (MethodName × Nat) := [(⟨"StrengthHouse", "sheetAt", "(I)LStrengthHouse$Sheet;"⟩, 11), (⟨"StrengthHouse", "refuse", "(I)I"⟩, 11), (⟨"StrengthHouse$Piece", "answerAt", "(I)I"⟩, 6), (⟨"StrengthHouse$TextReader", "next", "()V"⟩, 4), (⟨"StrengthHouse$TextReader", "byteAt", "(I)I"⟩, 4), (⟨"StrengthHouse$TextReader", "isLetter", "(I)Z"⟩, 4), (⟨"StrengthHouse$TextReader", "isDigit", "(I)Z"⟩, 4), (⟨"StrengthHouse$TextReader", "isMark", "(Ljava/lang/String;)Z"⟩, 4), (⟨"StrengthHouse$TextReader", "readPart", "(LStrengthHouse$Program;Z)Z"⟩, 4), (⟨"StrengthHouse$TextReader", "actHere", "()I"⟩, 4), (⟨"StrengthHouse$TextReader", "numberHere", "()I"⟩, 4), (⟨"StrengthHouse$Machine", "begin", "(LStrengthHouse$Piece;LStrengthHouse$State;)V"⟩, 15), (⟨"StrengthHouse$Machine", "doPart", "(II)V"⟩, 15), (⟨"StrengthHouse$Machine", "isWanted", "(II)Z"⟩, 15), (⟨"StrengthHouse$Machine", "load", "()I"⟩, 15), (⟨"StrengthHouse$Machine", "doOnce", "(I)V"⟩, 15)]
theorem lw_r1 : ∀ q ∈ lw_privs_1, lw_okq q := List.forall_mem_cons.mpr ⟨lw_p0, List.forall_mem_cons.mpr ⟨lw_p1, List.forall_mem_cons.mpr ⟨lw_p2, List.forall_mem_cons.mpr ⟨lw_p3, List.forall_mem_cons.mpr ⟨lw_p4, List.forall_mem_cons.mpr ⟨lw_p5, List.forall_mem_cons.mpr ⟨lw_p6, List.forall_mem_cons.mpr ⟨lw_p7, List.forall_mem_cons.mpr ⟨lw_p8, List.forall_mem_cons.mpr ⟨lw_p9, List.forall_mem_cons.mpr ⟨lw_p10, List.forall_mem_cons.mpr ⟨lw_p11, List.forall_mem_cons.mpr ⟨lw_p12, List.forall_mem_cons.mpr ⟨lw_p13, List.forall_mem_cons.mpr ⟨lw_p14, List.forall_mem_cons.mpr ⟨lw_p15, fun _ h => absurd h List.not_mem_nil⟩⟩⟩⟩⟩⟩⟩⟩⟩⟩⟩⟩⟩⟩⟩⟩
theorem lw_p16 : lw_okq (⟨"StrengthHouse$Machine", "moreStretch", "(I)I"⟩, 15) := ⟨⟨by decide +kernel, by decide +kernel⟩, List.mem_of_getElem? (i := 262) (by decide +kernel), List.mem_of_getElem? (i := 743) (by decide +kernel), List.mem_of_getElem? (i := 744) (by decide +kernel)⟩
theorem lw_p17 : lw_okq (⟨"StrengthHouse$Machine", "creeps", "()Z"⟩, 15) := ⟨⟨by decide +kernel, by decide +kernel⟩, List.mem_of_getElem? (i := 262) (by decide +kernel), List.mem_of_getElem? (i := 747) (by decide +kernel), List.mem_of_getElem? (i := 748) (by decide +kernel)⟩
theorem lw_p18 : lw_okq (⟨"StrengthHouse$Machine", "take", "()V"⟩, 15) := ⟨⟨by decide +kernel, by decide +kernel⟩, List.mem_of_getElem? (i := 262) (by decide +kernel), List.mem_of_getElem? (i := 757) (by decide +kernel), List.mem_of_getElem? (i := 758) (by decide +kernel)⟩
theorem lw_p19 : lw_okq (⟨"StrengthHouse$Machine", "askLimits", "(I)V"⟩, 15) := ⟨⟨by decide +kernel, by decide +kernel⟩, List.mem_of_getElem? (i := 262) (by decide +kernel), List.mem_of_getElem? (i := 762) (by decide +kernel), List.mem_of_getElem? (i := 763) (by decide +kernel)⟩
theorem lw_p20 : lw_okq (⟨"StrengthHouse$Readings", "tryLine", "(II)V"⟩, 6) := ⟨⟨by decide +kernel, by decide +kernel⟩, List.mem_of_getElem? (i := 100) (by decide +kernel), List.mem_of_getElem? (i := 791) (by decide +kernel), List.mem_of_getElem? (i := 792) (by decide +kernel)⟩
theorem lw_p21 : lw_okq (⟨"StrengthHouse$Readings", "belowLine", "(IIII)J"⟩, 6) := ⟨⟨by decide +kernel, by decide +kernel⟩, List.mem_of_getElem? (i := 100) (by decide +kernel), List.mem_of_getElem? (i := 796) (by decide +kernel), List.mem_of_getElem? (i := 797) (by decide +kernel)⟩
theorem lw_p22 : lw_okq (⟨"StrengthHouse", "orNone", "(I)I"⟩, 11) := ⟨⟨by decide +kernel, by decide +kernel⟩, List.mem_of_getElem? (i := 22) (by decide +kernel), List.mem_of_getElem? (i := 809) (by decide +kernel), List.mem_of_getElem? (i := 810) (by decide +kernel)⟩
theorem lw_p23 : lw_okq (⟨"StrengthHouse$Readings", "topAt", "()I"⟩, 6) := ⟨⟨by decide +kernel, by decide +kernel⟩, List.mem_of_getElem? (i := 100) (by decide +kernel), List.mem_of_getElem? (i := 821) (by decide +kernel), List.mem_of_getElem? (i := 822) (by decide +kernel)⟩
theorem lw_p24 : lw_okq (⟨"StrengthHouse$Readings", "stretchOr", "(I)I"⟩, 6) := ⟨⟨by decide +kernel, by decide +kernel⟩, List.mem_of_getElem? (i := 100) (by decide +kernel), List.mem_of_getElem? (i := 826) (by decide +kernel), List.mem_of_getElem? (i := 827) (by decide +kernel)⟩
theorem lw_p25 : lw_okq (⟨"StrengthHouse$Readings", "spentBetween", "(II)J"⟩, 6) := ⟨⟨by decide +kernel, by decide +kernel⟩, List.mem_of_getElem? (i := 100) (by decide +kernel), List.mem_of_getElem? (i := 840) (by decide +kernel), List.mem_of_getElem? (i := 841) (by decide +kernel)⟩
theorem lw_p26 : lw_okq (⟨"StrengthHouse", "orderCurves", "(II)V"⟩, 11) := ⟨⟨by decide +kernel, by decide +kernel⟩, List.mem_of_getElem? (i := 22) (by decide +kernel), List.mem_of_getElem? (i := 869) (by decide +kernel), List.mem_of_getElem? (i := 870) (by decide +kernel)⟩
theorem lw_p27 : lw_okq (⟨"StrengthHouse", "orderNumbers", "(II)V"⟩, 11) := ⟨⟨by decide +kernel, by decide +kernel⟩, List.mem_of_getElem? (i := 22) (by decide +kernel), List.mem_of_getElem? (i := 894) (by decide +kernel), List.mem_of_getElem? (i := 895) (by decide +kernel)⟩
theorem lw_p28 : lw_okq (⟨"StrengthHouse$Order", "isApart", "(III)Z"⟩, 3) := ⟨⟨by decide +kernel, by decide +kernel⟩, List.mem_of_getElem? (i := 345) (by decide +kernel), List.mem_of_getElem? (i := 902) (by decide +kernel), List.mem_of_getElem? (i := 903) (by decide +kernel)⟩
theorem lw_p29 : lw_okq (⟨"StrengthHouse$Meters", "ledOnce", "(IJ)J"⟩, 4) := ⟨⟨by decide +kernel, by decide +kernel⟩, List.mem_of_getElem? (i := 41) (by decide +kernel), List.mem_of_getElem? (i := 947) (by decide +kernel), List.mem_of_getElem? (i := 948) (by decide +kernel)⟩
theorem lw_p30 : lw_okq (⟨"StrengthHouse$Meters", "otherOf", "(I)I"⟩, 4) := ⟨⟨by decide +kernel, by decide +kernel⟩, List.mem_of_getElem? (i := 41) (by decide +kernel), List.mem_of_getElem? (i := 953) (by decide +kernel), List.mem_of_getElem? (i := 954) (by decide +kernel)⟩
theorem lw_p31 : lw_okq (⟨"StrengthHouse", "fewestPlates", "(LStrengthHouse$Sheet;II)I"⟩, 11) := ⟨⟨by decide +kernel, by decide +kernel⟩, List.mem_of_getElem? (i := 22) (by decide +kernel), List.mem_of_getElem? (i := 1020) (by decide +kernel), List.mem_of_getElem? (i := 1021) (by decide +kernel)⟩
def lw_privs_2 : List (MethodName × Nat) := [(⟨"StrengthHouse$Machine", "moreStretch", "(I)I"⟩, 15), (⟨"StrengthHouse$Machine", "creeps", "()Z"⟩, 15), (⟨"StrengthHouse$Machine", "take", "()V"⟩, 15), (⟨"StrengthHouse$Machine", "askLimits", "(I)V"⟩, 15), (⟨"StrengthHouse$Readings", "tryLine", "(II)V"⟩, 6), (⟨"StrengthHouse$Readings", "belowLine", "(IIII)J"⟩, 6), (⟨"StrengthHouse", "orNone", "(I)I"⟩, 11), (⟨"StrengthHouse$Readings", "topAt", "()I"⟩, 6), (⟨"StrengthHouse$Readings", "stretchOr", "(I)I"⟩, 6), (⟨"StrengthHouse$Readings", "spentBetween", "(II)J"⟩, 6), (⟨"StrengthHouse", "orderCurves", "(II)V"⟩, 11), (⟨"StrengthHouse", "orderNumbers", "(II)V"⟩, 11), (⟨"StrengthHouse$Order", "isApart", "(III)Z"⟩, 3), (⟨"StrengthHouse$Meters", "ledOnce", "(IJ)J"⟩, 4), (⟨"StrengthHouse$Meters", "otherOf", "(I)I"⟩, 4), (⟨"StrengthHouse", "fewestPlates", "(LStrengthHouse$Sheet;II)I"⟩, 11)]
theorem lw_r2 : ∀ q ∈ lw_privs_2, lw_okq q := List.forall_mem_cons.mpr ⟨lw_p16, List.forall_mem_cons.mpr ⟨lw_p17, List.forall_mem_cons.mpr ⟨lw_p18, List.forall_mem_cons.mpr ⟨lw_p19, List.forall_mem_cons.mpr ⟨lw_p20, List.forall_mem_cons.mpr ⟨lw_p21, List.forall_mem_cons.mpr ⟨lw_p22, List.forall_mem_cons.mpr ⟨lw_p23, List.forall_mem_cons.mpr ⟨lw_p24, List.forall_mem_cons.mpr ⟨lw_p25, List.forall_mem_cons.mpr ⟨lw_p26, List.forall_mem_cons.mpr ⟨lw_p27, List.forall_mem_cons.mpr ⟨lw_p28, List.forall_mem_cons.mpr ⟨lw_p29, List.forall_mem_cons.mpr ⟨lw_p30, List.forall_mem_cons.mpr ⟨lw_p31, fun _ h => absurd h List.not_mem_nil⟩⟩⟩⟩⟩⟩⟩⟩⟩⟩⟩⟩⟩⟩⟩⟩
theorem lw_p32 : lw_okq (⟨"StrengthHouse$Voices", "say", "(IIII)I"⟩, 8) := ⟨⟨by decide +kernel, by decide +kernel⟩, List.mem_of_getElem? (i := 229) (by decide +kernel), List.mem_of_getElem? (i := 1053) (by decide +kernel), List.mem_of_getElem? (i := 1054) (by decide +kernel)⟩
theorem lw_p33 : lw_okq (⟨"StrengthHouse$Voices", "workOut", "(III)I"⟩, 8) := ⟨⟨by decide +kernel, by decide +kernel⟩, List.mem_of_getElem? (i := 229) (by decide +kernel), List.mem_of_getElem? (i := 1063) (by decide +kernel), List.mem_of_getElem? (i := 1064) (by decide +kernel)⟩
theorem lw_p34 : lw_okq (⟨"StrengthHouse$Voices", "shareOut", "(I)I"⟩, 8) := ⟨⟨by decide +kernel, by decide +kernel⟩, List.mem_of_getElem? (i := 229) (by decide +kernel), List.mem_of_getElem? (i := 1067) (by decide +kernel), List.mem_of_getElem? (i := 1068) (by decide +kernel)⟩
theorem lw_p35 : lw_okq (⟨"StrengthHouse", "firstUnlike", "(ILStrengthHouse$Readings;)I"⟩, 11) := ⟨⟨by decide +kernel, by decide +kernel⟩, List.mem_of_getElem? (i := 22) (by decide +kernel), List.mem_of_getElem? (i := 1146) (by decide +kernel), List.mem_of_getElem? (i := 1147) (by decide +kernel)⟩
theorem lw_p36 : lw_okq (⟨"StrengthHouseModel", "finding", "(I)I"⟩, 38) := ⟨⟨by decide +kernel, by decide +kernel⟩, List.mem_of_getElem? (i := 1179) (by decide +kernel), List.mem_of_getElem? (i := 1320) (by decide +kernel), List.mem_of_getElem? (i := 1321) (by decide +kernel)⟩
theorem lw_p37 : lw_okq (⟨"StrengthHouseModel", "is", "(II)Z"⟩, 38) := ⟨⟨by decide +kernel, by decide +kernel⟩, List.mem_of_getElem? (i := 1179) (by decide +kernel), List.mem_of_getElem? (i := 1331) (by decide +kernel), List.mem_of_getElem? (i := 1332) (by decide +kernel)⟩
theorem lw_p38 : lw_okq (⟨"StrengthHouseModel", "many", "(I)I"⟩, 38) := ⟨⟨by decide +kernel, by decide +kernel⟩, List.mem_of_getElem? (i := 1179) (by decide +kernel), List.mem_of_getElem? (i := 1335) (by decide +kernel), List.mem_of_getElem? (i := 1336) (by decide +kernel)⟩
theorem lw_p39 : lw_okq (⟨"StrengthHouseModel", "of", "(II)I"⟩, 38) := ⟨⟨by decide +kernel, by decide +kernel⟩, List.mem_of_getElem? (i := 1179) (by decide +kernel), List.mem_of_getElem? (i := 1339) (by decide +kernel), List.mem_of_getElem? (i := 1340) (by decide +kernel)⟩
theorem lw_p40 : lw_okq (⟨"StrengthHouseModel", "isGood", "(II)Z"⟩, 38) := ⟨⟨by decide +kernel, by decide +kernel⟩, List.mem_of_getElem? (i := 1179) (by decide +kernel), List.mem_of_getElem? (i := 1343) (by decide +kernel), List.mem_of_getElem? (i := 1344) (by decide +kernel)⟩
theorem lw_p41 : lw_okq (⟨"StrengthHouseModel", "load", "(II)I"⟩, 38) := ⟨⟨by decide +kernel, by decide +kernel⟩, List.mem_of_getElem? (i := 1179) (by decide +kernel), List.mem_of_getElem? (i := 1347) (by decide +kernel), List.mem_of_getElem? (i := 1348) (by decide +kernel)⟩
theorem lw_p42 : lw_okq (⟨"StrengthHouseModel", "answered", "(II)I"⟩, 38) := ⟨⟨by decide +kernel, by decide +kernel⟩, List.mem_of_getElem? (i := 1179) (by decide +kernel), List.mem_of_getElem? (i := 1363) (by decide +kernel), List.mem_of_getElem? (i := 1364) (by decide +kernel)⟩
theorem lw_p43 : lw_okq (⟨"StrengthHouseModel", "end", "(I)I"⟩, 38) := ⟨⟨by decide +kernel, by decide +kernel⟩, List.mem_of_getElem? (i := 1179) (by decide +kernel), List.mem_of_getElem? (i := 1367) (by decide +kernel), List.mem_of_getElem? (i := 1368) (by decide +kernel)⟩
theorem lw_p44 : lw_okq (⟨"StrengthHouseModel", "read", "(IIII)V"⟩, 38) := ⟨⟨by decide +kernel, by decide +kernel⟩, List.mem_of_getElem? (i := 1179) (by decide +kernel), List.mem_of_getElem? (i := 1377) (by decide +kernel), List.mem_of_getElem? (i := 1378) (by decide +kernel)⟩
theorem lw_p45 : lw_okq (⟨"StrengthHouseModel", "stretch", "(II)I"⟩, 38) := ⟨⟨by decide +kernel, by decide +kernel⟩, List.mem_of_getElem? (i := 1179) (by decide +kernel), List.mem_of_getElem? (i := 1385) (by decide +kernel), List.mem_of_getElem? (i := 1386) (by decide +kernel)⟩
theorem lw_p46 : lw_okq (⟨"StrengthHouseModel", "become", "(II)I"⟩, 38) := ⟨⟨by decide +kernel, by decide +kernel⟩, List.mem_of_getElem? (i := 1179) (by decide +kernel), List.mem_of_getElem? (i := 1393) (by decide +kernel), List.mem_of_getElem? (i := 1394) (by decide +kernel)⟩
theorem lw_p47 : lw_okq (⟨"StrengthHouseModel", "isProgram", "(I)Z"⟩, 38) := ⟨⟨by decide +kernel, by decide +kernel⟩, List.mem_of_getElem? (i := 1179) (by decide +kernel), List.mem_of_getElem? (i := 1406) (by decide +kernel), List.mem_of_getElem? (i := 1407) (by decide +kernel)⟩
def lw_privs_3 : List (MethodName × Nat) := [(⟨"StrengthHouse$Voices", "say", "(IIII)I"⟩, 8), (⟨"StrengthHouse$Voices", "workOut", "(III)I"⟩, 8), (⟨"StrengthHouse$Voices", "shareOut", "(I)I"⟩, 8), (⟨"StrengthHouse", "firstUnlike", "(ILStrengthHouse$Readings;)I"⟩, 11), (⟨"StrengthHouseModel", "finding", "(I)I"⟩, 38), (⟨"StrengthHouseModel", "is", "(II)Z"⟩, 38), (⟨"StrengthHouseModel", "many", "(I)I"⟩, 38), (⟨"StrengthHouseModel", "of", "(II)I"⟩, 38), (⟨"StrengthHouseModel", "isGood", "(II)Z"⟩, 38), (⟨"StrengthHouseModel", "load", "(II)I"⟩, 38), (⟨"StrengthHouseModel", "answered", "(II)I"⟩, 38), (⟨"StrengthHouseModel", "end", "(I)I"⟩, 38), (⟨"StrengthHouseModel", "read", "(IIII)V"⟩, 38), (⟨"StrengthHouseModel", "stretch", "(II)I"⟩, 38), (⟨"StrengthHouseModel", "become", "(II)I"⟩, 38), (⟨"StrengthHouseModel", "isProgram", "(I)Z"⟩, 38)]
theorem lw_r3 : ∀ q ∈ lw_privs_3, lw_okq q := List.forall_mem_cons.mpr ⟨lw_p32, List.forall_mem_cons.mpr ⟨lw_p33, List.forall_mem_cons.mpr ⟨lw_p34, List.forall_mem_cons.mpr ⟨lw_p35, List.forall_mem_cons.mpr ⟨lw_p36, List.forall_mem_cons.mpr ⟨lw_p37, List.forall_mem_cons.mpr ⟨lw_p38, List.forall_mem_cons.mpr ⟨lw_p39, List.forall_mem_cons.mpr ⟨lw_p40, List.forall_mem_cons.mpr ⟨lw_p41, List.forall_mem_cons.mpr ⟨lw_p42, List.forall_mem_cons.mpr ⟨lw_p43, List.forall_mem_cons.mpr ⟨lw_p44, List.forall_mem_cons.mpr ⟨lw_p45, List.forall_mem_cons.mpr ⟨lw_p46, List.forall_mem_cons.mpr ⟨lw_p47, fun _ h => absurd h List.not_mem_nil⟩⟩⟩⟩⟩⟩⟩⟩⟩⟩⟩⟩⟩⟩⟩⟩
theorem lw_p48 : lw_okq (⟨"StrengthHouseModel", "goOn", "()V"⟩, 38) := ⟨⟨by decide +kernel, by decide +kernel⟩, List.mem_of_getElem? (i := 1179) (by decide +kernel), List.mem_of_getElem? (i := 1410) (by decide +kernel), List.mem_of_getElem? (i := 1411) (by decide +kernel)⟩
theorem lw_p49 : lw_okq (⟨"StrengthHouseModel", "isByte", "(III)Z"⟩, 38) := ⟨⟨by decide +kernel, by decide +kernel⟩, List.mem_of_getElem? (i := 1179) (by decide +kernel), List.mem_of_getElem? (i := 1414) (by decide +kernel), List.mem_of_getElem? (i := 1415) (by decide +kernel)⟩
theorem lw_p50 : lw_okq (⟨"StrengthHouseModel", "part", "()V"⟩, 38) := ⟨⟨by decide +kernel, by decide +kernel⟩, List.mem_of_getElem? (i := 1179) (by decide +kernel), List.mem_of_getElem? (i := 1418) (by decide +kernel), List.mem_of_getElem? (i := 1419) (by decide +kernel)⟩
theorem lw_p51 : lw_okq (⟨"StrengthHouseModel", "takes", "(Ljava/lang/String;)Z"⟩, 38) := ⟨⟨by decide +kernel, by decide +kernel⟩, List.mem_of_getElem? (i := 1179) (by decide +kernel), List.mem_of_getElem? (i := 1422) (by decide +kernel), List.mem_of_getElem? (i := 1423) (by decide +kernel)⟩
theorem lw_p52 : lw_okq (⟨"StrengthHouseModel", "number", "()I"⟩, 38) := ⟨⟨by decide +kernel, by decide +kernel⟩, List.mem_of_getElem? (i := 1179) (by decide +kernel), List.mem_of_getElem? (i := 1428) (by decide +kernel), List.mem_of_getElem? (i := 1429) (by decide +kernel)⟩
theorem lw_p53 : lw_okq (⟨"StrengthHouseModel", "hasProgram", "(I)Z"⟩, 38) := ⟨⟨by decide +kernel, by decide +kernel⟩, List.mem_of_getElem? (i := 1179) (by decide +kernel), List.mem_of_getElem? (i := 1439) (by decide +kernel), List.mem_of_getElem? (i := 1440) (by decide +kernel)⟩
theorem lw_p54 : lw_okq (⟨"StrengthHouseModel", "goThrough", "(II)I"⟩, 38) := ⟨⟨by decide +kernel, by decide +kernel⟩, List.mem_of_getElem? (i := 1179) (by decide +kernel), List.mem_of_getElem? (i := 1443) (by decide +kernel), List.mem_of_getElem? (i := 1444) (by decide +kernel)⟩
theorem lw_p55 : lw_okq (⟨"StrengthHouseModel", "does", "(II)V"⟩, 38) := ⟨⟨by decide +kernel, by decide +kernel⟩, List.mem_of_getElem? (i := 1179) (by decide +kernel), List.mem_of_getElem? (i := 1447) (by decide +kernel), List.mem_of_getElem? (i := 1448) (by decide +kernel)⟩
theorem lw_p56 : lw_okq (⟨"StrengthHouseModel", "goesOn", "()Z"⟩, 38) := ⟨⟨by decide +kernel, by decide +kernel⟩, List.mem_of_getElem? (i := 1179) (by decide +kernel), List.mem_of_getElem? (i := 1451) (by decide +kernel), List.mem_of_getElem? (i := 1452) (by decide +kernel)⟩
theorem lw_p57 : lw_okq (⟨"StrengthHouseModel", "loadNow", "()I"⟩, 38) := ⟨⟨by decide +kernel, by decide +kernel⟩, List.mem_of_getElem? (i := 1179) (by decide +kernel), List.mem_of_getElem? (i := 1455) (by decide +kernel), List.mem_of_getElem? (i := 1456) (by decide +kernel)⟩
theorem lw_p58 : lw_okq (⟨"StrengthHouseModel", "takeReading", "()V"⟩, 38) := ⟨⟨by decide +kernel, by decide +kernel⟩, List.mem_of_getElem? (i := 1179) (by decide +kernel), List.mem_of_getElem? (i := 1459) (by decide +kernel), List.mem_of_getElem? (i := 1460) (by decide +kernel)⟩
theorem lw_p59 : lw_okq (⟨"StrengthHouseModel", "tick", "()V"⟩, 38) := ⟨⟨by decide +kernel, by decide +kernel⟩, List.mem_of_getElem? (i := 1179) (by decide +kernel), List.mem_of_getElem? (i := 1463) (by decide +kernel), List.mem_of_getElem? (i := 1464) (by decide +kernel)⟩
theorem lw_p60 : lw_okq (⟨"StrengthHouseModel", "findLine", "(I)Z"⟩, 38) := ⟨⟨by decide +kernel, by decide +kernel⟩, List.mem_of_getElem? (i := 1179) (by decide +kernel), List.mem_of_getElem? (i := 1475) (by decide +kernel), List.mem_of_getElem? (i := 1476) (by decide +kernel)⟩
theorem lw_p61 : lw_okq (⟨"StrengthHouseModel", "isOn", "(IIII)Z"⟩, 38) := ⟨⟨by decide +kernel, by decide +kernel⟩, List.mem_of_getElem? (i := 1179) (by decide +kernel), List.mem_of_getElem? (i := 1479) (by decide +kernel), List.mem_of_getElem? (i := 1480) (by decide +kernel)⟩
theorem lw_p62 : lw_okq (⟨"StrengthHouseModel", "yieldOf", "(II)I"⟩, 38) := ⟨⟨by decide +kernel, by decide +kernel⟩, List.mem_of_getElem? (i := 1179) (by decide +kernel), List.mem_of_getElem? (i := 1487) (by decide +kernel), List.mem_of_getElem? (i := 1488) (by decide +kernel)⟩
theorem lw_p63 : lw_okq (⟨"StrengthHouseModel", "topOf", "(I)I"⟩, 38) := ⟨⟨by decide +kernel, by decide +kernel⟩, List.mem_of_getElem? (i := 1179) (by decide +kernel), List.mem_of_getElem? (i := 1495) (by decide +kernel), List.mem_of_getElem? (i := 1496) (by decide +kernel)⟩
def lw_privs_4 : List (MethodName × Nat) := [(⟨"StrengthHouseModel", "goOn", "()V"⟩, 38), (⟨"StrengthHouseModel", "isByte", "(III)Z"⟩, 38), (⟨"StrengthHouseModel", "part", "()V"⟩, 38), (⟨"StrengthHouseModel", "takes", "(Ljava/lang/String;)Z"⟩, 38), (⟨"StrengthHouseModel", "number", "()I"⟩, 38), (⟨"StrengthHouseModel", "hasProgram", "(I)Z"⟩, 38), (⟨"StrengthHouseModel", "goThrough", "(II)I"⟩, 38), (⟨"StrengthHouseModel", "does", "(II)V"⟩, 38), (⟨"StrengthHouseModel", "goesOn", "()Z"⟩, 38), (⟨"StrengthHouseModel", "loadNow", "()I"⟩, 38), (⟨"StrengthHouseModel", "takeReading", "()V"⟩, 38), (⟨"StrengthHouseModel", "tick", "()V"⟩, 38), (⟨"StrengthHouseModel", "findLine", "(I)Z"⟩, 38), (⟨"StrengthHouseModel", "isOn", "(IIII)Z"⟩, 38), (⟨"StrengthHouseModel", "yieldOf", "(II)I"⟩, 38), (⟨"StrengthHouseModel", "topOf", "(I)I"⟩, 38)]
theorem lw_r4 : ∀ q ∈ lw_privs_4, lw_okq q := List.forall_mem_cons.mpr ⟨lw_p48, List.forall_mem_cons.mpr ⟨lw_p49, List.forall_mem_cons.mpr ⟨lw_p50, List.forall_mem_cons.mpr ⟨lw_p51, List.forall_mem_cons.mpr ⟨lw_p52, List.forall_mem_cons.mpr ⟨lw_p53, List.forall_mem_cons.mpr ⟨lw_p54, List.forall_mem_cons.mpr ⟨lw_p55, List.forall_mem_cons.mpr ⟨lw_p56, List.forall_mem_cons.mpr ⟨lw_p57, List.forall_mem_cons.mpr ⟨lw_p58, List.forall_mem_cons.mpr ⟨lw_p59, List.forall_mem_cons.mpr ⟨lw_p60, List.forall_mem_cons.mpr ⟨lw_p61, List.forall_mem_cons.mpr ⟨lw_p62, List.forall_mem_cons.mpr ⟨lw_p63, fun _ h => absurd h List.not_mem_nil⟩⟩⟩⟩⟩⟩⟩⟩⟩⟩⟩⟩⟩⟩⟩⟩
theorem lw_p64 : lw_okq (⟨"StrengthHouseModel", "breakOf", "(II)I"⟩, 38) := ⟨⟨by decide +kernel, by decide +kernel⟩, List.mem_of_getElem? (i := 1179) (by decide +kernel), List.mem_of_getElem? (i := 1503) (by decide +kernel), List.mem_of_getElem? (i := 1504) (by decide +kernel)⟩
theorem lw_p65 : lw_okq (⟨"StrengthHouseModel", "spentOf", "(II)J"⟩, 38) := ⟨⟨by decide +kernel, by decide +kernel⟩, List.mem_of_getElem? (i := 1179) (by decide +kernel), List.mem_of_getElem? (i := 1512) (by decide +kernel), List.mem_of_getElem? (i := 1513) (by decide +kernel)⟩
theorem lw_p66 : lw_okq (⟨"StrengthHouseModel", "numberOf", "(II)I"⟩, 38) := ⟨⟨by decide +kernel, by decide +kernel⟩, List.mem_of_getElem? (i := 1179) (by decide +kernel), List.mem_of_getElem? (i := 1523) (by decide +kernel), List.mem_of_getElem? (i := 1524) (by decide +kernel)⟩
theorem lw_p67 : lw_okq (⟨"StrengthHouseModel", "curveOf", "(II)I"⟩, 38) := ⟨⟨by decide +kernel, by decide +kernel⟩, List.mem_of_getElem? (i := 1179) (by decide +kernel), List.mem_of_getElem? (i := 1536) (by decide +kernel), List.mem_of_getElem? (i := 1537) (by decide +kernel)⟩
theorem lw_p68 : lw_okq (⟨"StrengthHouseModel", "adds", "(II)V"⟩, 38) := ⟨⟨by decide +kernel, by decide +kernel⟩, List.mem_of_getElem? (i := 1179) (by decide +kernel), List.mem_of_getElem? (i := 1540) (by decide +kernel), List.mem_of_getElem? (i := 1541) (by decide +kernel)⟩
theorem lw_p69 : lw_okq (⟨"StrengthHouseModel", "findNumbers", "(II)V"⟩, 38) := ⟨⟨by decide +kernel, by decide +kernel⟩, List.mem_of_getElem? (i := 1179) (by decide +kernel), List.mem_of_getElem? (i := 1548) (by decide +kernel), List.mem_of_getElem? (i := 1549) (by decide +kernel)⟩
theorem lw_p70 : lw_okq (⟨"StrengthHouseModel", "meter", "(II)I"⟩, 38) := ⟨⟨by decide +kernel, by decide +kernel⟩, List.mem_of_getElem? (i := 1179) (by decide +kernel), List.mem_of_getElem? (i := 1578) (by decide +kernel), List.mem_of_getElem? (i := 1579) (by decide +kernel)⟩
theorem lw_p71 : lw_okq (⟨"StrengthHouseModel", "ledOf", "(II)I"⟩, 38) := ⟨⟨by decide +kernel, by decide +kernel⟩, List.mem_of_getElem? (i := 1179) (by decide +kernel), List.mem_of_getElem? (i := 1582) (by decide +kernel), List.mem_of_getElem? (i := 1583) (by decide +kernel)⟩
theorem lw_p72 : lw_okq (⟨"StrengthHouseModel", "entry", "(II)I"⟩, 38) := ⟨⟨by decide +kernel, by decide +kernel⟩, List.mem_of_getElem? (i := 1179) (by decide +kernel), List.mem_of_getElem? (i := 1594) (by decide +kernel), List.mem_of_getElem? (i := 1595) (by decide +kernel)⟩
theorem lw_p73 : lw_okq (⟨"StrengthHouseModel", "voiced", "(II)I"⟩, 38) := ⟨⟨by decide +kernel, by decide +kernel⟩, List.mem_of_getElem? (i := 1179) (by decide +kernel), List.mem_of_getElem? (i := 1629) (by decide +kernel), List.mem_of_getElem? (i := 1630) (by decide +kernel)⟩
theorem lw_p74 : lw_okq (⟨"StrengthHouseModel", "bodyFrom", "(III)I"⟩, 38) := ⟨⟨by decide +kernel, by decide +kernel⟩, List.mem_of_getElem? (i := 1179) (by decide +kernel), List.mem_of_getElem? (i := 1633) (by decide +kernel), List.mem_of_getElem? (i := 1634) (by decide +kernel)⟩
theorem lw_p75 : lw_okq (⟨"StrengthHouseModel", "body", "(III)I"⟩, 38) := ⟨⟨by decide +kernel, by decide +kernel⟩, List.mem_of_getElem? (i := 1179) (by decide +kernel), List.mem_of_getElem? (i := 1640) (by decide +kernel), List.mem_of_getElem? (i := 1641) (by decide +kernel)⟩
theorem lw_p76 : lw_okq (⟨"StrengthHouseModel", "began", "(I)V"⟩, 38) := ⟨⟨by decide +kernel, by decide +kernel⟩, List.mem_of_getElem? (i := 1179) (by decide +kernel), List.mem_of_getElem? (i := 1644) (by decide +kernel), List.mem_of_getElem? (i := 1645) (by decide +kernel)⟩
def lw_privs_5 : List (MethodName × Nat) := [(⟨"StrengthHouseModel", "breakOf", "(II)I"⟩, 38), (⟨"StrengthHouseModel", "spentOf", "(II)J"⟩, 38), (⟨"StrengthHouseModel", "numberOf", "(II)I"⟩, 38), (⟨"StrengthHouseModel", "curveOf", "(II)I"⟩, 38), (⟨"StrengthHouseModel", "adds", "(II)V"⟩, 38), (⟨"StrengthHouseModel", "findNumbers", "(II)V"⟩, 38), (⟨"StrengthHouseModel", "meter", "(II)I"⟩, 38), (⟨"StrengthHouseModel", "ledOf", "(II)I"⟩, 38), (⟨"StrengthHouseModel", "entry", "(II)I"⟩, 38), (⟨"StrengthHouseModel", "voiced", "(II)I"⟩, 38), (⟨"StrengthHouseModel", "bodyFrom", "(III)I"⟩, 38), (⟨"StrengthHouseModel", "body", "(III)I"⟩, 38), (⟨"StrengthHouseModel", "began", "(I)V"⟩, 38)]
theorem lw_r5 : ∀ q ∈ lw_privs_5, lw_okq q := List.forall_mem_cons.mpr ⟨lw_p64, List.forall_mem_cons.mpr ⟨lw_p65, List.forall_mem_cons.mpr ⟨lw_p66, List.forall_mem_cons.mpr ⟨lw_p67, List.forall_mem_cons.mpr ⟨lw_p68, List.forall_mem_cons.mpr ⟨lw_p69, List.forall_mem_cons.mpr ⟨lw_p70, List.forall_mem_cons.mpr ⟨lw_p71, List.forall_mem_cons.mpr ⟨lw_p72, List.forall_mem_cons.mpr ⟨lw_p73, List.forall_mem_cons.mpr ⟨lw_p74, List.forall_mem_cons.mpr ⟨lw_p75, List.forall_mem_cons.mpr ⟨lw_p76, fun _ h => absurd h List.not_mem_nil⟩⟩⟩⟩⟩⟩⟩⟩⟩⟩⟩⟩⟩
def lw_privs : List (MethodName × Nat) := lw_privs_1 ++ (lw_privs_2 ++ (lw_privs_3 ++ (lw_privs_4 ++ (lw_privs_5))))
def lw_tbl : List Cond := k2_sels lw_privs ++ tables_1
theorem lw_privs_ok : ∀ q ∈ lw_privs, lw_okq q := by
  show ∀ q ∈ lw_privs_1 ++ (lw_privs_2 ++ (lw_privs_3 ++ (lw_privs_4 ++ (lw_privs_5)))), lw_okq q
  exact List.forall_mem_append.mpr ⟨lw_r1, List.forall_mem_append.mpr ⟨lw_r2, List.forall_mem_append.mpr ⟨lw_r3, List.forall_mem_append.mpr ⟨lw_r4, lw_r5⟩⟩⟩⟩
end
section
/-! names of the classes, their fields and methods (printed by the claim's own generator, of it the rows that are used here) -/
def RX0 : String := "StrengthHouse$Book"
def TX0 : u_T := fun k => match k with
  | 0 => ("StrengthHouse$Book", "lots", "[I", true)
  | 1 => ("StrengthHouse$Book", "laws", "[I", true)
  | 2 => ("StrengthHouse$Book", "meters", "[I", true)
  | 3 => ("StrengthHouse$Book", "greatest", "[I", true)
  | 4 => ("StrengthHouse$Book", "pieceBits", "[I", true)
  | 5 => ("StrengthHouse$Book", "takenBackBy", "[I", true)
  | _ => ("StrengthHouse$Book", "size", "I", false)
def tyX0 : Nat → FieldType := fun k => match k with
  | 0 => .array .int
  | 1 => .array .int
  | 2 => .array .int
  | 3 => .array .int
  | 4 => .array .int
  | 5 => .array .int
  | _ => .int
theorem nmX0 : ∀ a, a < 7 → ∀ b, b < 7 → a ≠ b → (TX0 a).2.1 ≠ (TX0 b).2.1 := by decide +kernel
theorem tyX0_ok : ∀ k, k < 7 → parseFieldDescriptor (TX0 k).2.2.1 = some (tyX0 k) := by decide +kernel
abbrev cX0_init : ByteArray := prog_2_method_1_code
def yX0_init : MethodName := ⟨RX0, "<init>", "()V"⟩
abbrev cX0_has : ByteArray := prog_2_method_2_code
def yX0_has : MethodName := ⟨RX0, "has", "(I)Z"⟩
abbrev cX0_add : ByteArray := prog_2_method_3_code
def yX0_add : MethodName := ⟨RX0, "add", "(IIILStrengthHouse$Order;)I"⟩
abbrev cX0_canTakeBack : ByteArray := prog_2_method_4_code
def yX0_canTakeBack : MethodName := ⟨RX0, "canTakeBack", "(II)Z"⟩
abbrev cX0_takeBack : ByteArray := prog_2_method_5_code
def yX0_takeBack : MethodName := ⟨RX0, "takeBack", "(II)V"⟩
abbrev cX0_takenBack : ByteArray := prog_2_method_6_code
def yX0_takenBack : MethodName := ⟨RX0, "takenBack", "()I"⟩
abbrev cX0_latest : ByteArray := prog_2_method_7_code
def yX0_latest : MethodName := ⟨RX0, "latest", "(II)I"⟩
abbrev cX0_hanging : ByteArray := prog_2_method_8_code
def yX0_hanging : MethodName := ⟨RX0, "hanging", "(ILStrengthHouse$Meters;)I"⟩
abbrev cX0_copyFrom : ByteArray := prog_2_method_9_code
def yX0_copyFrom : MethodName := ⟨RX0, "copyFrom", "(LStrengthHouse$Book;)V"⟩
def RX1 : String := "StrengthHouse$Machine"
def TX1 : u_T := fun k => match k with
  | 0 => ("StrengthHouse$Machine", "loads", "[I", true)
  | 1 => ("StrengthHouse$Machine", "taken", "LStrengthHouse$Readings;", true)
  | 2 => ("StrengthHouse$Machine", "piece", "LStrengthHouse$Piece;", false)
  | 3 => ("StrengthHouse$Machine", "loadLimit", "I", false)
  | 4 => ("StrengthHouse$Machine", "longLimit", "I", false)
  | 5 => ("StrengthHouse$Machine", "meterTop", "I", false)
  | 6 => ("StrengthHouse$Machine", "noneEach", "I", false)
  | 7 => ("StrengthHouse$Machine", "delay", "I", false)
  | 8 => ("StrengthHouse$Machine", "stretch", "I", false)
  | 9 => ("StrengthHouse$Machine", "holds", "I", false)
  | 10 => ("StrengthHouse$Machine", "ticks", "I", false)
  | 11 => ("StrengthHouse$Machine", "why", "I", false)
  | 12 => ("StrengthHouse$Machine", "endedAt", "I", false)
  | 13 => ("StrengthHouse$Machine", "broken", "Z", false)
  | _ => ("StrengthHouse$Machine", "inLast", "Z", false)
def tyX1 : Nat → FieldType := fun k => match k with
  | 0 => .array .int
  | 1 => .object "StrengthHouse$Readings"
  | 2 => .object "StrengthHouse$Piece"
  | 3 => .int
  | 4 => .int
  | 5 => .int
  | 6 => .int
  | 7 => .int
  | 8 => .int
  | 9 => .int
  | 10 => .int
  | 11 => .int
  | 12 => .int
  | 13 => .boolean
  | _ => .boolean
theorem nmX1 : ∀ a, a < 15 → ∀ b, b < 15 → a ≠ b → (TX1 a).2.1 ≠ (TX1 b).2.1 := by decide +kernel
theorem tyX1_ok : ∀ k, k < 15 → parseFieldDescriptor (TX1 k).2.2.1 = some (tyX1 k) := by decide +kernel
abbrev cX1_init : ByteArray := prog_3_method_1_code
def yX1_init : MethodName := ⟨RX1, "<init>", "()V"⟩
abbrev cX1_perform : ByteArray := prog_3_method_2_code
def yX1_perform : MethodName := ⟨RX1, "perform", "(LStrengthHouse$Program;LStrengthHouse$Piece;LStrengthHouse$State;)V"⟩
abbrev cX1_begin : ByteArray := prog_3_method_3_code
def yX1_begin : MethodName := ⟨RX1, "begin", "(LStrengthHouse$Piece;LStrengthHouse$State;)V"⟩
abbrev cX1_doPart : ByteArray := prog_3_method_4_code
def yX1_doPart : MethodName := ⟨RX1, "doPart", "(II)V"⟩
abbrev cX1_timesAtMost : ByteArray := prog_3_method_5_code
def yX1_timesAtMost : MethodName := ⟨RX1, "timesAtMost", "(II)I"⟩
abbrev cX1_isWanted : ByteArray := prog_3_method_6_code
def yX1_isWanted : MethodName := ⟨RX1, "isWanted", "(II)Z"⟩
abbrev cX1_doOnce : ByteArray := prog_3_method_7_code
def yX1_doOnce : MethodName := ⟨RX1, "doOnce", "(I)V"⟩
abbrev cX1_moreStretch : ByteArray := prog_3_method_8_code
def yX1_moreStretch : MethodName := ⟨RX1, "moreStretch", "(I)I"⟩
abbrev cX1_creeps : ByteArray := prog_3_method_9_code
def yX1_creeps : MethodName := ⟨RX1, "creeps", "()Z"⟩
abbrev cX1_load : ByteArray := prog_3_method_10_code
def yX1_load : MethodName := ⟨RX1, "load", "()I"⟩
abbrev cX1_take : ByteArray := prog_3_method_11_code
def yX1_take : MethodName := ⟨RX1, "take", "()V"⟩
abbrev cX1_askLimits : ByteArray := prog_3_method_12_code
def yX1_askLimits : MethodName := ⟨RX1, "askLimits", "(I)V"⟩
def RX2 : String := "StrengthHouse$Meters"
def TX2 : u_T := fun k => match k with
  | 0 => ("StrengthHouse$Meters", "others", "[I", true)
  | 1 => ("StrengthHouse$Meters", "ups", "[I", true)
  | 2 => ("StrengthHouse$Meters", "downs", "[I", true)
  | _ => ("StrengthHouse$Meters", "doubts", "[I", true)
def tyX2 : Nat → FieldType := fun k => match k with
  | 0 => .array .int
  | 1 => .array .int
  | 2 => .array .int
  | _ => .array .int
theorem nmX2 : ∀ a, a < 4 → ∀ b, b < 4 → a ≠ b → (TX2 a).2.1 ≠ (TX2 b).2.1 := by decide +kernel
theorem tyX2_ok : ∀ k, k < 4 → parseFieldDescriptor (TX2 k).2.2.1 = some (tyX2 k) := by decide +kernel
abbrev cX2_init : ByteArray := prog_4_method_1_code
def yX2_init : MethodName := ⟨RX2, "<init>", "()V"⟩
abbrev cX2_set : ByteArray := prog_4_method_2_code
def yX2_set : MethodName := ⟨RX2, "set", "(IIIII)V"⟩
abbrev cX2_otherOf : ByteArray := prog_4_method_3_code
def yX2_otherOf : MethodName := ⟨RX2, "otherOf", "(I)I"⟩
abbrev cX2_ledToHouse : ByteArray := prog_4_method_4_code
def yX2_ledToHouse : MethodName := ⟨RX2, "ledToHouse", "(II)I"⟩
abbrev cX2_ledOnce : ByteArray := prog_4_method_5_code
def yX2_ledOnce : MethodName := ⟨RX2, "ledOnce", "(IJ)J"⟩
abbrev cX2_doubtOf : ByteArray := prog_4_method_6_code
def yX2_doubtOf : MethodName := ⟨RX2, "doubtOf", "(I)I"⟩
abbrev cX2_goesOver : ByteArray := prog_4_method_7_code
def yX2_goesOver : MethodName := ⟨RX2, "goesOver", "(II)Z"⟩
abbrev cX2_copyFrom : ByteArray := prog_4_method_8_code
def yX2_copyFrom : MethodName := ⟨RX2, "copyFrom", "(LStrengthHouse$Meters;)V"⟩
def RX3 : String := "StrengthHouse$Order"
def TX3 : u_T := fun k => match k with
  | 0 => ("StrengthHouse$Order", "values", "[I", true)
  | 1 => ("StrengthHouse$Order", "pieces", "[I", true)
  | _ => ("StrengthHouse$Order", "size", "I", false)
def tyX3 : Nat → FieldType := fun k => match k with
  | 0 => .array .int
  | 1 => .array .int
  | _ => .int
theorem nmX3 : ∀ a, a < 3 → ∀ b, b < 3 → a ≠ b → (TX3 a).2.1 ≠ (TX3 b).2.1 := by decide +kernel
theorem tyX3_ok : ∀ k, k < 3 → parseFieldDescriptor (TX3 k).2.2.1 = some (tyX3 k) := by decide +kernel
abbrev cX3_init : ByteArray := prog_5_method_1_code
def yX3_init : MethodName := ⟨RX3, "<init>", "()V"⟩
abbrev cX3_clear : ByteArray := prog_5_method_2_code
def yX3_clear : MethodName := ⟨RX3, "clear", "()V"⟩
abbrev cX3_insert : ByteArray := prog_5_method_3_code
def yX3_insert : MethodName := ⟨RX3, "insert", "(II)V"⟩
abbrev cX3_valueAt : ByteArray := prog_5_method_4_code
def yX3_valueAt : MethodName := ⟨RX3, "valueAt", "(I)I"⟩
abbrev cX3_pieceBits : ByteArray := prog_5_method_5_code
def yX3_pieceBits : MethodName := ⟨RX3, "pieceBits", "()I"⟩
abbrev cX3_oddPiece : ByteArray := prog_5_method_6_code
def yX3_oddPiece : MethodName := ⟨RX3, "oddPiece", "(I)I"⟩
abbrev cX3_isApart : ByteArray := prog_5_method_7_code
def yX3_isApart : MethodName := ⟨RX3, "isApart", "(III)Z"⟩
abbrev cX3_surePlace : ByteArray := prog_5_method_8_code
def yX3_surePlace : MethodName := ⟨RX3, "surePlace", "(III)I"⟩
abbrev cX3_power : ByteArray := prog_5_method_9_code
def yX3_power : MethodName := ⟨RX3, "power", "(II)J"⟩
def RX4 : String := "StrengthHouse$Piece"
def TX4 : u_T := fun k => match k with
  | 0 => ("StrengthHouse$Piece", "kind", "I", false)
  | 1 => ("StrengthHouse$Piece", "lot", "I", false)
  | 2 => ("StrengthHouse$Piece", "size", "I", false)
  | 3 => ("StrengthHouse$Piece", "answers", "[I", true)
  | 4 => ("StrengthHouse$Piece", "answerCount", "I", false)
  | _ => ("StrengthHouse$Piece", "readings", "LStrengthHouse$Readings;", true)
def tyX4 : Nat → FieldType := fun k => match k with
  | 0 => .int
  | 1 => .int
  | 2 => .int
  | 3 => .array .int
  | 4 => .int
  | _ => .object "StrengthHouse$Readings"
theorem nmX4 : ∀ a, a < 6 → ∀ b, b < 6 → a ≠ b → (TX4 a).2.1 ≠ (TX4 b).2.1 := by decide +kernel
theorem tyX4_ok : ∀ k, k < 6 → parseFieldDescriptor (TX4 k).2.2.1 = some (tyX4 k) := by decide +kernel
abbrev cX4_init : ByteArray := prog_6_method_1_code
def yX4_init : MethodName := ⟨RX4, "<init>", "()V"⟩
abbrev cX4_become : ByteArray := prog_6_method_2_code
def yX4_become : MethodName := ⟨RX4, "become", "(III)V"⟩
abbrev cX4_addAnswer : ByteArray := prog_6_method_3_code
def yX4_addAnswer : MethodName := ⟨RX4, "addAnswer", "(I)V"⟩
abbrev cX4_above : ByteArray := prog_6_method_4_code
def yX4_above : MethodName := ⟨RX4, "above", "(I)I"⟩
abbrev cX4_isOf : ByteArray := prog_6_method_5_code
def yX4_isOf : MethodName := ⟨RX4, "isOf", "(I)Z"⟩
abbrev cX4_lastStretch : ByteArray := prog_6_method_6_code
def yX4_lastStretch : MethodName := ⟨RX4, "lastStretch", "()I"⟩
abbrev cX4_loadAt : ByteArray := prog_6_method_7_code
def yX4_loadAt : MethodName := ⟨RX4, "loadAt", "(I)I"⟩
abbrev cX4_answerAt : ByteArray := prog_6_method_8_code
def yX4_answerAt : MethodName := ⟨RX4, "answerAt", "(I)I"⟩
abbrev cX4_copyFrom : ByteArray := prog_6_method_9_code
def yX4_copyFrom : MethodName := ⟨RX4, "copyFrom", "(LStrengthHouse$Piece;)V"⟩
def RX5 : String := "StrengthHouse$Program"
def TX5 : u_T := fun k => match k with
  | 0 => ("StrengthHouse$Program", "there", "Z", false)
  | 1 => ("StrengthHouse$Program", "acts", "[I", true)
  | 2 => ("StrengthHouse$Program", "amounts", "[I", true)
  | 3 => ("StrengthHouse$Program", "firsts", "I", false)
  | _ => ("StrengthHouse$Program", "count", "I", false)
def tyX5 : Nat → FieldType := fun k => match k with
  | 0 => .boolean
  | 1 => .array .int
  | 2 => .array .int
  | 3 => .int
  | _ => .int
theorem nmX5 : ∀ a, a < 5 → ∀ b, b < 5 → a ≠ b → (TX5 a).2.1 ≠ (TX5 b).2.1 := by decide +kernel
theorem tyX5_ok : ∀ k, k < 5 → parseFieldDescriptor (TX5 k).2.2.1 = some (tyX5 k) := by decide +kernel
abbrev cX5_init : ByteArray := prog_7_method_1_code
def yX5_init : MethodName := ⟨RX5, "<init>", "()V"⟩
abbrev cX5_clear : ByteArray := prog_7_method_2_code
def yX5_clear : MethodName := ⟨RX5, "clear", "()V"⟩
abbrev cX5_add : ByteArray := prog_7_method_3_code
def yX5_add : MethodName := ⟨RX5, "add", "(IIZ)V"⟩
abbrev cX5_actAt : ByteArray := prog_7_method_4_code
def yX5_actAt : MethodName := ⟨RX5, "actAt", "(I)I"⟩
abbrev cX5_amountAt : ByteArray := prog_7_method_5_code
def yX5_amountAt : MethodName := ⟨RX5, "amountAt", "(I)I"⟩
abbrev cX5_copyFrom : ByteArray := prog_7_method_6_code
def yX5_copyFrom : MethodName := ⟨RX5, "copyFrom", "(LStrengthHouse$Program;)V"⟩
def RX6 : String := "StrengthHouse$Readings"
def TX6 : u_T := fun k => match k with
  | 0 => ("StrengthHouse$Readings", "stretches", "[I", true)
  | 1 => ("StrengthHouse$Readings", "loads", "[I", true)
  | 2 => ("StrengthHouse$Readings", "size", "I", false)
  | 3 => ("StrengthHouse$Readings", "lineFirst", "I", false)
  | 4 => ("StrengthHouse$Readings", "lineSecond", "I", false)
  | _ => ("StrengthHouse$Readings", "lineCount", "I", false)
def tyX6 : Nat → FieldType := fun k => match k with
  | 0 => .array .int
  | 1 => .array .int
  | 2 => .int
  | 3 => .int
  | 4 => .int
  | _ => .int
theorem nmX6 : ∀ a, a < 6 → ∀ b, b < 6 → a ≠ b → (TX6 a).2.1 ≠ (TX6 b).2.1 := by decide +kernel
theorem tyX6_ok : ∀ k, k < 6 → parseFieldDescriptor (TX6 k).2.2.1 = some (tyX6 k) := by decide +kernel
abbrev cX6_init : ByteArray := prog_8_method_1_code
def yX6_init : MethodName := ⟨RX6, "<init>", "()V"⟩
abbrev cX6_clear : ByteArray := prog_8_method_2_code
def yX6_clear : MethodName := ⟨RX6, "clear", "()V"⟩
abbrev cX6_add : ByteArray := prog_8_method_3_code
def yX6_add : MethodName := ⟨RX6, "add", "(II)V"⟩
abbrev cX6_stretchAt : ByteArray := prog_8_method_4_code
def yX6_stretchAt : MethodName := ⟨RX6, "stretchAt", "(I)I"⟩
abbrev cX6_loadAt : ByteArray := prog_8_method_5_code
def yX6_loadAt : MethodName := ⟨RX6, "loadAt", "(I)I"⟩
abbrev cX6_flatAt : ByteArray := prog_8_method_6_code
def yX6_flatAt : MethodName := ⟨RX6, "flatAt", "(I)I"⟩
abbrev cX6_isGood : ByteArray := prog_8_method_7_code
def yX6_isGood : MethodName := ⟨RX6, "isGood", "(I)Z"⟩
abbrev cX6_goodOnes : ByteArray := prog_8_method_8_code
def yX6_goodOnes : MethodName := ⟨RX6, "goodOnes", "()I"⟩
abbrev cX6_findLine : ByteArray := prog_8_method_9_code
def yX6_findLine : MethodName := ⟨RX6, "findLine", "()Z"⟩
abbrev cX6_tryLine : ByteArray := prog_8_method_10_code
def yX6_tryLine : MethodName := ⟨RX6, "tryLine", "(II)V"⟩
abbrev cX6_belowLine : ByteArray := prog_8_method_11_code
def yX6_belowLine : MethodName := ⟨RX6, "belowLine", "(IIII)J"⟩
abbrev cX6_yieldAt : ByteArray := prog_8_method_12_code
def yX6_yieldAt : MethodName := ⟨RX6, "yieldAt", "(I)I"⟩
abbrev cX6_topAt : ByteArray := prog_8_method_13_code
def yX6_topAt : MethodName := ⟨RX6, "topAt", "()I"⟩
abbrev cX6_breakAt : ByteArray := prog_8_method_14_code
def yX6_breakAt : MethodName := ⟨RX6, "breakAt", "(I)I"⟩
abbrev cX6_spentUpTo : ByteArray := prog_8_method_15_code
def yX6_spentUpTo : MethodName := ⟨RX6, "spentUpTo", "(I)J"⟩
abbrev cX6_spentBetween : ByteArray := prog_8_method_16_code
def yX6_spentBetween : MethodName := ⟨RX6, "spentBetween", "(II)J"⟩
abbrev cX6_numberBy : ByteArray := prog_8_method_17_code
def yX6_numberBy : MethodName := ⟨RX6, "numberBy", "(I)I"⟩
abbrev cX6_stretchOr : ByteArray := prog_8_method_18_code
def yX6_stretchOr : MethodName := ⟨RX6, "stretchOr", "(I)I"⟩
abbrev cX6_curveAt : ByteArray := prog_8_method_19_code
def yX6_curveAt : MethodName := ⟨RX6, "curveAt", "(I)I"⟩
abbrev cX6_copyFrom : ByteArray := prog_8_method_20_code
def yX6_copyFrom : MethodName := ⟨RX6, "copyFrom", "(LStrengthHouse$Readings;)V"⟩
def RX7 : String := "StrengthHouse$Sheet"
def TX7 : u_T := fun k => match k with
  | 0 => ("StrengthHouse$Sheet", "bits", "I", false)
  | 1 => ("StrengthHouse$Sheet", "length", "I", false)
  | _ => ("StrengthHouse$Sheet", "numbers", "[I", true)
def tyX7 : Nat → FieldType := fun k => match k with
  | 0 => .int
  | 1 => .int
  | _ => .array .int
theorem nmX7 : ∀ a, a < 3 → ∀ b, b < 3 → a ≠ b → (TX7 a).2.1 ≠ (TX7 b).2.1 := by decide +kernel
theorem tyX7_ok : ∀ k, k < 3 → parseFieldDescriptor (TX7 k).2.2.1 = some (tyX7 k) := by decide +kernel
abbrev cX7_init : ByteArray := prog_9_method_1_code
def yX7_init : MethodName := ⟨RX7, "<init>", "()V"⟩
abbrev cX7_become : ByteArray := prog_9_method_2_code
def yX7_become : MethodName := ⟨RX7, "become", "(II)V"⟩
abbrev cX7_isMissing : ByteArray := prog_9_method_3_code
def yX7_isMissing : MethodName := ⟨RX7, "isMissing", "()Z"⟩
abbrev cX7_spans : ByteArray := prog_9_method_4_code
def yX7_spans : MethodName := ⟨RX7, "spans", "(II)Z"⟩
abbrev cX7_numberAt : ByteArray := prog_9_method_5_code
def yX7_numberAt : MethodName := ⟨RX7, "numberAt", "(I)I"⟩
abbrev cX7_set : ByteArray := prog_9_method_6_code
def yX7_set : MethodName := ⟨RX7, "set", "(II)V"⟩
abbrev cX7_begins : ByteArray := prog_9_method_7_code
def yX7_begins : MethodName := ⟨RX7, "begins", "(III)Z"⟩
abbrev cX7_beginsWithReadings : ByteArray := prog_9_method_8_code
def yX7_beginsWithReadings : MethodName := ⟨RX7, "beginsWithReadings", "(I)Z"⟩
def RX8 : String := "StrengthHouse$State"
def TX8 : u_T := fun k => match k with
  | 0 => ("StrengthHouse$State", "pieces", "[LStrengthHouse$Piece;", true)
  | 1 => ("StrengthHouse$State", "pieceCount", "I", false)
  | 2 => ("StrengthHouse$State", "programs", "[LStrengthHouse$Program;", true)
  | 3 => ("StrengthHouse$State", "limits", "[I", true)
  | 4 => ("StrengthHouse$State", "tape", "[B", true)
  | 5 => ("StrengthHouse$State", "tapeLength", "I", false)
  | 6 => ("StrengthHouse$State", "latestRun", "[I", true)
  | 7 => ("StrengthHouse$State", "hasRun", "Z", false)
  | 8 => ("StrengthHouse$State", "meters", "LStrengthHouse$Meters;", true)
  | 9 => ("StrengthHouse$State", "book", "LStrengthHouse$Book;", true)
  | 10 => ("StrengthHouse$State", "waiting", "[I", true)
  | _ => ("StrengthHouse$State", "waitingCount", "I", false)
def tyX8 : Nat → FieldType := fun k => match k with
  | 0 => .array (.object "StrengthHouse$Piece")
  | 1 => .int
  | 2 => .array (.object "StrengthHouse$Program")
  | 3 => .array .int
  | 4 => .array .byte
  | 5 => .int
  | 6 => .array .int
  | 7 => .boolean
  | 8 => .object "StrengthHouse$Meters"
  | 9 => .object "StrengthHouse$Book"
  | 10 => .array .int
  | _ => .int
theorem nmX8 : ∀ a, a < 12 → ∀ b, b < 12 → a ≠ b → (TX8 a).2.1 ≠ (TX8 b).2.1 := by decide +kernel
theorem tyX8_ok : ∀ k, k < 12 → parseFieldDescriptor (TX8 k).2.2.1 = some (tyX8 k) := by decide +kernel
abbrev cX8_init : ByteArray := prog_10_method_1_code
def yX8_init : MethodName := ⟨RX8, "<init>", "()V"⟩
abbrev cX8_pieces : ByteArray := prog_10_method_2_code
def yX8_pieces : MethodName := ⟨RX8, "pieces", "()I"⟩
abbrev cX8_pieceAt : ByteArray := prog_10_method_3_code
def yX8_pieceAt : MethodName := ⟨RX8, "pieceAt", "(I)LStrengthHouse$Piece;"⟩
abbrev cX8_addPiece : ByteArray := prog_10_method_4_code
def yX8_addPiece : MethodName := ⟨RX8, "addPiece", "()LStrengthHouse$Piece;"⟩
abbrev cX8_programAt : ByteArray := prog_10_method_5_code
def yX8_programAt : MethodName := ⟨RX8, "programAt", "(I)LStrengthHouse$Program;"⟩
abbrev cX8_programsThere : ByteArray := prog_10_method_6_code
def yX8_programsThere : MethodName := ⟨RX8, "programsThere", "()I"⟩
abbrev cX8_readingsOfAll : ByteArray := prog_10_method_7_code
def yX8_readingsOfAll : MethodName := ⟨RX8, "readingsOfAll", "()I"⟩
abbrev cX8_isLimit : ByteArray := prog_10_method_8_code
def yX8_isLimit : MethodName := ⟨RX8, "isLimit", "(II)Z"⟩
abbrev cX8_limitAt : ByteArray := prog_10_method_9_code
def yX8_limitAt : MethodName := ⟨RX8, "limitAt", "(I)I"⟩
abbrev cX8_setLimit : ByteArray := prog_10_method_10_code
def yX8_setLimit : MethodName := ⟨RX8, "setLimit", "(II)V"⟩
abbrev cX8_addByte : ByteArray := prog_10_method_11_code
def yX8_addByte : MethodName := ⟨RX8, "addByte", "(B)V"⟩
abbrev cX8_keepRun : ByteArray := prog_10_method_12_code
def yX8_keepRun : MethodName := ⟨RX8, "keepRun", "(LStrengthHouse$Machine;)V"⟩
abbrev cX8_ranAt : ByteArray := prog_10_method_13_code
def yX8_ranAt : MethodName := ⟨RX8, "ranAt", "(I)I"⟩
abbrev cX8_addWaiting : ByteArray := prog_10_method_14_code
def yX8_addWaiting : MethodName := ⟨RX8, "addWaiting", "(I)Z"⟩
abbrev cX8_waitingAt : ByteArray := prog_10_method_15_code
def yX8_waitingAt : MethodName := ⟨RX8, "waitingAt", "(I)I"⟩
abbrev cX8_copyFrom : ByteArray := prog_10_method_16_code
def yX8_copyFrom : MethodName := ⟨RX8, "copyFrom", "(LStrengthHouse$State;)V"⟩
def RX9 : String := "StrengthHouse$TextReader"
def TX9 : u_T := fun k => match k with
  | 0 => ("StrengthHouse$TextReader", "text", "[B", false)
  | 1 => ("StrengthHouse$TextReader", "length", "I", false)
  | 2 => ("StrengthHouse$TextReader", "from", "I", false)
  | _ => ("StrengthHouse$TextReader", "to", "I", false)
def tyX9 : Nat → FieldType := fun k => match k with
  | 0 => .array .byte
  | 1 => .int
  | 2 => .int
  | _ => .int
theorem nmX9 : ∀ a, a < 4 → ∀ b, b < 4 → a ≠ b → (TX9 a).2.1 ≠ (TX9 b).2.1 := by decide +kernel
theorem tyX9_ok : ∀ k, k < 4 → parseFieldDescriptor (TX9 k).2.2.1 = some (tyX9 k) := by decide +kernel
abbrev cX9_init : ByteArray := prog_11_method_1_code
def yX9_init : MethodName := ⟨RX9, "<init>", "()V"⟩
abbrev cX9_faultOf : ByteArray := prog_11_method_2_code
def yX9_faultOf : MethodName := ⟨RX9, "faultOf", "([BILStrengthHouse$Program;)I"⟩
abbrev cX9_readPart : ByteArray := prog_11_method_3_code
def yX9_readPart : MethodName := ⟨RX9, "readPart", "(LStrengthHouse$Program;Z)Z"⟩
abbrev cX9_actHere : ByteArray := prog_11_method_4_code
def yX9_actHere : MethodName := ⟨RX9, "actHere", "()I"⟩
abbrev cX9_wordOf : ByteArray := prog_11_method_5_code
def yX9_wordOf : MethodName := ⟨RX9, "wordOf", "(I)Ljava/lang/String;"⟩
abbrev cX9_numberHere : ByteArray := prog_11_method_6_code
def yX9_numberHere : MethodName := ⟨RX9, "numberHere", "()I"⟩
abbrev cX9_isMark : ByteArray := prog_11_method_7_code
def yX9_isMark : MethodName := ⟨RX9, "isMark", "(Ljava/lang/String;)Z"⟩
abbrev cX9_next : ByteArray := prog_11_method_8_code
def yX9_next : MethodName := ⟨RX9, "next", "()V"⟩
abbrev cX9_byteAt : ByteArray := prog_11_method_9_code
def yX9_byteAt : MethodName := ⟨RX9, "byteAt", "(I)I"⟩
abbrev cX9_isLetter : ByteArray := prog_11_method_10_code
def yX9_isLetter : MethodName := ⟨RX9, "isLetter", "(I)Z"⟩
abbrev cX9_isDigit : ByteArray := prog_11_method_11_code
def yX9_isDigit : MethodName := ⟨RX9, "isDigit", "(I)Z"⟩
def RX10 : String := "StrengthHouse$Voices"
def TX10 : u_T := fun k => match k with
  | 0 => ("StrengthHouse$Voices", "begun", "[I", true)
  | 1 => ("StrengthHouse$Voices", "begunCount", "I", false)
  | 2 => ("StrengthHouse$Voices", "trace", "[I", true)
  | 3 => ("StrengthHouse$Voices", "count", "I", false)
  | 4 => ("StrengthHouse$Voices", "kind", "I", false)
  | 5 => ("StrengthHouse$Voices", "size", "I", false)
  | 6 => ("StrengthHouse$Voices", "number", "I", false)
  | _ => ("StrengthHouse$Voices", "parted", "Z", false)
def tyX10 : Nat → FieldType := fun k => match k with
  | 0 => .array .int
  | 1 => .int
  | 2 => .array .int
  | 3 => .int
  | 4 => .int
  | 5 => .int
  | 6 => .int
  | _ => .boolean
theorem nmX10 : ∀ a, a < 8 → ∀ b, b < 8 → a ≠ b → (TX10 a).2.1 ≠ (TX10 b).2.1 := by decide +kernel
theorem tyX10_ok : ∀ k, k < 8 → parseFieldDescriptor (TX10 k).2.2.1 = some (tyX10 k) := by decide +kernel
abbrev cX10_init : ByteArray := prog_12_method_1_code
def yX10_init : MethodName := ⟨RX10, "<init>", "()V"⟩
abbrev cX10_ask : ByteArray := prog_12_method_2_code
def yX10_ask : MethodName := ⟨RX10, "ask", "(LStrengthHouse$Piece;III)I"⟩
abbrev cX10_bodyAt : ByteArray := prog_12_method_3_code
def yX10_bodyAt : MethodName := ⟨RX10, "bodyAt", "(I)I"⟩
abbrev cX10_say : ByteArray := prog_12_method_4_code
def yX10_say : MethodName := ⟨RX10, "say", "(IIII)I"⟩
abbrev cX10_bodyOf : ByteArray := prog_12_method_5_code
def yX10_bodyOf : MethodName := ⟨RX10, "bodyOf", "(II)I"⟩
abbrev cX10_workOut : ByteArray := prog_12_method_6_code
def yX10_workOut : MethodName := ⟨RX10, "workOut", "(III)I"⟩
abbrev cX10_shareOut : ByteArray := prog_12_method_7_code
def yX10_shareOut : MethodName := ⟨RX10, "shareOut", "(I)I"⟩
def RX11 : String := "StrengthHouse"
def TX11 : u_T := fun k => match k with
  | 0 => ("StrengthHouse", "now", "LStrengthHouse$State;", true)
  | 1 => ("StrengthHouse", "kept", "LStrengthHouse$State;", true)
  | 2 => ("StrengthHouse", "images", "I", false)
  | 3 => ("StrengthHouse", "refused", "[I", true)
  | 4 => ("StrengthHouse", "sheets", "[LStrengthHouse$Sheet;", true)
  | 5 => ("StrengthHouse", "voices", "LStrengthHouse$Voices;", true)
  | 6 => ("StrengthHouse", "machine", "LStrengthHouse$Machine;", true)
  | 7 => ("StrengthHouse", "reader", "LStrengthHouse$TextReader;", true)
  | 8 => ("StrengthHouse", "draft", "LStrengthHouse$Program;", true)
  | 9 => ("StrengthHouse", "order", "LStrengthHouse$Order;", true)
  | _ => ("StrengthHouse", "cuts", "[I", true)
def tyX11 : Nat → FieldType := fun k => match k with
  | 0 => .object "StrengthHouse$State"
  | 1 => .object "StrengthHouse$State"
  | 2 => .int
  | 3 => .array .int
  | 4 => .array (.object "StrengthHouse$Sheet")
  | 5 => .object "StrengthHouse$Voices"
  | 6 => .object "StrengthHouse$Machine"
  | 7 => .object "StrengthHouse$TextReader"
  | 8 => .object "StrengthHouse$Program"
  | 9 => .object "StrengthHouse$Order"
  | _ => .array .int
theorem nmX11 : ∀ a, a < 11 → ∀ b, b < 11 → a ≠ b → (TX11 a).2.1 ≠ (TX11 b).2.1 := by decide +kernel
theorem tyX11_ok : ∀ k, k < 11 → parseFieldDescriptor (TX11 k).2.2.1 = some (tyX11 k) := by decide +kernel
abbrev cX11_init : ByteArray := prog_1_method_1_code
def yX11_init : MethodName := ⟨RX11, "<init>", "()V"⟩
abbrev cX11_piece : ByteArray := prog_1_method_2_code
def yX11_piece : MethodName := ⟨RX11, "piece", "(IIIII)I"⟩
abbrev cX11_pieceIs : ByteArray := prog_1_method_3_code
def yX11_pieceIs : MethodName := ⟨RX11, "pieceIs", "(II)I"⟩
abbrev cX11_as : ByteArray := prog_1_method_4_code
def yX11_as : MethodName := ⟨RX11, "as", "(II)I"⟩
abbrev cX11_answer : ByteArray := prog_1_method_5_code
def yX11_answer : MethodName := ⟨RX11, "answer", "(II)I"⟩
abbrev cX11_trace : ByteArray := prog_1_method_6_code
def yX11_trace : MethodName := ⟨RX11, "trace", "(III)I"⟩
abbrev cX11_reading : ByteArray := prog_1_method_7_code
def yX11_reading : MethodName := ⟨RX11, "reading", "(III)I"⟩
abbrev cX11_limit : ByteArray := prog_1_method_8_code
def yX11_limit : MethodName := ⟨RX11, "limit", "(II)I"⟩
abbrev cX11_feed : ByteArray := prog_1_method_9_code
def yX11_feed : MethodName := ⟨RX11, "feed", "(JI)I"⟩
abbrev cX11_program : ByteArray := prog_1_method_10_code
def yX11_program : MethodName := ⟨RX11, "program", "(I)I"⟩
abbrev cX11_run : ByteArray := prog_1_method_11_code
def yX11_run : MethodName := ⟨RX11, "run", "(II)I"⟩
abbrev cX11_ran : ByteArray := prog_1_method_12_code
def yX11_ran : MethodName := ⟨RX11, "ran", "(I)I"⟩
abbrev cX11_line : ByteArray := prog_1_method_13_code
def yX11_line : MethodName := ⟨RX11, "line", "(II)I"⟩
abbrev cX11_yields : ByteArray := prog_1_method_14_code
def yX11_yields : MethodName := ⟨RX11, "yields", "(II)I"⟩
abbrev cX11_top : ByteArray := prog_1_method_15_code
def yX11_top : MethodName := ⟨RX11, "top", "(I)I"⟩
abbrev cX11_breaks : ByteArray := prog_1_method_16_code
def yX11_breaks : MethodName := ⟨RX11, "breaks", "(II)I"⟩
abbrev cX11_spent : ByteArray := prog_1_method_17_code
def yX11_spent : MethodName := ⟨RX11, "spent", "(II)J"⟩
abbrev cX11_number : ByteArray := prog_1_method_18_code
def yX11_number : MethodName := ⟨RX11, "number", "(II)I"⟩
abbrev cX11_curve : ByteArray := prog_1_method_19_code
def yX11_curve : MethodName := ⟨RX11, "curve", "(III)I"⟩
abbrev cX11_odd : ByteArray := prog_1_method_20_code
def yX11_odd : MethodName := ⟨RX11, "odd", "(III)I"⟩
abbrev cX11_sure : ByteArray := prog_1_method_21_code
def yX11_sure : MethodName := ⟨RX11, "sure", "(IIII)I"⟩
abbrev cX11_few : ByteArray := prog_1_method_22_code
def yX11_few : MethodName := ⟨RX11, "few", "(II)I"⟩
abbrev cX11_prove : ByteArray := prog_1_method_23_code
def yX11_prove : MethodName := ⟨RX11, "prove", "(IIII)I"⟩
abbrev cX11_led : ByteArray := prog_1_method_24_code
def yX11_led : MethodName := ⟨RX11, "led", "(III)I"⟩
abbrev cX11_enter : ByteArray := prog_1_method_25_code
def yX11_enter : MethodName := ⟨RX11, "enter", "(III)I"⟩
abbrev cX11_entryIs : ByteArray := prog_1_method_26_code
def yX11_entryIs : MethodName := ⟨RX11, "entryIs", "(II)I"⟩
abbrev cX11_back : ByteArray := prog_1_method_27_code
def yX11_back : MethodName := ⟨RX11, "back", "(II)I"⟩
abbrev cX11_book : ByteArray := prog_1_method_28_code
def yX11_book : MethodName := ⟨RX11, "book", "(II)I"⟩
abbrev cX11_hangs : ByteArray := prog_1_method_29_code
def yX11_hangs : MethodName := ⟨RX11, "hangs", "(I)I"⟩
abbrev cX11_plates : ByteArray := prog_1_method_30_code
def yX11_plates : MethodName := ⟨RX11, "plates", "(III)I"⟩
abbrev cX11_drift : ByteArray := prog_1_method_31_code
def yX11_drift : MethodName := ⟨RX11, "drift", "(I)I"⟩
abbrev cX11_voice : ByteArray := prog_1_method_32_code
def yX11_voice : MethodName := ⟨RX11, "voice", "(III)I"⟩
abbrev cX11_body : ByteArray := prog_1_method_33_code
def yX11_body : MethodName := ⟨RX11, "body", "(I)I"⟩
abbrev cX11_sheet : ByteArray := prog_1_method_34_code
def yX11_sheet : MethodName := ⟨RX11, "sheet", "(III)I"⟩
abbrev cX11_put : ByteArray := prog_1_method_35_code
def yX11_put : MethodName := ⟨RX11, "put", "(III)I"⟩
abbrev cX11_move : ByteArray := prog_1_method_36_code
def yX11_move : MethodName := ⟨RX11, "move", "(IIIII)I"⟩
abbrev cX11_image : ByteArray := prog_1_method_37_code
def yX11_image : MethodName := ⟨RX11, "image", "()I"⟩
abbrev cX11_restore : ByteArray := prog_1_method_38_code
def yX11_restore : MethodName := ⟨RX11, "restore", "()I"⟩
abbrev cX11_tell : ByteArray := prog_1_method_39_code
def yX11_tell : MethodName := ⟨RX11, "tell", "(I)I"⟩
abbrev cX11_check : ByteArray := prog_1_method_40_code
def yX11_check : MethodName := ⟨RX11, "check", "(II)I"⟩
abbrev cX11_count : ByteArray := prog_1_method_41_code
def yX11_count : MethodName := ⟨RX11, "count", "(I)I"⟩
abbrev cX11_told : ByteArray := prog_1_method_42_code
def yX11_told : MethodName := ⟨RX11, "told", "(I)I"⟩
abbrev cX11_refuse : ByteArray := prog_1_method_43_code
def yX11_refuse : MethodName := ⟨RX11, "refuse", "(I)I"⟩
abbrev cX11_orNone : ByteArray := prog_1_method_44_code
def yX11_orNone : MethodName := ⟨RX11, "orNone", "(I)I"⟩
abbrev cX11_sheetAt : ByteArray := prog_1_method_45_code
def yX11_sheetAt : MethodName := ⟨RX11, "sheetAt", "(I)LStrengthHouse$Sheet;"⟩
abbrev cX11_orderCurves : ByteArray := prog_1_method_46_code
def yX11_orderCurves : MethodName := ⟨RX11, "orderCurves", "(II)V"⟩
abbrev cX11_orderNumbers : ByteArray := prog_1_method_47_code
def yX11_orderNumbers : MethodName := ⟨RX11, "orderNumbers", "(II)V"⟩
abbrev cX11_fewestPlates : ByteArray := prog_1_method_48_code
def yX11_fewestPlates : MethodName := ⟨RX11, "fewestPlates", "(LStrengthHouse$Sheet;II)I"⟩
abbrev cX11_cutOneMore : ByteArray := prog_1_method_49_code
def yX11_cutOneMore : MethodName := ⟨RX11, "cutOneMore", "(III)I"⟩
abbrev cX11_sumsApart : ByteArray := prog_1_method_50_code
def yX11_sumsApart : MethodName := ⟨RX11, "sumsApart", "(II)I"⟩
abbrev cX11_firstUnlike : ByteArray := prog_1_method_51_code
def yX11_firstUnlike : MethodName := ⟨RX11, "firstUnlike", "(ILStrengthHouse$Readings;)I"⟩
abbrev cX11_within : ByteArray := prog_1_method_52_code
def yX11_within : MethodName := ⟨RX11, "within", "(III)Z"⟩
abbrev cX11_isLot : ByteArray := prog_1_method_53_code
def yX11_isLot : MethodName := ⟨RX11, "isLot", "(I)Z"⟩
abbrev cX11_isLaw : ByteArray := prog_1_method_54_code
def yX11_isLaw : MethodName := ⟨RX11, "isLaw", "(I)Z"⟩
abbrev cX11_isMeter : ByteArray := prog_1_method_55_code
def yX11_isMeter : MethodName := ⟨RX11, "isMeter", "(I)Z"⟩
abbrev cX11_isStretch : ByteArray := prog_1_method_56_code
def yX11_isStretch : MethodName := ⟨RX11, "isStretch", "(I)Z"⟩
abbrev cX11_isTenths : ByteArray := prog_1_method_57_code
def yX11_isTenths : MethodName := ⟨RX11, "isTenths", "(I)Z"⟩
abbrev cX11_straight : ByteArray := prog_1_method_58_code
def yX11_straight : MethodName := ⟨RX11, "straight", "(IIII)I"⟩
def RX12 : String := "StrengthHouseModel"
def TX12 : u_T := fun k => match k with
  | 0 => ("StrengthHouseModel", "now", "[I", true)
  | 1 => ("StrengthHouseModel", "kept", "[I", true)
  | 2 => ("StrengthHouseModel", "images", "I", false)
  | 3 => ("StrengthHouseModel", "found", "[I", true)
  | 4 => ("StrengthHouseModel", "MOST", "[I", true)
  | 5 => ("StrengthHouseModel", "WORDS", "[Ljava/lang/String;", true)
  | 6 => ("StrengthHouseModel", "from", "I", false)
  | 7 => ("StrengthHouseModel", "to", "I", false)
  | 8 => ("StrengthHouseModel", "isWrong", "Z", false)
  | 9 => ("StrengthHouseModel", "parts", "I", false)
  | 10 => ("StrengthHouseModel", "row", "[I", true)
  | 11 => ("StrengthHouseModel", "tried", "I", false)
  | 12 => ("StrengthHouseModel", "x", "I", false)
  | 13 => ("StrengthHouseModel", "isBroken", "Z", false)
  | 14 => ("StrengthHouseModel", "isLastPart", "Z", false)
  | 15 => ("StrengthHouseModel", "why", "I", false)
  | 16 => ("StrengthHouseModel", "ticks", "I", false)
  | 17 => ("StrengthHouseModel", "held", "I", false)
  | 18 => ("StrengthHouseModel", "taken", "I", false)
  | 19 => ("StrengthHouseModel", "behind", "[I", true)
  | 20 => ("StrengthHouseModel", "takenAt", "[I", true)
  | 21 => ("StrengthHouseModel", "takenLoad", "[I", true)
  | 22 => ("StrengthHouseModel", "lineFirst", "I", false)
  | 23 => ("StrengthHouseModel", "lineSecond", "I", false)
  | 24 => ("StrengthHouseModel", "onLine", "I", false)
  | 25 => ("StrengthHouseModel", "ordered", "[I", true)
  | 26 => ("StrengthHouseModel", "whose", "[I", true)
  | 27 => ("StrengthHouseModel", "orderedMany", "I", false)
  | 28 => ("StrengthHouseModel", "plates", "[I", true)
  | 29 => ("StrengthHouseModel", "cut", "[I", true)
  | 30 => ("StrengthHouseModel", "trace", "[I", true)
  | 31 => ("StrengthHouseModel", "traced", "I", false)
  | 32 => ("StrengthHouseModel", "speaker", "I", false)
  | 33 => ("StrengthHouseModel", "isParted", "Z", false)
  | 34 => ("StrengthHouseModel", "widths", "[I", true)
  | 35 => ("StrengthHouseModel", "sizes", "[I", true)
  | 36 => ("StrengthHouseModel", "numbers", "[I", true)
  | _ => ("StrengthHouseModel", "carried", "[I", true)
def tyX12 : Nat → FieldType := fun k => match k with
  | 0 => .array .int
  | 1 => .array .int
  | 2 => .int
  | 3 => .array .int
  | 4 => .array .int
  | 5 => .array (.object "java/lang/String")
  | 6 => .int
  | 7 => .int
  | 8 => .boolean
  | 9 => .int
  | 10 => .array .int
  | 11 => .int
  | 12 => .int
  | 13 => .boolean
  | 14 => .boolean
  | 15 => .int
  | 16 => .int
  | 17 => .int
  | 18 => .int
  | 19 => .array .int
  | 20 => .array .int
  | 21 => .array .int
  | 22 => .int
  | 23 => .int
  | 24 => .int
  | 25 => .array .int
  | 26 => .array .int
  | 27 => .int
  | 28 => .array .int
  | 29 => .array .int
  | 30 => .array .int
  | 31 => .int
  | 32 => .int
  | 33 => .boolean
  | 34 => .array .int
  | 35 => .array .int
  | 36 => .array .int
  | _ => .array .int
theorem nmX12 : ∀ a, a < 38 → ∀ b, b < 38 → a ≠ b → (TX12 a).2.1 ≠ (TX12 b).2.1 := by decide +kernel
theorem tyX12_ok : ∀ k, k < 38 → parseFieldDescriptor (TX12 k).2.2.1 = some (tyX12 k) := by decide +kernel
abbrev cX12_init : ByteArray := prog_14_method_1_code
def yX12_init : MethodName := ⟨RX12, "<init>", "()V"⟩
abbrev cX12_finding : ByteArray := prog_14_method_2_code
def yX12_finding : MethodName := ⟨RX12, "finding", "(I)I"⟩
abbrev cX12_within : ByteArray := prog_14_method_3_code
def yX12_within : MethodName := ⟨RX12, "within", "(III)Z"⟩
abbrev cX12_is : ByteArray := prog_14_method_4_code
def yX12_is : MethodName := ⟨RX12, "is", "(II)Z"⟩
abbrev cX12_has : ByteArray := prog_14_method_5_code
def yX12_has : MethodName := ⟨RX12, "has", "(II)Z"⟩
abbrev cX12_bits : ByteArray := prog_14_method_6_code
def yX12_bits : MethodName := ⟨RX12, "bits", "(I)I"⟩
abbrev cX12_become : ByteArray := prog_14_method_7_code
def yX12_become : MethodName := ⟨RX12, "become", "(II)I"⟩
abbrev cX12_of : ByteArray := prog_14_method_8_code
def yX12_of : MethodName := ⟨RX12, "of", "(II)I"⟩
abbrev cX12_piece : ByteArray := prog_14_method_9_code
def yX12_piece : MethodName := ⟨RX12, "piece", "(IIIII)I"⟩
abbrev cX12_many : ByteArray := prog_14_method_10_code
def yX12_many : MethodName := ⟨RX12, "many", "(I)I"⟩
abbrev cX12_stretch : ByteArray := prog_14_method_11_code
def yX12_stretch : MethodName := ⟨RX12, "stretch", "(II)I"⟩
abbrev cX12_load : ByteArray := prog_14_method_12_code
def yX12_load : MethodName := ⟨RX12, "load", "(II)I"⟩
abbrev cX12_isGood : ByteArray := prog_14_method_13_code
def yX12_isGood : MethodName := ⟨RX12, "isGood", "(II)Z"⟩
abbrev cX12_pieceIs : ByteArray := prog_14_method_14_code
def yX12_pieceIs : MethodName := ⟨RX12, "pieceIs", "(II)I"⟩
abbrev cX12_above : ByteArray := prog_14_method_15_code
def yX12_above : MethodName := ⟨RX12, "above", "(I)I"⟩
abbrev cX12_as : ByteArray := prog_14_method_16_code
def yX12_as : MethodName := ⟨RX12, "as", "(II)I"⟩
abbrev cX12_end : ByteArray := prog_14_method_17_code
def yX12_end : MethodName := ⟨RX12, "end", "(I)I"⟩
abbrev cX12_answered : ByteArray := prog_14_method_18_code
def yX12_answered : MethodName := ⟨RX12, "answered", "(II)I"⟩
abbrev cX12_answer : ByteArray := prog_14_method_19_code
def yX12_answer : MethodName := ⟨RX12, "answer", "(II)I"⟩
abbrev cX12_read : ByteArray := prog_14_method_20_code
def yX12_read : MethodName := ⟨RX12, "read", "(IIII)V"⟩
abbrev cX12_trace : ByteArray := prog_14_method_21_code
def yX12_trace : MethodName := ⟨RX12, "trace", "(III)I"⟩
abbrev cX12_reading : ByteArray := prog_14_method_22_code
def yX12_reading : MethodName := ⟨RX12, "reading", "(III)I"⟩
abbrev cX12_limit : ByteArray := prog_14_method_23_code
def yX12_limit : MethodName := ⟨RX12, "limit", "(II)I"⟩
abbrev cX12_feed : ByteArray := prog_14_method_24_code
def yX12_feed : MethodName := ⟨RX12, "feed", "(JI)I"⟩
abbrev cX12_isByte : ByteArray := prog_14_method_25_code
def yX12_isByte : MethodName := ⟨RX12, "isByte", "(III)Z"⟩
abbrev cX12_goOn : ByteArray := prog_14_method_26_code
def yX12_goOn : MethodName := ⟨RX12, "goOn", "()V"⟩
abbrev cX12_takes : ByteArray := prog_14_method_27_code
def yX12_takes : MethodName := ⟨RX12, "takes", "(Ljava/lang/String;)Z"⟩
abbrev cX12_number : ByteArray := prog_14_method_28_code
def yX12_number : MethodName := ⟨RX12, "number", "()I"⟩
abbrev cX12_part : ByteArray := prog_14_method_29_code
def yX12_part : MethodName := ⟨RX12, "part", "()V"⟩
abbrev cX12_isProgram : ByteArray := prog_14_method_30_code
def yX12_isProgram : MethodName := ⟨RX12, "isProgram", "(I)Z"⟩
abbrev cX12_program : ByteArray := prog_14_method_31_code
def yX12_program : MethodName := ⟨RX12, "program", "(I)I"⟩
abbrev cX12_hasProgram : ByteArray := prog_14_method_32_code
def yX12_hasProgram : MethodName := ⟨RX12, "hasProgram", "(I)Z"⟩
abbrev cX12_loadNow : ByteArray := prog_14_method_33_code
def yX12_loadNow : MethodName := ⟨RX12, "loadNow", "()I"⟩
abbrev cX12_tick : ByteArray := prog_14_method_34_code
def yX12_tick : MethodName := ⟨RX12, "tick", "()V"⟩
abbrev cX12_goesOn : ByteArray := prog_14_method_35_code
def yX12_goesOn : MethodName := ⟨RX12, "goesOn", "()Z"⟩
abbrev cX12_takeReading : ByteArray := prog_14_method_36_code
def yX12_takeReading : MethodName := ⟨RX12, "takeReading", "()V"⟩
abbrev cX12_does : ByteArray := prog_14_method_37_code
def yX12_does : MethodName := ⟨RX12, "does", "(II)V"⟩
abbrev cX12_goThrough : ByteArray := prog_14_method_38_code
def yX12_goThrough : MethodName := ⟨RX12, "goThrough", "(II)I"⟩
abbrev cX12_run : ByteArray := prog_14_method_39_code
def yX12_run : MethodName := ⟨RX12, "run", "(II)I"⟩
abbrev cX12_ran : ByteArray := prog_14_method_40_code
def yX12_ran : MethodName := ⟨RX12, "ran", "(I)I"⟩
abbrev cX12_isOn : ByteArray := prog_14_method_41_code
def yX12_isOn : MethodName := ⟨RX12, "isOn", "(IIII)Z"⟩
abbrev cX12_findLine : ByteArray := prog_14_method_42_code
def yX12_findLine : MethodName := ⟨RX12, "findLine", "(I)Z"⟩
abbrev cX12_line : ByteArray := prog_14_method_43_code
def yX12_line : MethodName := ⟨RX12, "line", "(II)I"⟩
abbrev cX12_yieldOf : ByteArray := prog_14_method_44_code
def yX12_yieldOf : MethodName := ⟨RX12, "yieldOf", "(II)I"⟩
abbrev cX12_yields : ByteArray := prog_14_method_45_code
def yX12_yields : MethodName := ⟨RX12, "yields", "(II)I"⟩
abbrev cX12_topOf : ByteArray := prog_14_method_46_code
def yX12_topOf : MethodName := ⟨RX12, "topOf", "(I)I"⟩
abbrev cX12_top : ByteArray := prog_14_method_47_code
def yX12_top : MethodName := ⟨RX12, "top", "(I)I"⟩
abbrev cX12_breakOf : ByteArray := prog_14_method_48_code
def yX12_breakOf : MethodName := ⟨RX12, "breakOf", "(II)I"⟩
abbrev cX12_breaks : ByteArray := prog_14_method_49_code
def yX12_breaks : MethodName := ⟨RX12, "breaks", "(II)I"⟩
abbrev cX12_spentOf : ByteArray := prog_14_method_50_code
def yX12_spentOf : MethodName := ⟨RX12, "spentOf", "(II)J"⟩
abbrev cX12_spent : ByteArray := prog_14_method_51_code
def yX12_spent : MethodName := ⟨RX12, "spent", "(II)J"⟩
abbrev cX12_numberOf : ByteArray := prog_14_method_52_code
def yX12_numberOf : MethodName := ⟨RX12, "numberOf", "(II)I"⟩
abbrev cX12_isLaw : ByteArray := prog_14_method_53_code
def yX12_isLaw : MethodName := ⟨RX12, "isLaw", "(I)Z"⟩
abbrev cX12_number_ : ByteArray := prog_14_method_54_code
def yX12_number_ : MethodName := ⟨RX12, "number", "(II)I"⟩
abbrev cX12_adds : ByteArray := prog_14_method_55_code
def yX12_adds : MethodName := ⟨RX12, "adds", "(II)V"⟩
abbrev cX12_curveOf : ByteArray := prog_14_method_56_code
def yX12_curveOf : MethodName := ⟨RX12, "curveOf", "(II)I"⟩
abbrev cX12_isLot : ByteArray := prog_14_method_57_code
def yX12_isLot : MethodName := ⟨RX12, "isLot", "(I)Z"⟩
abbrev cX12_curve : ByteArray := prog_14_method_58_code
def yX12_curve : MethodName := ⟨RX12, "curve", "(III)I"⟩
abbrev cX12_findNumbers : ByteArray := prog_14_method_59_code
def yX12_findNumbers : MethodName := ⟨RX12, "findNumbers", "(II)V"⟩
abbrev cX12_odd : ByteArray := prog_14_method_60_code
def yX12_odd : MethodName := ⟨RX12, "odd", "(III)I"⟩
abbrev cX12_rankOf : ByteArray := prog_14_method_61_code
def yX12_rankOf : MethodName := ⟨RX12, "rankOf", "(III)I"⟩
abbrev cX12_areTenths : ByteArray := prog_14_method_62_code
def yX12_areTenths : MethodName := ⟨RX12, "areTenths", "(II)Z"⟩
abbrev cX12_sure : ByteArray := prog_14_method_63_code
def yX12_sure : MethodName := ⟨RX12, "sure", "(IIII)I"⟩
abbrev cX12_few : ByteArray := prog_14_method_64_code
def yX12_few : MethodName := ⟨RX12, "few", "(II)I"⟩
abbrev cX12_isMeter : ByteArray := prog_14_method_65_code
def yX12_isMeter : MethodName := ⟨RX12, "isMeter", "(I)Z"⟩
abbrev cX12_meter : ByteArray := prog_14_method_66_code
def yX12_meter : MethodName := ⟨RX12, "meter", "(II)I"⟩
abbrev cX12_prove : ByteArray := prog_14_method_67_code
def yX12_prove : MethodName := ⟨RX12, "prove", "(IIII)I"⟩
abbrev cX12_ledOf : ByteArray := prog_14_method_68_code
def yX12_ledOf : MethodName := ⟨RX12, "ledOf", "(II)I"⟩
abbrev cX12_led : ByteArray := prog_14_method_69_code
def yX12_led : MethodName := ⟨RX12, "led", "(III)I"⟩
abbrev cX12_entry : ByteArray := prog_14_method_70_code
def yX12_entry : MethodName := ⟨RX12, "entry", "(II)I"⟩
abbrev cX12_enter : ByteArray := prog_14_method_71_code
def yX12_enter : MethodName := ⟨RX12, "enter", "(III)I"⟩
abbrev cX12_entryIs : ByteArray := prog_14_method_72_code
def yX12_entryIs : MethodName := ⟨RX12, "entryIs", "(II)I"⟩
abbrev cX12_back : ByteArray := prog_14_method_73_code
def yX12_back : MethodName := ⟨RX12, "back", "(II)I"⟩
abbrev cX12_book : ByteArray := prog_14_method_74_code
def yX12_book : MethodName := ⟨RX12, "book", "(II)I"⟩
abbrev cX12_hangs : ByteArray := prog_14_method_75_code
def yX12_hangs : MethodName := ⟨RX12, "hangs", "(I)I"⟩
abbrev cX12_plates : ByteArray := prog_14_method_76_code
def yX12_plates : MethodName := ⟨RX12, "plates", "(III)I"⟩
abbrev cX12_drift : ByteArray := prog_14_method_77_code
def yX12_drift : MethodName := ⟨RX12, "drift", "(I)I"⟩
abbrev cX12_began : ByteArray := prog_14_method_78_code
def yX12_began : MethodName := ⟨RX12, "began", "(I)V"⟩
abbrev cX12_hasOwn : ByteArray := prog_14_method_79_code
def yX12_hasOwn : MethodName := ⟨RX12, "hasOwn", "(II)Z"⟩
abbrev cX12_voiced : ByteArray := prog_14_method_80_code
def yX12_voiced : MethodName := ⟨RX12, "voiced", "(II)I"⟩
abbrev cX12_bodyFrom : ByteArray := prog_14_method_81_code
def yX12_bodyFrom : MethodName := ⟨RX12, "bodyFrom", "(III)I"⟩
abbrev cX12_body : ByteArray := prog_14_method_82_code
def yX12_body : MethodName := ⟨RX12, "body", "(III)I"⟩
abbrev cX12_voice : ByteArray := prog_14_method_83_code
def yX12_voice : MethodName := ⟨RX12, "voice", "(III)I"⟩
abbrev cX12_body_ : ByteArray := prog_14_method_84_code
def yX12_body_ : MethodName := ⟨RX12, "body", "(I)I"⟩
abbrev cX12_isSheet : ByteArray := prog_14_method_85_code
def yX12_isSheet : MethodName := ⟨RX12, "isSheet", "(I)Z"⟩
abbrev cX12_sheet : ByteArray := prog_14_method_86_code
def yX12_sheet : MethodName := ⟨RX12, "sheet", "(III)I"⟩
abbrev cX12_put : ByteArray := prog_14_method_87_code
def yX12_put : MethodName := ⟨RX12, "put", "(III)I"⟩
abbrev cX12_move : ByteArray := prog_14_method_88_code
def yX12_move : MethodName := ⟨RX12, "move", "(IIIII)I"⟩
abbrev cX12_copy : ByteArray := prog_14_method_89_code
def yX12_copy : MethodName := ⟨RX12, "copy", "([I[I)V"⟩
abbrev cX12_image : ByteArray := prog_14_method_90_code
def yX12_image : MethodName := ⟨RX12, "image", "()I"⟩
abbrev cX12_restore : ByteArray := prog_14_method_91_code
def yX12_restore : MethodName := ⟨RX12, "restore", "()I"⟩
abbrev cX12_tell : ByteArray := prog_14_method_92_code
def yX12_tell : MethodName := ⟨RX12, "tell", "(I)I"⟩
abbrev cX12_check : ByteArray := prog_14_method_93_code
def yX12_check : MethodName := ⟨RX12, "check", "(II)I"⟩
abbrev cX12_count : ByteArray := prog_14_method_94_code
def yX12_count : MethodName := ⟨RX12, "count", "(I)I"⟩
abbrev cX12_told : ByteArray := prog_14_method_95_code
def yX12_told : MethodName := ⟨RX12, "told", "(I)I"⟩
def RJ6 : String := "java/lang/Integer"
abbrev cJ6_bitCount_0f7a4 : ByteArray := prog_15_method_49_code
def yJ6_bitCount_0f7a4 : MethodName := ⟨RJ6, "bitCount", "(I)I"⟩
def RJ9 : String := "java/lang/Math"
abbrev cJ9_floorMod_7cf53 : ByteArray := prog_16_method_50_code
def yJ9_floorMod_7cf53 : MethodName := ⟨RJ9, "floorMod", "(II)I"⟩
abbrev cJ9_abs_0f7a4 : ByteArray := prog_16_method_59_code
def yJ9_abs_0f7a4 : MethodName := ⟨RJ9, "abs", "(I)I"⟩
abbrev cJ9_max_7cf53 : ByteArray := prog_16_method_65_code
def yJ9_max_7cf53 : MethodName := ⟨RJ9, "max", "(II)I"⟩
abbrev cJ9_min_7cf53 : ByteArray := prog_16_method_69_code
def yJ9_min_7cf53 : MethodName := ⟨RJ9, "min", "(II)I"⟩
abbrev cJ9_min_f86c9 : ByteArray := prog_16_method_70_code
def yJ9_min_f86c9 : MethodName := ⟨RJ9, "min", "(JJ)J"⟩
def RJ0 : String := "java/lang/String"
abbrev cJ0_length_8abf5 : ByteArray := prog_17_method_54_code
def yJ0_length_8abf5 : MethodName := ⟨RJ0, "length", "()I"⟩
abbrev cJ0_charAt_5068e : ByteArray := prog_17_method_56_code
def yJ0_charAt_5068e : MethodName := ⟨RJ0, "charAt", "(I)C"⟩
abbrev cJ0_coder_7d493 : ByteArray := prog_17_method_152_code
def yJ0_coder_7d493 : MethodName := ⟨RJ0, "coder", "()B"⟩
abbrev cJ0_isLatin1_aae02 : ByteArray := prog_17_method_154_code
def yJ0_isLatin1_aae02 : MethodName := ⟨RJ0, "isLatin1", "()Z"⟩
abbrev cJ0_checkIndex_df160 : ByteArray := prog_17_method_155_code
def yJ0_checkIndex_df160 : MethodName := ⟨RJ0, "checkIndex", "(II)V"⟩
def RJ1 : String := "java/lang/StringLatin1"
abbrev cJ1_charAt_3b067 : ByteArray := prog_18_method_2_code
def yJ1_charAt_3b067 : MethodName := ⟨RJ1, "charAt", "([BI)C"⟩
def RJ2 : String := "java/lang/StringUTF16"
def RJ10 : String := "java/lang/System"
def RJ3 : String := "jdk/internal/util/Preconditions"
abbrev cJ3_checkIndex_8e157 : ByteArray := prog_21_method_11_code
def yJ3_checkIndex_8e157 : MethodName := ⟨RJ3, "checkIndex", "(IILjava/util/function/BiFunction;)I"⟩
abbrev vwCl : List vw_C := [(RX0, TX0, 7), (RX1, TX1, 15), (RX2, TX2, 4), (RX3, TX3, 3), (RX4, TX4, 6), (RX5, TX5, 5), (RX6, TX6, 6), (RX7, TX7, 3), (RX8, TX8, 12), (RX9, TX9, 4), (RX10, TX10, 8), (RX11, TX11, 11), (RX12, TX12, 38)]
end
section
/-! THE WALKING MACHINE: values, states, one instruction as a proposition in the style of continuations. Own work. -/
/-- a value: a place (or none), a whole number of 32 bits, of 64 bits -/
abbrev pV : Type := Option Nat ⊕ (Int ⊕ Int)
abbrev vi (z : Int) : pV := Sum.inr (Sum.inl z)
abbrev vl (z : Int) : pV := Sum.inr (Sum.inr z)
abbrev vr (k : Nat) : pV := Sum.inl (some k)
abbrev vn : pV := Sum.inl none
abbrev pF : Type := Nat → Nat → Option Nat
abbrev pI : Type := Nat → Nat → Int
def wr (z : Int) : Int := (z + 2147483648) % 4294967296 - 2147483648
def wl (z : Int) : Int := (z + 9223372036854775808) % 18446744073709551616 - 9223372036854775808
def wb (z : Int) : Int := (z + 128) % 256 - 128
def wsh (z : Int) : Int := (z + 32768) % 65536 - 32768
def lcm (x y : Int) : Int := if x < y then -1 else if x = y then 0 else 1
def iR (z : Int) : Prop := -2147483648 ≤ z ∧ z < 2147483648
def lR (z : Int) : Prop := -9223372036854775808 ≤ z ∧ z < 9223372036854775808
def bI (x y : Int) : Int := ((Int32.ofInt x) &&& (Int32.ofInt y)).toInt
def oI (x y : Int) : Int := ((Int32.ofInt x) ||| (Int32.ofInt y)).toInt
def xI (x y : Int) : Int := ((Int32.ofInt x) ^^^ (Int32.ofInt y)).toInt
def slI (x y : Int) : Int := ((Int32.ofInt x) <<< ((Int32.ofInt y) &&& 31)).toInt
def srI (x y : Int) : Int := ((Int32.ofInt x) >>> ((Int32.ofInt y) &&& 31)).toInt
def suI (x y : Int) : Int := (((Int32.ofInt x).toUInt32 >>> ((Int32.ofInt y).toUInt32 &&& Int32.toUInt32 31)).toInt32).toInt
def bL (x y : Int) : Int := ((Int64.ofInt x) &&& (Int64.ofInt y)).toInt
def oL (x y : Int) : Int := ((Int64.ofInt x) ||| (Int64.ofInt y)).toInt
def slL (x y : Int) : Int := ((Int64.ofInt x) <<< ((Int32.ofInt y).toInt64 &&& 63)).toInt
def srL (x y : Int) : Int := ((Int64.ofInt x) >>> ((Int32.ofInt y).toInt64 &&& 63)).toInt
def okV : pV → Prop
  | .inr (.inl z) => iR z
  | .inr (.inr z) => lR z
  | _ => True
def ctg : pV → Nat
  | .inr (.inr _) => 2
  | _ => 1
def uI (I : pI) (q b : Nat) (x : Int) : pI := fun k j => if k = q ∧ j = b then x else I k j
def uF (F : pF) (q b : Nat) (x : Option Nat) : pF := fun k j => if k = q ∧ j = b then x else F k j
/-- a new row's numbers -/
def zI (I : pI) (q : Nat) : pI := fun k j => if k = q then 0 else I k j
def zF (F : pF) (q : Nat) : pF := fun k j => if k = q then none else F k j
/-- a stretch of a row put into another one, as they all were -/
def cI (I : pI) (q sp p dp n : Nat) : pI := fun k j => if k = p ∧ dp ≤ j ∧ j < dp + n then I q (sp + (j - dp)) else I k j
/-- an instruction of a table: itself, the next place, four numbers, a mark, cells that it makes, a value, a switch -/
abbrev pE : Type := Instr × Nat × Nat × Nat × Nat × Nat × Nat × pV × List (Int × Nat)
abbrev pT : Type := List (List (Nat × pE))
def pf : List (Nat × pE) → Nat → Option pE
  | [], _ => none
  | (q, e) :: t, pc => bif Nat.beq q pc then some e else pf t pc
def pg : pT → Nat → List (Nat × pE)
  | [], _ => []
  | c :: _, 0 => c
  | _ :: t, i + 1 => pg t i
def pAt (t : pT) (pc : Nat) : Option pE := pf (pg t (pc / 16)) pc
/-- a local -/
def lg : List (Option pV) → Nat → Option pV
  | [], _ => none
  | x :: _, 0 => x
  | _ :: t, i + 1 => lg t i
/-- a value of 64 bits whose second half is overwritten is lost -/
def lk : Option pV → Option pV
  | some (.inr (.inr _)) => none
  | x => x
def ls1 : List (Option pV) → Nat → pV → (List (Option pV) → Prop) → Prop
  | [], _, _, k => k []
  | _ :: t, 0, v, k => k (some v :: t)
  | a :: t, i + 1, v, k => match i with
    | 0 => (match a with
      | some (.inr (.inr _)) => ls1 t 0 v (fun t' => k (none :: t'))
      | some (.inr (.inl z)) => ls1 t 0 v (fun t' => k (some (.inr (.inl z)) :: t'))
      | some (.inl r) => ls1 t 0 v (fun t' => k (some (.inl r) :: t'))
      | none => ls1 t 0 v (fun t' => k (none :: t')))
    | j + 1 => ls1 t (j + 1) v (fun t' => k (a :: t'))
def lcl : List (Option pV) → List (Option pV)
  | [] => []
  | _ :: t => none :: t
def ls2 : List (Option pV) → Nat → pV → (List (Option pV) → Prop) → Prop
  | [], _, _, k => k []
  | _ :: t, 0, v, k => match t with
    | [] => k [some v]
    | _ :: t' => k (some v :: none :: t')
  | a :: t, i + 1, v, k => match i with
    | 0 => (match a with
      | some (.inr (.inr _)) => ls2 t 0 v (fun t' => k (none :: t'))
      | some (.inr (.inl z)) => ls2 t 0 v (fun t' => k (some (.inr (.inl z)) :: t'))
      | some (.inl r) => ls2 t 0 v (fun t' => k (some (.inl r) :: t'))
      | none => ls2 t 0 v (fun t' => k (none :: t')))
    | j + 1 => ls2 t (j + 1) v (fun t' => k (a :: t'))
/-- the locals at a method's entry -/
def lvA : List pV → List (Option pV)
  | [] => []
  | v :: t => match v with
    | .inr (.inr z) => some (.inr (.inr z)) :: none :: lvA t
    | .inr (.inl z) => some (.inr (.inl z)) :: lvA t
    | .inl r => some (.inl r) :: lvA t
def lvN : Nat → List (Option pV)
  | 0 => []
  | n + 1 => none :: lvN n
def mmb : List Nat → Nat → Bool
  | [], _ => false
  | q :: t, pc => bif Nat.beq q pc then true else mmb t pc
def popN : Nat → List pV → List pV → (List pV → List pV → Prop) → Prop
  | 0, st, acc, k => k acc st
  | _ + 1, [], _, _ => False
  | n + 1, x :: t, acc, k => popN n t (x :: acc) k
def ctgs : List pV → Nat
  | [] => 0
  | .inr (.inr _) :: t => 2 + ctgs t
  | .inr (.inl _) :: t => 1 + ctgs t
  | .inl _ :: t => 1 + ctgs t
def br (c : Jvm.ClassFile.Cond) (x y : Int) (P Q : Prop) : Prop := match c with
  | .eq => (x = y → P) ∧ (¬ x = y → Q)
  | .ne => (¬ x = y → P) ∧ (x = y → Q)
  | .lt => (x < y → P) ∧ (¬ x < y → Q)
  | .ge => (y ≤ x → P) ∧ (¬ y ≤ x → Q)
  | .gt => (y < x → P) ∧ (¬ y < x → Q)
  | .le => (x ≤ y → P) ∧ (¬ x ≤ y → Q)
def swp (x : Int) (d : Nat) (K : Nat → Prop) : List (Int × Nat) → Prop
  | [] => K d
  | (v, t) :: r => (x = v → K t) ∧ (¬ x = v → swp x d K r)
abbrev EXT : Nat := 4096
end
section
/-! the methods and the layout (by program: wip/pm/gen4.py) -/
abbrev mE : Type := MethodName × ByteArray × Nat × Option FieldType × Nat × Nat × Nat × Nat × Nat × Nat × Nat
def mInfo_0 : List mE := [
  (yX0_init, cX0_init, 1, (none : Option FieldType), 0, 2, 6, 0, 0, 0, 0),
  (yX0_has, cX0_has, 2, (some FieldType.boolean), 1, 1, 0, 0, 0, 0, 0),
  (yX0_add, cX0_add, 6, (some FieldType.int), 4, 1, 0, 0, 0, 0, 0),
  (yX0_canTakeBack, cX0_canTakeBack, 3, (some FieldType.boolean), 2, 1, 0, 0, 0, 0, 0),
  (yX0_takeBack, cX0_takeBack, 3, (none : Option FieldType), 2, 1, 0, 0, 0, 0, 0),
  (yX0_takenBack, cX0_takenBack, 3, (some FieldType.int), 0, 1, 0, 0, 0, 0, 0),
  (yX0_latest, cX0_latest, 5, (some FieldType.int), 2, 1, 0, 0, 0, 0, 0),
  (yX0_hanging, cX0_hanging, 5, (some FieldType.int), 2, 1, 0, 0, 0, 0, 0),
  (yX0_copyFrom, cX0_copyFrom, 2, (none : Option FieldType), 1, 1, 0, 0, 0, 0, 0),
  (yX1_init, cX1_init, 1, (none : Option FieldType), 0, 2, 9, 1, 0, 0, 0),
  (yX1_perform, cX1_perform, 6, (none : Option FieldType), 3, 1, 0, 1, 0, 0, 0),
  (yX1_begin, cX1_begin, 3, (none : Option FieldType), 2, 1, 0, 1, 0, 0, 0),
  (yX1_doPart, cX1_doPart, 5, (none : Option FieldType), 2, 1, 0, 1, 0, 0, 0),
  (yX1_timesAtMost, cX1_timesAtMost, 2, (some FieldType.int), 2, 0, 0, 1, 0, 0, 0),
  (yX1_isWanted, cX1_isWanted, 3, (some FieldType.boolean), 2, 1, 0, 1, 0, 0, 0),
  (yX1_doOnce, cX1_doOnce, 3, (none : Option FieldType), 1, 1, 0, 1, 0, 0, 0),
  (yX1_moreStretch, cX1_moreStretch, 2, (some FieldType.int), 1, 1, 0, 1, 0, 0, 0),
  (yX1_creeps, cX1_creeps, 1, (some FieldType.boolean), 0, 1, 0, 1, 0, 0, 0),
  (yX1_load, cX1_load, 1, (some FieldType.int), 0, 1, 0, 1, 0, 0, 0),
  (yX1_take, cX1_take, 3, (none : Option FieldType), 0, 1, 0, 1, 0, 0, 0),
  (yX1_askLimits, cX1_askLimits, 2, (none : Option FieldType), 1, 1, 0, 1, 0, 0, 0),
  (yX2_init, cX2_init, 1, (none : Option FieldType), 0, 2, 4, 2, 0, 0, 0),
  (yX2_set, cX2_set, 6, (none : Option FieldType), 5, 1, 0, 2, 0, 0, 0),
  (yX2_otherOf, cX2_otherOf, 2, (some FieldType.int), 1, 1, 0, 2, 0, 0, 0),
  (yX2_ledToHouse, cX2_ledToHouse, 7, (some FieldType.int), 2, 1, 0, 2, 0, 0, 0),
  (yX2_ledOnce, cX2_ledOnce, 4, (some FieldType.long), 2, 1, 0, 2, 0, 0, 0),
  (yX2_doubtOf, cX2_doubtOf, 6, (some FieldType.int), 1, 1, 0, 2, 0, 0, 0),
  (yX2_goesOver, cX2_goesOver, 5, (some FieldType.boolean), 2, 1, 0, 2, 0, 0, 0),
  (yX2_copyFrom, cX2_copyFrom, 2, (none : Option FieldType), 1, 1, 0, 2, 0, 0, 0),
  (yX3_init, cX3_init, 1, (none : Option FieldType), 0, 2, 2, 3, 0, 0, 0),
  (yX3_clear, cX3_clear, 1, (none : Option FieldType), 0, 1, 0, 3, 0, 0, 0),
  (yX3_insert, cX3_insert, 4, (none : Option FieldType), 2, 1, 0, 3, 0, 0, 0),
  (yX3_valueAt, cX3_valueAt, 2, (some FieldType.int), 1, 1, 0, 3, 0, 0, 0),
  (yX3_pieceBits, cX3_pieceBits, 3, (some FieldType.int), 0, 1, 0, 3, 0, 0, 0),
  (yX3_oddPiece, cX3_oddPiece, 3, (some FieldType.int), 1, 1, 0, 3, 0, 0, 0),
  (yX3_isApart, cX3_isApart, 8, (some FieldType.boolean), 3, 1, 0, 3, 0, 0, 0),
  (yX3_surePlace, cX3_surePlace, 10, (some FieldType.int), 3, 0, 0, 3, 0, 0, 0),
  (yX3_power, cX3_power, 5, (some FieldType.long), 2, 0, 0, 3, 0, 0, 0),
  (yX4_init, cX4_init, 1, (none : Option FieldType), 0, 2, 4, 4, 0, 0, 0),
  (yX4_become, cX4_become, 4, (none : Option FieldType), 3, 1, 0, 4, 0, 0, 0)]
def mInfo_1 : List mE := [
  (yX4_addAnswer, cX4_addAnswer, 2, (none : Option FieldType), 1, 1, 0, 4, 0, 0, 0),
  (yX4_above, cX4_above, 1, (some FieldType.int), 1, 0, 0, 4, 0, 0, 0),
  (yX4_isOf, cX4_isOf, 4, (some FieldType.boolean), 1, 1, 0, 4, 0, 0, 0),
  (yX4_lastStretch, cX4_lastStretch, 1, (some FieldType.int), 0, 1, 0, 4, 0, 0, 0),
  (yX4_loadAt, cX4_loadAt, 3, (some FieldType.int), 1, 1, 0, 4, 0, 0, 0),
  (yX4_answerAt, cX4_answerAt, 4, (some FieldType.int), 1, 1, 0, 4, 0, 0, 0),
  (yX4_copyFrom, cX4_copyFrom, 2, (none : Option FieldType), 1, 1, 0, 4, 0, 0, 0),
  (yX5_init, cX5_init, 1, (none : Option FieldType), 0, 2, 2, 5, 0, 0, 0),
  (yX5_clear, cX5_clear, 1, (none : Option FieldType), 0, 1, 0, 5, 0, 0, 0),
  (yX5_add, cX5_add, 4, (none : Option FieldType), 3, 1, 0, 5, 0, 0, 0),
  (yX5_actAt, cX5_actAt, 2, (some FieldType.int), 1, 1, 0, 5, 0, 0, 0),
  (yX5_amountAt, cX5_amountAt, 2, (some FieldType.int), 1, 1, 0, 5, 0, 0, 0),
  (yX5_copyFrom, cX5_copyFrom, 2, (none : Option FieldType), 1, 1, 0, 5, 0, 0, 0),
  (yX6_init, cX6_init, 1, (none : Option FieldType), 0, 2, 2, 6, 0, 0, 0),
  (yX6_clear, cX6_clear, 1, (none : Option FieldType), 0, 1, 0, 6, 0, 0, 0),
  (yX6_add, cX6_add, 3, (none : Option FieldType), 2, 1, 0, 6, 0, 0, 0),
  (yX6_stretchAt, cX6_stretchAt, 2, (some FieldType.int), 1, 1, 0, 6, 0, 0, 0),
  (yX6_loadAt, cX6_loadAt, 2, (some FieldType.int), 1, 1, 0, 6, 0, 0, 0),
  (yX6_flatAt, cX6_flatAt, 2, (some FieldType.int), 1, 1, 0, 6, 0, 0, 0),
  (yX6_isGood, cX6_isGood, 2, (some FieldType.boolean), 1, 1, 0, 6, 0, 0, 0),
  (yX6_goodOnes, cX6_goodOnes, 3, (some FieldType.int), 0, 1, 0, 6, 0, 0, 0),
  (yX6_findLine, cX6_findLine, 3, (some FieldType.boolean), 0, 1, 0, 6, 0, 0, 0),
  (yX6_tryLine, cX6_tryLine, 5, (none : Option FieldType), 2, 1, 0, 6, 0, 0, 0),
  (yX6_belowLine, cX6_belowLine, 13, (some FieldType.long), 4, 1, 0, 6, 0, 0, 0),
  (yX6_yieldAt, cX6_yieldAt, 3, (some FieldType.int), 1, 1, 0, 6, 0, 0, 0),
  (yX6_topAt, cX6_topAt, 3, (some FieldType.int), 0, 1, 0, 6, 0, 0, 0),
  (yX6_breakAt, cX6_breakAt, 4, (some FieldType.int), 1, 1, 0, 6, 0, 0, 0),
  (yX6_spentUpTo, cX6_spentUpTo, 6, (some FieldType.long), 1, 1, 0, 6, 0, 0, 0),
  (yX6_spentBetween, cX6_spentBetween, 5, (some FieldType.long), 2, 1, 0, 6, 0, 0, 0),
  (yX6_numberBy, cX6_numberBy, 3, (some FieldType.int), 1, 1, 0, 6, 0, 0, 0),
  (yX6_stretchOr, cX6_stretchOr, 2, (some FieldType.int), 1, 1, 0, 6, 0, 0, 0),
  (yX6_curveAt, cX6_curveAt, 4, (some FieldType.int), 1, 1, 0, 6, 0, 0, 0),
  (yX6_copyFrom, cX6_copyFrom, 2, (none : Option FieldType), 1, 1, 0, 6, 0, 0, 0),
  (yX7_init, cX7_init, 1, (none : Option FieldType), 0, 2, 1, 7, 0, 0, 0),
  (yX7_become, cX7_become, 4, (none : Option FieldType), 2, 1, 0, 7, 0, 0, 0),
  (yX7_isMissing, cX7_isMissing, 1, (some FieldType.boolean), 0, 1, 0, 7, 0, 0, 0),
  (yX7_spans, cX7_spans, 3, (some FieldType.boolean), 2, 1, 0, 7, 0, 0, 0),
  (yX7_numberAt, cX7_numberAt, 2, (some FieldType.int), 1, 1, 0, 7, 0, 0, 0),
  (yX7_set, cX7_set, 3, (none : Option FieldType), 2, 1, 0, 7, 0, 0, 0),
  (yX7_begins, cX7_begins, 5, (some FieldType.boolean), 3, 1, 0, 7, 0, 0, 0)]
def mInfo_2 : List mE := [
  (yX7_beginsWithReadings, cX7_beginsWithReadings, 4, (some FieldType.boolean), 1, 1, 0, 7, 0, 0, 0),
  (yX8_init, cX8_init, 2, (none : Option FieldType), 0, 2, 100, 8, 0, 0, 0),
  (yX8_pieces, cX8_pieces, 1, (some FieldType.int), 0, 1, 0, 8, 0, 0, 0),
  (yX8_pieceAt, cX8_pieceAt, 2, (some (FieldType.object "StrengthHouse$Piece")), 1, 1, 0, 8, 0, 0, 0),
  (yX8_addPiece, cX8_addPiece, 1, (some (FieldType.object "StrengthHouse$Piece")), 0, 1, 0, 8, 0, 0, 0),
  (yX8_programAt, cX8_programAt, 2, (some (FieldType.object "StrengthHouse$Program")), 1, 1, 0, 8, 0, 0, 0),
  (yX8_programsThere, cX8_programsThere, 3, (some FieldType.int), 0, 1, 0, 8, 0, 0, 0),
  (yX8_readingsOfAll, cX8_readingsOfAll, 3, (some FieldType.int), 0, 1, 0, 8, 0, 0, 0),
  (yX8_isLimit, cX8_isLimit, 2, (some FieldType.boolean), 2, 0, 0, 8, 0, 0, 0),
  (yX8_limitAt, cX8_limitAt, 2, (some FieldType.int), 1, 1, 0, 8, 0, 0, 0),
  (yX8_setLimit, cX8_setLimit, 3, (none : Option FieldType), 2, 1, 0, 8, 0, 0, 0),
  (yX8_addByte, cX8_addByte, 2, (none : Option FieldType), 1, 1, 0, 8, 0, 0, 0),
  (yX8_keepRun, cX8_keepRun, 2, (none : Option FieldType), 1, 1, 0, 8, 0, 0, 0),
  (yX8_ranAt, cX8_ranAt, 2, (some FieldType.int), 1, 1, 0, 8, 0, 0, 0),
  (yX8_addWaiting, cX8_addWaiting, 2, (some FieldType.boolean), 1, 1, 0, 8, 0, 0, 0),
  (yX8_waitingAt, cX8_waitingAt, 2, (some FieldType.int), 1, 1, 0, 8, 0, 0, 0),
  (yX8_copyFrom, cX8_copyFrom, 3, (none : Option FieldType), 1, 1, 0, 8, 0, 0, 0),
  (yX9_init, cX9_init, 1, (none : Option FieldType), 0, 2, 1, 9, 0, 0, 0),
  (yX9_faultOf, cX9_faultOf, 6, (some FieldType.int), 3, 1, 0, 9, 0, 0, 0),
  (yX9_readPart, cX9_readPart, 5, (some FieldType.boolean), 2, 1, 0, 9, 0, 0, 0),
  (yX9_actHere, cX9_actHere, 2, (some FieldType.int), 0, 1, 0, 9, 0, 0, 0),
  (yX9_wordOf, cX9_wordOf, 1, (some (FieldType.object "java/lang/String")), 1, 0, 0, 9, 0, 0, 0),
  (yX9_numberHere, cX9_numberHere, 3, (some FieldType.int), 0, 1, 0, 9, 0, 0, 0),
  (yX9_isMark, cX9_isMark, 3, (some FieldType.boolean), 1, 1, 0, 9, 0, 0, 0),
  (yX9_next, cX9_next, 1, (none : Option FieldType), 0, 1, 0, 9, 0, 0, 0),
  (yX9_byteAt, cX9_byteAt, 2, (some FieldType.int), 1, 1, 0, 9, 0, 0, 0),
  (yX9_isLetter, cX9_isLetter, 2, (some FieldType.boolean), 1, 1, 0, 9, 0, 0, 0),
  (yX9_isDigit, cX9_isDigit, 2, (some FieldType.boolean), 1, 1, 0, 9, 0, 0, 0),
  (yX10_init, cX10_init, 1, (none : Option FieldType), 0, 2, 2, 10, 0, 0, 0),
  (yX10_ask, cX10_ask, 6, (some FieldType.int), 4, 1, 0, 10, 0, 0, 0),
  (yX10_bodyAt, cX10_bodyAt, 2, (some FieldType.int), 1, 1, 0, 10, 0, 0, 0),
  (yX10_say, cX10_say, 7, (some FieldType.int), 4, 1, 0, 10, 0, 0, 0),
  (yX10_bodyOf, cX10_bodyOf, 3, (some FieldType.int), 2, 0, 0, 10, 0, 0, 0),
  (yX10_workOut, cX10_workOut, 4, (some FieldType.int), 3, 1, 0, 10, 0, 0, 0),
  (yX10_shareOut, cX10_shareOut, 3, (some FieldType.int), 1, 1, 0, 10, 0, 0, 0),
  (yX11_init, cX11_init, 2, (none : Option FieldType), 0, 2, 234, 11, 0, 0, 0),
  (yX11_piece, cX11_piece, 9, (some FieldType.int), 5, 1, 0, 11, 0, 0, 0),
  (yX11_pieceIs, cX11_pieceIs, 4, (some FieldType.int), 2, 1, 0, 11, 0, 0, 0),
  (yX11_as, cX11_as, 4, (some FieldType.int), 2, 1, 0, 11, 0, 0, 0),
  (yX11_answer, cX11_answer, 4, (some FieldType.int), 2, 1, 0, 11, 0, 0, 0)]
def mInfo_3 : List mE := [
  (yX11_trace, cX11_trace, 7, (some FieldType.int), 3, 1, 0, 11, 0, 0, 0),
  (yX11_reading, cX11_reading, 5, (some FieldType.int), 3, 1, 0, 11, 0, 0, 0),
  (yX11_limit, cX11_limit, 4, (some FieldType.int), 2, 1, 0, 11, 0, 0, 0),
  (yX11_feed, cX11_feed, 5, (some FieldType.int), 2, 1, 0, 11, 0, 0, 0),
  (yX11_program, cX11_program, 4, (some FieldType.int), 1, 1, 0, 11, 0, 0, 0),
  (yX11_run, cX11_run, 5, (some FieldType.int), 2, 1, 0, 11, 0, 0, 0),
  (yX11_ran, cX11_ran, 2, (some FieldType.int), 1, 1, 0, 11, 0, 0, 0),
  (yX11_line, cX11_line, 5, (some FieldType.int), 2, 1, 0, 11, 0, 0, 0),
  (yX11_yields, cX11_yields, 4, (some FieldType.int), 2, 1, 0, 11, 0, 0, 0),
  (yX11_top, cX11_top, 3, (some FieldType.int), 1, 1, 0, 11, 0, 0, 0),
  (yX11_breaks, cX11_breaks, 4, (some FieldType.int), 2, 1, 0, 11, 0, 0, 0),
  (yX11_spent, cX11_spent, 4, (some FieldType.long), 2, 1, 0, 11, 0, 0, 0),
  (yX11_number, cX11_number, 4, (some FieldType.int), 2, 1, 0, 11, 0, 0, 0),
  (yX11_curve, cX11_curve, 5, (some FieldType.int), 3, 1, 0, 11, 0, 0, 0),
  (yX11_odd, cX11_odd, 4, (some FieldType.int), 3, 1, 0, 11, 0, 0, 0),
  (yX11_sure, cX11_sure, 6, (some FieldType.int), 4, 1, 0, 11, 0, 0, 0),
  (yX11_few, cX11_few, 4, (some FieldType.int), 2, 1, 0, 11, 0, 0, 0),
  (yX11_prove, cX11_prove, 7, (some FieldType.int), 4, 1, 0, 11, 0, 0, 0),
  (yX11_led, cX11_led, 4, (some FieldType.int), 3, 1, 0, 11, 0, 0, 0),
  (yX11_enter, cX11_enter, 4, (some FieldType.int), 3, 1, 0, 11, 0, 0, 0),
  (yX11_entryIs, cX11_entryIs, 4, (some FieldType.int), 2, 1, 0, 11, 0, 0, 0),
  (yX11_back, cX11_back, 3, (some FieldType.int), 2, 1, 0, 11, 0, 0, 0),
  (yX11_book, cX11_book, 3, (some FieldType.int), 2, 1, 0, 11, 0, 0, 0),
  (yX11_hangs, cX11_hangs, 2, (some FieldType.int), 1, 1, 0, 11, 0, 0, 0),
  (yX11_plates, cX11_plates, 5, (some FieldType.int), 3, 1, 0, 11, 0, 0, 0),
  (yX11_drift, cX11_drift, 5, (some FieldType.int), 1, 1, 0, 11, 0, 0, 0),
  (yX11_voice, cX11_voice, 6, (some FieldType.int), 3, 1, 0, 11, 0, 0, 0),
  (yX11_body, cX11_body, 2, (some FieldType.int), 1, 1, 0, 11, 0, 0, 0),
  (yX11_sheet, cX11_sheet, 5, (some FieldType.int), 3, 1, 0, 11, 0, 0, 0),
  (yX11_put, cX11_put, 5, (some FieldType.int), 3, 1, 0, 11, 0, 0, 0),
  (yX11_move, cX11_move, 8, (some FieldType.int), 5, 1, 0, 11, 0, 0, 0),
  (yX11_image, cX11_image, 1, (some FieldType.int), 0, 1, 0, 11, 0, 0, 0),
  (yX11_restore, cX11_restore, 1, (some FieldType.int), 0, 1, 0, 11, 0, 0, 0),
  (yX11_tell, cX11_tell, 2, (some FieldType.int), 1, 1, 0, 11, 0, 0, 0),
  (yX11_check, cX11_check, 6, (some FieldType.int), 2, 1, 0, 11, 0, 0, 0),
  (yX11_count, cX11_count, 2, (some FieldType.int), 1, 1, 0, 11, 0, 0, 0),
  (yX11_told, cX11_told, 2, (some FieldType.int), 1, 1, 0, 11, 0, 0, 0),
  (yX11_refuse, cX11_refuse, 2, (some FieldType.int), 1, 1, 0, 11, 0, 0, 0),
  (yX11_orNone, cX11_orNone, 2, (some FieldType.int), 1, 1, 0, 11, 0, 0, 0),
  (yX11_sheetAt, cX11_sheetAt, 2, (some (FieldType.object "StrengthHouse$Sheet")), 1, 1, 0, 11, 0, 0, 0)]
def mInfo_4 : List mE := [
  (yX11_orderCurves, cX11_orderCurves, 6, (none : Option FieldType), 2, 1, 0, 11, 0, 0, 0),
  (yX11_orderNumbers, cX11_orderNumbers, 6, (none : Option FieldType), 2, 1, 0, 11, 0, 0, 0),
  (yX11_fewestPlates, cX11_fewestPlates, 7, (some FieldType.int), 3, 1, 0, 11, 0, 0, 0),
  (yX11_cutOneMore, cX11_cutOneMore, 4, (some FieldType.int), 3, 0, 0, 11, 0, 0, 0),
  (yX11_sumsApart, cX11_sumsApart, 4, (some FieldType.int), 2, 0, 0, 11, 0, 0, 0),
  (yX11_firstUnlike, cX11_firstUnlike, 5, (some FieldType.int), 2, 1, 0, 11, 0, 0, 0),
  (yX11_within, cX11_within, 3, (some FieldType.boolean), 3, 0, 0, 11, 0, 0, 0),
  (yX11_isLot, cX11_isLot, 1, (some FieldType.boolean), 1, 0, 0, 11, 0, 0, 0),
  (yX11_isLaw, cX11_isLaw, 1, (some FieldType.boolean), 1, 0, 0, 11, 0, 0, 0),
  (yX11_isMeter, cX11_isMeter, 1, (some FieldType.boolean), 1, 0, 0, 11, 0, 0, 0),
  (yX11_isStretch, cX11_isStretch, 1, (some FieldType.boolean), 1, 0, 0, 11, 0, 0, 0),
  (yX11_isTenths, cX11_isTenths, 1, (some FieldType.boolean), 1, 0, 0, 11, 0, 0, 0),
  (yX11_straight, cX11_straight, 4, (some FieldType.int), 4, 0, 0, 11, 0, 0, 0),
  (yX12_init, cX12_init, 2, (none : Option FieldType), 0, 2, 18, 12, 0, 0, 0),
  (yX12_finding, cX12_finding, 2, (some FieldType.int), 1, 1, 0, 12, 0, 0, 0),
  (yX12_within, cX12_within, 3, (some FieldType.boolean), 3, 0, 0, 12, 0, 0, 0),
  (yX12_is, cX12_is, 3, (some FieldType.boolean), 2, 1, 0, 12, 0, 0, 0),
  (yX12_has, cX12_has, 2, (some FieldType.boolean), 2, 0, 0, 12, 0, 0, 0),
  (yX12_bits, cX12_bits, 3, (some FieldType.int), 1, 0, 0, 12, 0, 0, 0),
  (yX12_become, cX12_become, 4, (some FieldType.int), 2, 1, 0, 12, 0, 0, 0),
  (yX12_of, cX12_of, 3, (some FieldType.int), 2, 1, 0, 12, 0, 0, 0),
  (yX12_piece, cX12_piece, 10, (some FieldType.int), 5, 1, 0, 12, 0, 0, 0),
  (yX12_many, cX12_many, 2, (some FieldType.int), 1, 1, 0, 12, 0, 0, 0),
  (yX12_stretch, cX12_stretch, 3, (some FieldType.int), 2, 1, 0, 12, 0, 0, 0),
  (yX12_load, cX12_load, 3, (some FieldType.int), 2, 1, 0, 12, 0, 0, 0),
  (yX12_isGood, cX12_isGood, 3, (some FieldType.boolean), 2, 1, 0, 12, 0, 0, 0),
  (yX12_pieceIs, cX12_pieceIs, 5, (some FieldType.int), 2, 1, 0, 12, 0, 0, 0),
  (yX12_above, cX12_above, 1, (some FieldType.int), 1, 0, 0, 12, 0, 0, 0),
  (yX12_as, cX12_as, 4, (some FieldType.int), 2, 1, 0, 12, 0, 0, 0),
  (yX12_end, cX12_end, 2, (some FieldType.int), 1, 1, 0, 12, 0, 0, 0),
  (yX12_answered, cX12_answered, 7, (some FieldType.int), 2, 1, 0, 12, 0, 0, 0),
  (yX12_answer, cX12_answer, 3, (some FieldType.int), 2, 1, 0, 12, 0, 0, 0),
  (yX12_read, cX12_read, 5, (none : Option FieldType), 4, 1, 0, 12, 0, 0, 0),
  (yX12_trace, cX12_trace, 7, (some FieldType.int), 3, 1, 0, 12, 0, 0, 0),
  (yX12_reading, cX12_reading, 4, (some FieldType.int), 3, 1, 0, 12, 0, 0, 0),
  (yX12_limit, cX12_limit, 3, (some FieldType.int), 2, 1, 0, 12, 0, 0, 0),
  (yX12_feed, cX12_feed, 5, (some FieldType.int), 2, 1, 0, 12, 0, 0, 0),
  (yX12_isByte, cX12_isByte, 4, (some FieldType.boolean), 3, 1, 0, 12, 0, 0, 0),
  (yX12_goOn, cX12_goOn, 3, (none : Option FieldType), 0, 1, 0, 12, 0, 0, 0),
  (yX12_takes, cX12_takes, 4, (some FieldType.boolean), 1, 1, 0, 12, 0, 0, 0)]
def mInfo_5 : List mE := [
  (yX12_number, cX12_number, 3, (some FieldType.int), 0, 1, 0, 12, 0, 0, 0),
  (yX12_part, cX12_part, 3, (none : Option FieldType), 0, 1, 0, 12, 0, 0, 0),
  (yX12_isProgram, cX12_isProgram, 2, (some FieldType.boolean), 1, 1, 0, 12, 0, 0, 0),
  (yX12_program, cX12_program, 5, (some FieldType.int), 1, 1, 0, 12, 0, 0, 0),
  (yX12_hasProgram, cX12_hasProgram, 2, (some FieldType.boolean), 1, 1, 0, 12, 0, 0, 0),
  (yX12_loadNow, cX12_loadNow, 1, (some FieldType.int), 0, 1, 0, 12, 0, 0, 0),
  (yX12_tick, cX12_tick, 1, (none : Option FieldType), 0, 1, 0, 12, 0, 0, 0),
  (yX12_goesOn, cX12_goesOn, 1, (some FieldType.boolean), 0, 1, 0, 12, 0, 0, 0),
  (yX12_takeReading, cX12_takeReading, 4, (none : Option FieldType), 0, 1, 0, 12, 0, 0, 0),
  (yX12_does, cX12_does, 5, (none : Option FieldType), 2, 1, 0, 12, 0, 0, 0),
  (yX12_goThrough, cX12_goThrough, 6, (some FieldType.int), 2, 1, 0, 12, 0, 0, 0),
  (yX12_run, cX12_run, 5, (some FieldType.int), 2, 1, 0, 12, 0, 0, 0),
  (yX12_ran, cX12_ran, 2, (some FieldType.int), 1, 1, 0, 12, 0, 0, 0),
  (yX12_isOn, cX12_isOn, 9, (some FieldType.boolean), 4, 1, 0, 12, 0, 0, 0),
  (yX12_findLine, cX12_findLine, 6, (some FieldType.boolean), 1, 1, 0, 12, 0, 0, 0),
  (yX12_line, cX12_line, 3, (some FieldType.int), 2, 1, 0, 12, 0, 0, 0),
  (yX12_yieldOf, cX12_yieldOf, 10, (some FieldType.int), 2, 1, 0, 12, 0, 0, 0),
  (yX12_yields, cX12_yields, 4, (some FieldType.int), 2, 1, 0, 12, 0, 0, 0),
  (yX12_topOf, cX12_topOf, 4, (some FieldType.int), 1, 1, 0, 12, 0, 0, 0),
  (yX12_top, cX12_top, 3, (some FieldType.int), 1, 1, 0, 12, 0, 0, 0),
  (yX12_breakOf, cX12_breakOf, 5, (some FieldType.int), 2, 1, 0, 12, 0, 0, 0),
  (yX12_breaks, cX12_breaks, 4, (some FieldType.int), 2, 1, 0, 12, 0, 0, 0),
  (yX12_spentOf, cX12_spentOf, 7, (some FieldType.long), 2, 1, 0, 12, 0, 0, 0),
  (yX12_spent, cX12_spent, 3, (some FieldType.long), 2, 1, 0, 12, 0, 0, 0),
  (yX12_numberOf, cX12_numberOf, 5, (some FieldType.int), 2, 1, 0, 12, 0, 0, 0),
  (yX12_isLaw, cX12_isLaw, 1, (some FieldType.boolean), 1, 0, 0, 12, 0, 0, 0),
  (yX12_number_, cX12_number_, 4, (some FieldType.int), 2, 1, 0, 12, 0, 0, 0),
  (yX12_adds, cX12_adds, 4, (none : Option FieldType), 2, 1, 0, 12, 0, 0, 0),
  (yX12_curveOf, cX12_curveOf, 8, (some FieldType.int), 2, 1, 0, 12, 0, 0, 0),
  (yX12_isLot, cX12_isLot, 1, (some FieldType.boolean), 1, 0, 0, 12, 0, 0, 0),
  (yX12_curve, cX12_curve, 6, (some FieldType.int), 3, 1, 0, 12, 0, 0, 0),
  (yX12_findNumbers, cX12_findNumbers, 5, (none : Option FieldType), 2, 1, 0, 12, 0, 0, 0),
  (yX12_odd, cX12_odd, 7, (some FieldType.int), 3, 1, 0, 12, 0, 0, 0),
  (yX12_rankOf, cX12_rankOf, 12, (some FieldType.int), 3, 0, 0, 12, 0, 0, 0),
  (yX12_areTenths, cX12_areTenths, 2, (some FieldType.boolean), 2, 0, 0, 12, 0, 0, 0),
  (yX12_sure, cX12_sure, 6, (some FieldType.int), 4, 1, 0, 12, 0, 0, 0),
  (yX12_few, cX12_few, 4, (some FieldType.int), 2, 1, 0, 12, 0, 0, 0),
  (yX12_isMeter, cX12_isMeter, 1, (some FieldType.boolean), 1, 0, 0, 12, 0, 0, 0),
  (yX12_meter, cX12_meter, 3, (some FieldType.int), 2, 1, 0, 12, 0, 0, 0),
  (yX12_prove, cX12_prove, 6, (some FieldType.int), 4, 1, 0, 12, 0, 0, 0)]
def mInfo_6 : List mE := [
  (yX12_ledOf, cX12_ledOf, 6, (some FieldType.int), 2, 1, 0, 12, 0, 0, 0),
  (yX12_led, cX12_led, 7, (some FieldType.int), 3, 1, 0, 12, 0, 0, 0),
  (yX12_entry, cX12_entry, 3, (some FieldType.int), 2, 1, 0, 12, 0, 0, 0),
  (yX12_enter, cX12_enter, 7, (some FieldType.int), 3, 1, 0, 12, 0, 0, 0),
  (yX12_entryIs, cX12_entryIs, 4, (some FieldType.int), 2, 1, 0, 12, 0, 0, 0),
  (yX12_back, cX12_back, 4, (some FieldType.int), 2, 1, 0, 12, 0, 0, 0),
  (yX12_book, cX12_book, 5, (some FieldType.int), 2, 1, 0, 12, 0, 0, 0),
  (yX12_hangs, cX12_hangs, 5, (some FieldType.int), 1, 1, 0, 12, 0, 0, 0),
  (yX12_plates, cX12_plates, 13, (some FieldType.int), 3, 1, 0, 12, 0, 0, 0),
  (yX12_drift, cX12_drift, 7, (some FieldType.int), 1, 1, 0, 12, 0, 0, 0),
  (yX12_began, cX12_began, 2, (none : Option FieldType), 1, 1, 0, 12, 0, 0, 0),
  (yX12_hasOwn, cX12_hasOwn, 2, (some FieldType.boolean), 2, 0, 0, 12, 0, 0, 0),
  (yX12_voiced, cX12_voiced, 3, (some FieldType.int), 2, 1, 0, 12, 0, 0, 0),
  (yX12_bodyFrom, cX12_bodyFrom, 5, (some FieldType.int), 3, 1, 0, 12, 0, 0, 0),
  (yX12_body, cX12_body, 6, (some FieldType.int), 3, 1, 0, 12, 0, 0, 0),
  (yX12_voice, cX12_voice, 5, (some FieldType.int), 3, 1, 0, 12, 0, 0, 0),
  (yX12_body_, cX12_body_, 2, (some FieldType.int), 1, 1, 0, 12, 0, 0, 0),
  (yX12_isSheet, cX12_isSheet, 1, (some FieldType.boolean), 1, 0, 0, 12, 0, 0, 0),
  (yX12_sheet, cX12_sheet, 5, (some FieldType.int), 3, 1, 0, 12, 0, 0, 0),
  (yX12_put, cX12_put, 4, (some FieldType.int), 3, 1, 0, 12, 0, 0, 0),
  (yX12_move, cX12_move, 7, (some FieldType.int), 5, 1, 0, 12, 0, 0, 0),
  (yX12_copy, cX12_copy, 3, (none : Option FieldType), 2, 0, 0, 12, 0, 0, 0),
  (yX12_image, cX12_image, 1, (some FieldType.int), 0, 1, 0, 12, 0, 0, 0),
  (yX12_restore, cX12_restore, 1, (some FieldType.int), 0, 1, 0, 12, 0, 0, 0),
  (yX12_tell, cX12_tell, 2, (some FieldType.int), 1, 1, 0, 12, 0, 0, 0),
  (yX12_check, cX12_check, 6, (some FieldType.int), 2, 1, 0, 12, 0, 0, 0),
  (yX12_count, cX12_count, 4, (some FieldType.int), 1, 1, 0, 12, 0, 0, 0),
  (yX12_told, cX12_told, 2, (some FieldType.int), 1, 1, 0, 12, 0, 0, 0),
  (yJ6_bitCount_0f7a4, cJ6_bitCount_0f7a4, 1, (some FieldType.int), 1, 0, 0, 17, 0, 0, 0),
  (yJ9_floorMod_7cf53, cJ9_floorMod_7cf53, 3, (some FieldType.int), 2, 0, 0, 18, 0, 0, 0),
  (yJ9_abs_0f7a4, cJ9_abs_0f7a4, 1, (some FieldType.int), 1, 0, 0, 18, 0, 0, 0),
  (yJ9_max_7cf53, cJ9_max_7cf53, 2, (some FieldType.int), 2, 0, 0, 18, 0, 0, 0),
  (yJ9_min_7cf53, cJ9_min_7cf53, 2, (some FieldType.int), 2, 0, 0, 18, 0, 0, 0),
  (yJ9_min_f86c9, cJ9_min_f86c9, 4, (some FieldType.long), 2, 0, 0, 18, 0, 0, 0),
  (yJ0_length_8abf5, cJ0_length_8abf5, 1, (some FieldType.int), 0, 1, 0, 14, 0, 0, 0),
  (yJ0_charAt_5068e, cJ0_charAt_5068e, 2, (some FieldType.char), 1, 1, 0, 14, 0, 0, 0),
  (yJ0_coder_7d493, cJ0_coder_7d493, 1, (some FieldType.byte), 0, 1, 0, 14, 0, 0, 0),
  (yJ0_isLatin1_aae02, cJ0_isLatin1_aae02, 1, (some FieldType.boolean), 0, 1, 0, 14, 0, 0, 0),
  (yJ0_checkIndex_df160, cJ0_checkIndex_df160, 2, (none : Option FieldType), 2, 0, 0, 14, 0, 0, 0),
  (yJ1_charAt_3b067, cJ1_charAt_3b067, 2, (some FieldType.char), 2, 0, 0, 15, 0, 0, 0)]
def mInfo_7 : List mE := [
  (yJ3_checkIndex_8e157, cJ3_checkIndex_8e157, 3, (some FieldType.int), 3, 0, 0, 16, 0, 0, 0),
  (x, code, 4, ret, 1, 0, 254, 13, 0, 0, 0)]
def mInfo : List mE := mInfo_0 ++ (mInfo_1 ++ (mInfo_2 ++ (mInfo_3 ++ (mInfo_4 ++ (mInfo_5 ++ (mInfo_6 ++ (mInfo_7)))))))
def mDef : mE := (x, code, 4, ret, 1, 0, 254, 13, 0, 0, 0)
def mI (k : Nat) : mE := mInfo.getD k mDef
def mY (k : Nat) : MethodName := (mI k).1
def mB (k : Nat) : ByteArray := (mI k).2.1
def mL (k : Nat) : Nat := (mI k).2.2.1
def mR (k : Nat) : Option FieldType := (mI k).2.2.2.1
def mN (k : Nat) : Nat := (mI k).2.2.2.2.1
def mK (k : Nat) : Nat := (mI k).2.2.2.2.2.1
def alc (k : Nat) : Nat := (mI k).2.2.2.2.2.2.1
def mO (k : Nat) : Nat := (mI k).2.2.2.2.2.2.2.1
def layT : List (List (Nat × Nat)) := [[(11, 11), (8, 12), (205, 14), (206, 4), (100, 5), (101, 64), (100, 4), (2, 4), (100, 6), (100, 6), (100, 6), (100, 6), (0, 7), (100, 20), (100, 20), (100, 20)],
  [(100, 20), (100, 20), (100, 20), (100, 48), (4, 6), (100, 12), (6, 6), (100, 24), (100, 24), (4, 6), (100, 12), (6, 6), (100, 24), (100, 24), (4, 6), (100, 12)],
  [(6, 6), (100, 24), (100, 24), (4, 6), (100, 12), (6, 6), (100, 24), (100, 24), (4, 6), (100, 12), (6, 6), (100, 24), (100, 24), (4, 6), (100, 12), (6, 6)],
  [(100, 24), (100, 24), (4, 6), (100, 12), (6, 6), (100, 24), (100, 24), (4, 6), (100, 12), (6, 6), (100, 24), (100, 24), (4, 6), (100, 12), (6, 6), (100, 24)],
  [(100, 24), (4, 6), (100, 12), (6, 6), (100, 24), (100, 24), (4, 6), (100, 12), (6, 6), (100, 24), (100, 24), (4, 6), (100, 12), (6, 6), (100, 24), (100, 24)],
  [(4, 6), (100, 12), (6, 6), (100, 24), (100, 24), (4, 6), (100, 12), (6, 6), (100, 24), (100, 24), (5, 5), (100, 32), (100, 32), (5, 5), (100, 32), (100, 32)],
  [(5, 5), (100, 32), (100, 32), (5, 5), (100, 32), (100, 32), (8, 12), (205, 14), (206, 4), (100, 5), (101, 64), (100, 4), (2, 4), (100, 6), (100, 6), (100, 6)],
  [(100, 6), (0, 7), (100, 20), (100, 20), (100, 20), (100, 20), (100, 20), (100, 20), (100, 48), (4, 6), (100, 12), (6, 6), (100, 24), (100, 24), (4, 6), (100, 12)],
  [(6, 6), (100, 24), (100, 24), (4, 6), (100, 12), (6, 6), (100, 24), (100, 24), (4, 6), (100, 12), (6, 6), (100, 24), (100, 24), (4, 6), (100, 12), (6, 6)],
  [(100, 24), (100, 24), (4, 6), (100, 12), (6, 6), (100, 24), (100, 24), (4, 6), (100, 12), (6, 6), (100, 24), (100, 24), (4, 6), (100, 12), (6, 6), (100, 24)],
  [(100, 24), (4, 6), (100, 12), (6, 6), (100, 24), (100, 24), (4, 6), (100, 12), (6, 6), (100, 24), (100, 24), (4, 6), (100, 12), (6, 6), (100, 24), (100, 24)],
  [(4, 6), (100, 12), (6, 6), (100, 24), (100, 24), (4, 6), (100, 12), (6, 6), (100, 24), (100, 24), (4, 6), (100, 12), (6, 6), (100, 24), (100, 24), (5, 5)],
  [(100, 32), (100, 32), (5, 5), (100, 32), (100, 32), (5, 5), (100, 32), (100, 32), (5, 5), (100, 32), (100, 32), (100, 7), (208, 4), (10, 8), (100, 30), (100, 30)],
  [(1, 15), (100, 6), (6, 6), (100, 24), (100, 24), (4, 6), (100, 12), (6, 6), (100, 24), (100, 24), (9, 4), (101, 0), (5, 5), (100, 32), (100, 32), (3, 3)],
  [(100, 14), (100, 14), (100, 1024), (7, 3), (100, 24), (7, 3), (100, 24), (7, 3), (100, 24), (7, 3), (100, 24), (12, 38), (100, 1340), (100, 1340), (100, 7), (100, 5)],
  [(299, 6), (100, 36), (100, 8), (100, 24), (100, 24), (100, 14), (100, 14), (100, 1024), (100, 1024), (100, 30), (100, 4), (100, 4), (100, 96), (100, 24)]]
def layG : List (List (Nat × Nat)) → Nat → List (Nat × Nat)
  | [], _ => []
  | c :: _, 0 => c
  | _ :: t, i + 1 => layG t i
def layH : List (Nat × Nat) → Nat → Nat × Nat
  | [], _ => (999, 0)
  | c :: _, 0 => c
  | _ :: t, i + 1 => layH t i
def lay (k : Nat) : Nat × Nat := layH (layG layT (k / 16)) (k % 16)
abbrev NP : Nat := 254
abbrev NX : Nat := 235
def frT : List (List Bool) := [[true, true, true, true, true, true, false], [true, true, true, false, false, false, false, false, false, false, false, false, false, false, false], [true, true, true, true], [true, true, false], [false, false, false, true, false, true], [false, true, true, false, false], [true, true, false, false, false, false], [false, false, true], [true, false, true, true, true, false, true, false, true, true, true, false], [true, false, false, false], [true, false, true, false, false, false, false, false], [true, true, false, true, true, true, true, true, true, true, true], [true, true, false, true, true, true, false, false, false, false, true, false, false, false, false, false, false, false, false, true, true, true, false, false, false, true, true, false, true, true, true, false, false, false, true, true, true, true]]
def frf (c j : Nat) : Bool := (frT.getD c []).getD j false
def oCs : List String := [RX0, RX1, RX2, RX3, RX4, RX5, RX6, RX7, RX8, RX9, RX10, RX11, RX12, "StrengthHouseLaw", RJ0, RJ1, RJ3, RJ6, RJ9, RJ10]
def oC (o : Nat) : String := oCs.getD o ""
def strL : List Nat := [4, 2, 4, 4, 4, 4, 4, 1, 1, 2, 4, 4, 4, 4, 4, 1, 1, 4]
def strB : List (List Int) := [[108, 97, 115, 116], [103, 111], [108, 111, 97, 100], [104, 111, 108, 100], [98, 97, 99, 107], [114, 101, 97, 100], [116, 105, 108, 108], [44], [59], [103, 111], [108, 111, 97, 100], [104, 111, 108, 100], [98, 97, 99, 107], [114, 101, 97, 100], [116, 105, 108, 108], [44], [59], [108, 97, 115, 116]]
def strO : List (String × Nat × String × Nat) := [("StrengthHouse$TextReader", 42, "last", 690), ("StrengthHouse$TextReader", 71, "go", 754), ("StrengthHouse$TextReader", 73, "load", 755), ("StrengthHouse$TextReader", 75, "hold", 756), ("StrengthHouse$TextReader", 77, "back", 757), ("StrengthHouse$TextReader", 79, "read", 758), ("StrengthHouse$TextReader", 81, "till", 759), ("StrengthHouse$TextReader", 52, ",", 768), ("StrengthHouse$TextReader", 54, ";", 769), ("StrengthHouseModel", 25, "go", 1264), ("StrengthHouseModel", 27, "load", 1265), ("StrengthHouseModel", 29, "hold", 1266), ("StrengthHouseModel", 31, "back", 1267), ("StrengthHouseModel", 33, "read", 1268), ("StrengthHouseModel", 35, "till", 1269), ("StrengthHouseModel", 180, ",", 1508), ("StrengthHouseModel", 182, ";", 1509), ("StrengthHouseModel", 184, "last", 1510)]
def aboveT : List Int := [-1, 0, 0, 1, 0, 2]
def bodiesT : List Int := [10, 11, 12, 13, 0, 20, 21, 0, 30, 0, 0, 31, 40, 0, 41, 0, 0, 0, 50, 0, 0, 60, 0, 61]
end
section
/-! the tables' words in small rows (by program: wip/pm/gen4.py) -/
def nd_0 : List Jvm.Cond := [.selects "StrengthHouse" ⟨"StrengthHouse", "sheetAt", "(I)LStrengthHouse$Sheet;"⟩ ⟨"StrengthHouse", "sheetAt", "(I)LStrengthHouse$Sheet;"⟩,
  .selects "StrengthHouse" ⟨"StrengthHouse", "refuse", "(I)I"⟩ ⟨"StrengthHouse", "refuse", "(I)I"⟩,
  .selects "StrengthHouse$Piece" ⟨"StrengthHouse$Piece", "answerAt", "(I)I"⟩ ⟨"StrengthHouse$Piece", "answerAt", "(I)I"⟩,
  .selects "StrengthHouse$TextReader" ⟨"StrengthHouse$TextReader", "next", "()V"⟩ ⟨"StrengthHouse$TextReader", "next", "()V"⟩,
  .selects "StrengthHouse$TextReader" ⟨"StrengthHouse$TextReader", "byteAt", "(I)I"⟩ ⟨"StrengthHouse$TextReader", "byteAt", "(I)I"⟩,
  .selects "StrengthHouse$TextReader" ⟨"StrengthHouse$TextReader", "isLetter", "(I)Z"⟩ ⟨"StrengthHouse$TextReader", "isLetter", "(I)Z"⟩,
  .selects "StrengthHouse$TextReader" ⟨"StrengthHouse$TextReader", "isDigit", "(I)Z"⟩ ⟨"StrengthHouse$TextReader", "isDigit", "(I)Z"⟩,
  .selects "StrengthHouse$TextReader" ⟨"StrengthHouse$TextReader", "isMark", "(Ljava/lang/String;)Z"⟩ ⟨"StrengthHouse$TextReader", "isMark", "(Ljava/lang/String;)Z"⟩,
  .selects "StrengthHouse$TextReader" ⟨"StrengthHouse$TextReader", "readPart", "(LStrengthHouse$Program;Z)Z"⟩ ⟨"StrengthHouse$TextReader", "readPart", "(LStrengthHouse$Program;Z)Z"⟩,
  .selects "StrengthHouse$TextReader" ⟨"StrengthHouse$TextReader", "actHere", "()I"⟩ ⟨"StrengthHouse$TextReader", "actHere", "()I"⟩,
  .selects "StrengthHouse$TextReader" ⟨"StrengthHouse$TextReader", "numberHere", "()I"⟩ ⟨"StrengthHouse$TextReader", "numberHere", "()I"⟩,
  .selects "StrengthHouse$Machine" ⟨"StrengthHouse$Machine", "begin", "(LStrengthHouse$Piece;LStrengthHouse$State;)V"⟩ ⟨"StrengthHouse$Machine", "begin", "(LStrengthHouse$Piece;LStrengthHouse$State;)V"⟩,
  .selects "StrengthHouse$Machine" ⟨"StrengthHouse$Machine", "doPart", "(II)V"⟩ ⟨"StrengthHouse$Machine", "doPart", "(II)V"⟩,
  .selects "StrengthHouse$Machine" ⟨"StrengthHouse$Machine", "isWanted", "(II)Z"⟩ ⟨"StrengthHouse$Machine", "isWanted", "(II)Z"⟩,
  .selects "StrengthHouse$Machine" ⟨"StrengthHouse$Machine", "load", "()I"⟩ ⟨"StrengthHouse$Machine", "load", "()I"⟩,
  .selects "StrengthHouse$Machine" ⟨"StrengthHouse$Machine", "doOnce", "(I)V"⟩ ⟨"StrengthHouse$Machine", "doOnce", "(I)V"⟩]
def nd_1 : List Jvm.Cond := [.selects "StrengthHouse$Machine" ⟨"StrengthHouse$Machine", "moreStretch", "(I)I"⟩ ⟨"StrengthHouse$Machine", "moreStretch", "(I)I"⟩,
  .selects "StrengthHouse$Machine" ⟨"StrengthHouse$Machine", "creeps", "()Z"⟩ ⟨"StrengthHouse$Machine", "creeps", "()Z"⟩,
  .selects "StrengthHouse$Machine" ⟨"StrengthHouse$Machine", "take", "()V"⟩ ⟨"StrengthHouse$Machine", "take", "()V"⟩,
  .selects "StrengthHouse$Machine" ⟨"StrengthHouse$Machine", "askLimits", "(I)V"⟩ ⟨"StrengthHouse$Machine", "askLimits", "(I)V"⟩,
  .selects "StrengthHouse$Readings" ⟨"StrengthHouse$Readings", "tryLine", "(II)V"⟩ ⟨"StrengthHouse$Readings", "tryLine", "(II)V"⟩,
  .selects "StrengthHouse$Readings" ⟨"StrengthHouse$Readings", "belowLine", "(IIII)J"⟩ ⟨"StrengthHouse$Readings", "belowLine", "(IIII)J"⟩,
  .selects "StrengthHouse" ⟨"StrengthHouse", "orNone", "(I)I"⟩ ⟨"StrengthHouse", "orNone", "(I)I"⟩,
  .selects "StrengthHouse$Readings" ⟨"StrengthHouse$Readings", "topAt", "()I"⟩ ⟨"StrengthHouse$Readings", "topAt", "()I"⟩,
  .selects "StrengthHouse$Readings" ⟨"StrengthHouse$Readings", "stretchOr", "(I)I"⟩ ⟨"StrengthHouse$Readings", "stretchOr", "(I)I"⟩,
  .selects "StrengthHouse$Readings" ⟨"StrengthHouse$Readings", "spentBetween", "(II)J"⟩ ⟨"StrengthHouse$Readings", "spentBetween", "(II)J"⟩,
  .selects "StrengthHouse" ⟨"StrengthHouse", "orderCurves", "(II)V"⟩ ⟨"StrengthHouse", "orderCurves", "(II)V"⟩,
  .selects "StrengthHouse" ⟨"StrengthHouse", "orderNumbers", "(II)V"⟩ ⟨"StrengthHouse", "orderNumbers", "(II)V"⟩,
  .selects "StrengthHouse$Order" ⟨"StrengthHouse$Order", "isApart", "(III)Z"⟩ ⟨"StrengthHouse$Order", "isApart", "(III)Z"⟩,
  .selects "StrengthHouse$Meters" ⟨"StrengthHouse$Meters", "ledOnce", "(IJ)J"⟩ ⟨"StrengthHouse$Meters", "ledOnce", "(IJ)J"⟩,
  .selects "StrengthHouse$Meters" ⟨"StrengthHouse$Meters", "otherOf", "(I)I"⟩ ⟨"StrengthHouse$Meters", "otherOf", "(I)I"⟩,
  .selects "StrengthHouse" ⟨"StrengthHouse", "fewestPlates", "(LStrengthHouse$Sheet;II)I"⟩ ⟨"StrengthHouse", "fewestPlates", "(LStrengthHouse$Sheet;II)I"⟩]
def nd_2 : List Jvm.Cond := [.selects "StrengthHouse$Voices" ⟨"StrengthHouse$Voices", "say", "(IIII)I"⟩ ⟨"StrengthHouse$Voices", "say", "(IIII)I"⟩,
  .selects "StrengthHouse$Voices" ⟨"StrengthHouse$Voices", "workOut", "(III)I"⟩ ⟨"StrengthHouse$Voices", "workOut", "(III)I"⟩,
  .selects "StrengthHouse$Voices" ⟨"StrengthHouse$Voices", "shareOut", "(I)I"⟩ ⟨"StrengthHouse$Voices", "shareOut", "(I)I"⟩,
  .selects "StrengthHouse" ⟨"StrengthHouse", "firstUnlike", "(ILStrengthHouse$Readings;)I"⟩ ⟨"StrengthHouse", "firstUnlike", "(ILStrengthHouse$Readings;)I"⟩,
  .selects "StrengthHouseModel" ⟨"StrengthHouseModel", "finding", "(I)I"⟩ ⟨"StrengthHouseModel", "finding", "(I)I"⟩,
  .selects "StrengthHouseModel" ⟨"StrengthHouseModel", "is", "(II)Z"⟩ ⟨"StrengthHouseModel", "is", "(II)Z"⟩,
  .selects "StrengthHouseModel" ⟨"StrengthHouseModel", "many", "(I)I"⟩ ⟨"StrengthHouseModel", "many", "(I)I"⟩,
  .selects "StrengthHouseModel" ⟨"StrengthHouseModel", "of", "(II)I"⟩ ⟨"StrengthHouseModel", "of", "(II)I"⟩,
  .selects "StrengthHouseModel" ⟨"StrengthHouseModel", "isGood", "(II)Z"⟩ ⟨"StrengthHouseModel", "isGood", "(II)Z"⟩,
  .selects "StrengthHouseModel" ⟨"StrengthHouseModel", "load", "(II)I"⟩ ⟨"StrengthHouseModel", "load", "(II)I"⟩,
  .selects "StrengthHouseModel" ⟨"StrengthHouseModel", "answered", "(II)I"⟩ ⟨"StrengthHouseModel", "answered", "(II)I"⟩,
  .selects "StrengthHouseModel" ⟨"StrengthHouseModel", "end", "(I)I"⟩ ⟨"StrengthHouseModel", "end", "(I)I"⟩,
  .selects "StrengthHouseModel" ⟨"StrengthHouseModel", "read", "(IIII)V"⟩ ⟨"StrengthHouseModel", "read", "(IIII)V"⟩,
  .selects "StrengthHouseModel" ⟨"StrengthHouseModel", "stretch", "(II)I"⟩ ⟨"StrengthHouseModel", "stretch", "(II)I"⟩,
  .selects "StrengthHouseModel" ⟨"StrengthHouseModel", "become", "(II)I"⟩ ⟨"StrengthHouseModel", "become", "(II)I"⟩,
  .selects "StrengthHouseModel" ⟨"StrengthHouseModel", "isProgram", "(I)Z"⟩ ⟨"StrengthHouseModel", "isProgram", "(I)Z"⟩]
def nd_3 : List Jvm.Cond := [.selects "StrengthHouseModel" ⟨"StrengthHouseModel", "goOn", "()V"⟩ ⟨"StrengthHouseModel", "goOn", "()V"⟩,
  .selects "StrengthHouseModel" ⟨"StrengthHouseModel", "isByte", "(III)Z"⟩ ⟨"StrengthHouseModel", "isByte", "(III)Z"⟩,
  .selects "StrengthHouseModel" ⟨"StrengthHouseModel", "part", "()V"⟩ ⟨"StrengthHouseModel", "part", "()V"⟩,
  .selects "StrengthHouseModel" ⟨"StrengthHouseModel", "takes", "(Ljava/lang/String;)Z"⟩ ⟨"StrengthHouseModel", "takes", "(Ljava/lang/String;)Z"⟩,
  .selects "StrengthHouseModel" ⟨"StrengthHouseModel", "number", "()I"⟩ ⟨"StrengthHouseModel", "number", "()I"⟩,
  .selects "StrengthHouseModel" ⟨"StrengthHouseModel", "hasProgram", "(I)Z"⟩ ⟨"StrengthHouseModel", "hasProgram", "(I)Z"⟩,
  .selects "StrengthHouseModel" ⟨"StrengthHouseModel", "goThrough", "(II)I"⟩ ⟨"StrengthHouseModel", "goThrough", "(II)I"⟩,
  .selects "StrengthHouseModel" ⟨"StrengthHouseModel", "does", "(II)V"⟩ ⟨"StrengthHouseModel", "does", "(II)V"⟩,
  .selects "StrengthHouseModel" ⟨"StrengthHouseModel", "goesOn", "()Z"⟩ ⟨"StrengthHouseModel", "goesOn", "()Z"⟩,
  .selects "StrengthHouseModel" ⟨"StrengthHouseModel", "loadNow", "()I"⟩ ⟨"StrengthHouseModel", "loadNow", "()I"⟩,
  .selects "StrengthHouseModel" ⟨"StrengthHouseModel", "takeReading", "()V"⟩ ⟨"StrengthHouseModel", "takeReading", "()V"⟩,
  .selects "StrengthHouseModel" ⟨"StrengthHouseModel", "tick", "()V"⟩ ⟨"StrengthHouseModel", "tick", "()V"⟩,
  .selects "StrengthHouseModel" ⟨"StrengthHouseModel", "findLine", "(I)Z"⟩ ⟨"StrengthHouseModel", "findLine", "(I)Z"⟩,
  .selects "StrengthHouseModel" ⟨"StrengthHouseModel", "isOn", "(IIII)Z"⟩ ⟨"StrengthHouseModel", "isOn", "(IIII)Z"⟩,
  .selects "StrengthHouseModel" ⟨"StrengthHouseModel", "yieldOf", "(II)I"⟩ ⟨"StrengthHouseModel", "yieldOf", "(II)I"⟩,
  .selects "StrengthHouseModel" ⟨"StrengthHouseModel", "topOf", "(I)I"⟩ ⟨"StrengthHouseModel", "topOf", "(I)I"⟩]
def nd_4 : List Jvm.Cond := [.selects "StrengthHouseModel" ⟨"StrengthHouseModel", "breakOf", "(II)I"⟩ ⟨"StrengthHouseModel", "breakOf", "(II)I"⟩,
  .selects "StrengthHouseModel" ⟨"StrengthHouseModel", "spentOf", "(II)J"⟩ ⟨"StrengthHouseModel", "spentOf", "(II)J"⟩,
  .selects "StrengthHouseModel" ⟨"StrengthHouseModel", "numberOf", "(II)I"⟩ ⟨"StrengthHouseModel", "numberOf", "(II)I"⟩,
  .selects "StrengthHouseModel" ⟨"StrengthHouseModel", "curveOf", "(II)I"⟩ ⟨"StrengthHouseModel", "curveOf", "(II)I"⟩,
  .selects "StrengthHouseModel" ⟨"StrengthHouseModel", "adds", "(II)V"⟩ ⟨"StrengthHouseModel", "adds", "(II)V"⟩,
  .selects "StrengthHouseModel" ⟨"StrengthHouseModel", "findNumbers", "(II)V"⟩ ⟨"StrengthHouseModel", "findNumbers", "(II)V"⟩,
  .selects "StrengthHouseModel" ⟨"StrengthHouseModel", "meter", "(II)I"⟩ ⟨"StrengthHouseModel", "meter", "(II)I"⟩,
  .selects "StrengthHouseModel" ⟨"StrengthHouseModel", "ledOf", "(II)I"⟩ ⟨"StrengthHouseModel", "ledOf", "(II)I"⟩,
  .selects "StrengthHouseModel" ⟨"StrengthHouseModel", "entry", "(II)I"⟩ ⟨"StrengthHouseModel", "entry", "(II)I"⟩,
  .selects "StrengthHouseModel" ⟨"StrengthHouseModel", "voiced", "(II)I"⟩ ⟨"StrengthHouseModel", "voiced", "(II)I"⟩,
  .selects "StrengthHouseModel" ⟨"StrengthHouseModel", "bodyFrom", "(III)I"⟩ ⟨"StrengthHouseModel", "bodyFrom", "(III)I"⟩,
  .selects "StrengthHouseModel" ⟨"StrengthHouseModel", "body", "(III)I"⟩ ⟨"StrengthHouseModel", "body", "(III)I"⟩,
  .selects "StrengthHouseModel" ⟨"StrengthHouseModel", "began", "(I)V"⟩ ⟨"StrengthHouseModel", "began", "(I)V"⟩]
def nd_5 : List Jvm.Cond := [(Jvm.Cond.initialized "StrengthHouseLaw"),
  (Jvm.Cond.initialized "StrengthHouse"),
  (Jvm.Cond.initialized "StrengthHouse$State"),
  (Jvm.Cond.initialized "StrengthHouse$Meters"),
  (Jvm.Cond.initialized "StrengthHouse$Book"),
  (Jvm.Cond.initialized "StrengthHouse$Piece"),
  (Jvm.Cond.initialized "StrengthHouse$Readings"),
  (Jvm.Cond.initialized "StrengthHouse$Program"),
  (Jvm.Cond.initialized "StrengthHouse$Voices"),
  (Jvm.Cond.initialized "StrengthHouse$Machine"),
  (Jvm.Cond.initialized "StrengthHouse$TextReader"),
  (Jvm.Cond.initialized "StrengthHouse$Order"),
  (Jvm.Cond.initialized "StrengthHouse$Sheet"),
  (Jvm.Cond.initialized "StrengthHouseModel"),
  (Jvm.Cond.initialized "java/lang/Math"),
  (Jvm.Cond.initialized "java/lang/String")]
def nd_6 : List Jvm.Cond := [(Jvm.Cond.initialized "java/lang/StringLatin1"),
  (Jvm.Cond.initialized "jdk/internal/util/Preconditions"),
  (Jvm.Cond.initialized "java/lang/StringUTF16"),
  (Jvm.Cond.initialized "java/lang/System"),
  (Jvm.Cond.initialized "java/lang/Integer"),
  (Jvm.Cond.classLink "StrengthHouseLaw" (7 : Nat) "StrengthHouse"),
  (Jvm.Cond.instantiable "StrengthHouse" (11 : Nat)),
  (Jvm.Cond.methodLink "StrengthHouseLaw" (9 : Nat) ({ cls := "StrengthHouse", name := "<init>", desc := "()V" } : Jvm.MethodName)),
  (Jvm.Cond.instanceMethod ({ cls := "StrengthHouse", name := "<init>", desc := "()V" } : Jvm.MethodName)),
  (Jvm.Cond.code ({ cls := "StrengthHouse", name := "<init>", desc := "()V" } : Jvm.MethodName) prog_1_method_1_code (2 : Nat) (Option.none : Option Jvm.ClassFile.FieldType)),
  (Jvm.Cond.methodLink "StrengthHouse" (1 : Nat) ({ cls := "java/lang/Object", name := "<init>", desc := "()V" } : Jvm.MethodName)),
  (Jvm.Cond.instanceMethod ({ cls := "java/lang/Object", name := "<init>", desc := "()V" } : Jvm.MethodName)),
  (Jvm.Cond.code ({ cls := "java/lang/Object", name := "<init>", desc := "()V" } : Jvm.MethodName) object_method_1_code (1 : Nat) (Option.none : Option Jvm.ClassFile.FieldType)),
  (Jvm.Cond.classLink "StrengthHouse" (7 : Nat) "StrengthHouse$State"),
  (Jvm.Cond.instantiable "StrengthHouse$State" (12 : Nat)),
  (Jvm.Cond.methodLink "StrengthHouse" (9 : Nat) ({ cls := "StrengthHouse$State", name := "<init>", desc := "()V" } : Jvm.MethodName))]
def nd_7 : List Jvm.Cond := [(Jvm.Cond.instanceMethod ({ cls := "StrengthHouse$State", name := "<init>", desc := "()V" } : Jvm.MethodName)),
  (Jvm.Cond.code ({ cls := "StrengthHouse$State", name := "<init>", desc := "()V" } : Jvm.MethodName) prog_10_method_1_code (2 : Nat) (Option.none : Option Jvm.ClassFile.FieldType)),
  (Jvm.Cond.methodLink "StrengthHouse$State" (3 : Nat) ({ cls := "java/lang/Object", name := "<init>", desc := "()V" } : Jvm.MethodName)),
  (Jvm.Cond.classLink "StrengthHouse$State" (9 : Nat) "StrengthHouse$Piece"),
  (Jvm.Cond.arrayOver (Jvm.ClassFile.FieldType.object "StrengthHouse$Piece")),
  (Jvm.Cond.classLink "StrengthHouse$State" (21 : Nat) "StrengthHouse$Program"),
  (Jvm.Cond.arrayOver (Jvm.ClassFile.FieldType.object "StrengthHouse$Program")),
  (Jvm.Cond.constant "StrengthHouse$State" (27 : Nat) (99999 : Int32)),
  (Jvm.Cond.classLink "StrengthHouse$State" (46 : Nat) "StrengthHouse$Meters"),
  (Jvm.Cond.instantiable "StrengthHouse$Meters" (4 : Nat)),
  (Jvm.Cond.methodLinkNest "StrengthHouse$State" (48 : Nat) ({ cls := "StrengthHouse$Meters", name := "<init>", desc := "()V" } : Jvm.MethodName) "StrengthHouse"),
  (Jvm.Cond.instanceMethod ({ cls := "StrengthHouse$Meters", name := "<init>", desc := "()V" } : Jvm.MethodName)),
  (Jvm.Cond.code ({ cls := "StrengthHouse$Meters", name := "<init>", desc := "()V" } : Jvm.MethodName) prog_4_method_1_code (1 : Nat) (Option.none : Option Jvm.ClassFile.FieldType)),
  (Jvm.Cond.methodLink "StrengthHouse$Meters" (3 : Nat) ({ cls := "java/lang/Object", name := "<init>", desc := "()V" } : Jvm.MethodName)),
  (Jvm.Cond.fieldLink "StrengthHouse$Meters" (9 : Nat) "StrengthHouse$Meters" "others" "[I"),
  (Jvm.Cond.fieldLink "StrengthHouse$Meters" (15 : Nat) "StrengthHouse$Meters" "ups" "[I")]
def nd_8 : List Jvm.Cond := [(Jvm.Cond.fieldLink "StrengthHouse$Meters" (18 : Nat) "StrengthHouse$Meters" "downs" "[I"),
  (Jvm.Cond.fieldLink "StrengthHouse$Meters" (21 : Nat) "StrengthHouse$Meters" "doubts" "[I"),
  (Jvm.Cond.laysFinal "StrengthHouse$Meters" "StrengthHouse$Meters" "others" "[I"),
  (Jvm.Cond.soleField "StrengthHouse$Meters" "others"),
  (Jvm.Cond.laysFinal "StrengthHouse$Meters" "StrengthHouse$Meters" "ups" "[I"),
  (Jvm.Cond.soleField "StrengthHouse$Meters" "ups"),
  (Jvm.Cond.laysFinal "StrengthHouse$Meters" "StrengthHouse$Meters" "downs" "[I"),
  (Jvm.Cond.soleField "StrengthHouse$Meters" "downs"),
  (Jvm.Cond.laysFinal "StrengthHouse$Meters" "StrengthHouse$Meters" "doubts" "[I"),
  (Jvm.Cond.soleField "StrengthHouse$Meters" "doubts"),
  (Jvm.Cond.superclass "StrengthHouse$Meters" "java/lang/Object"),
  (Jvm.Cond.arrayClass Jvm.ClassFile.FieldType.int),
  (Jvm.Cond.arrayClass Jvm.ClassFile.FieldType.byte),
  (Jvm.Cond.classLink "StrengthHouse$State" (53 : Nat) "StrengthHouse$Book"),
  (Jvm.Cond.instantiable "StrengthHouse$Book" (7 : Nat)),
  (Jvm.Cond.methodLinkNest "StrengthHouse$State" (55 : Nat) ({ cls := "StrengthHouse$Book", name := "<init>", desc := "()V" } : Jvm.MethodName) "StrengthHouse")]
def nd_9 : List Jvm.Cond := [(Jvm.Cond.instanceMethod ({ cls := "StrengthHouse$Book", name := "<init>", desc := "()V" } : Jvm.MethodName)),
  (Jvm.Cond.code ({ cls := "StrengthHouse$Book", name := "<init>", desc := "()V" } : Jvm.MethodName) prog_2_method_1_code (1 : Nat) (Option.none : Option Jvm.ClassFile.FieldType)),
  (Jvm.Cond.methodLink "StrengthHouse$Book" (3 : Nat) ({ cls := "java/lang/Object", name := "<init>", desc := "()V" } : Jvm.MethodName)),
  (Jvm.Cond.fieldLink "StrengthHouse$Book" (9 : Nat) "StrengthHouse$Book" "lots" "[I"),
  (Jvm.Cond.fieldLink "StrengthHouse$Book" (15 : Nat) "StrengthHouse$Book" "laws" "[I"),
  (Jvm.Cond.fieldLink "StrengthHouse$Book" (18 : Nat) "StrengthHouse$Book" "meters" "[I"),
  (Jvm.Cond.fieldLinkNest "StrengthHouse" (319 : Nat) "StrengthHouse$Book" "meters" "[I" "StrengthHouse"),
  (Jvm.Cond.fieldLink "StrengthHouse$Book" (21 : Nat) "StrengthHouse$Book" "greatest" "[I"),
  (Jvm.Cond.fieldLinkNest "StrengthHouse" (313 : Nat) "StrengthHouse$Book" "greatest" "[I" "StrengthHouse"),
  (Jvm.Cond.fieldLink "StrengthHouse$Book" (24 : Nat) "StrengthHouse$Book" "pieceBits" "[I"),
  (Jvm.Cond.fieldLinkNest "StrengthHouse" (316 : Nat) "StrengthHouse$Book" "pieceBits" "[I" "StrengthHouse"),
  (Jvm.Cond.fieldLink "StrengthHouse$Book" (27 : Nat) "StrengthHouse$Book" "takenBackBy" "[I"),
  (Jvm.Cond.fieldLinkNest "StrengthHouse" (321 : Nat) "StrengthHouse$Book" "takenBackBy" "[I" "StrengthHouse"),
  (Jvm.Cond.fieldLink "StrengthHouse$Book" (30 : Nat) "StrengthHouse$Book" "size" "I"),
  (Jvm.Cond.fieldLinkNest "StrengthHouse" (304 : Nat) "StrengthHouse$Book" "size" "I" "StrengthHouse"),
  (Jvm.Cond.laysFinal "StrengthHouse$Book" "StrengthHouse$Book" "lots" "[I")]
def nd_10 : List Jvm.Cond := [(Jvm.Cond.soleField "StrengthHouse$Book" "lots"),
  (Jvm.Cond.laysFinal "StrengthHouse$Book" "StrengthHouse$Book" "laws" "[I"),
  (Jvm.Cond.soleField "StrengthHouse$Book" "laws"),
  (Jvm.Cond.laysFinal "StrengthHouse$Book" "StrengthHouse$Book" "meters" "[I"),
  (Jvm.Cond.soleField "StrengthHouse$Book" "meters"),
  (Jvm.Cond.laysFinal "StrengthHouse$Book" "StrengthHouse$Book" "greatest" "[I"),
  (Jvm.Cond.soleField "StrengthHouse$Book" "greatest"),
  (Jvm.Cond.laysFinal "StrengthHouse$Book" "StrengthHouse$Book" "pieceBits" "[I"),
  (Jvm.Cond.soleField "StrengthHouse$Book" "pieceBits"),
  (Jvm.Cond.laysFinal "StrengthHouse$Book" "StrengthHouse$Book" "takenBackBy" "[I"),
  (Jvm.Cond.soleField "StrengthHouse$Book" "takenBackBy"),
  (Jvm.Cond.lays "StrengthHouse$Book" "StrengthHouse$Book" "size" "I"),
  (Jvm.Cond.soleField "StrengthHouse$Book" "size"),
  (Jvm.Cond.superclass "StrengthHouse$Book" "java/lang/Object"),
  (Jvm.Cond.instantiable "StrengthHouse$Piece" (6 : Nat)),
  (Jvm.Cond.methodLinkNest "StrengthHouse$State" (66 : Nat) ({ cls := "StrengthHouse$Piece", name := "<init>", desc := "()V" } : Jvm.MethodName) "StrengthHouse")]
def nd_11 : List Jvm.Cond := [(Jvm.Cond.instanceMethod ({ cls := "StrengthHouse$Piece", name := "<init>", desc := "()V" } : Jvm.MethodName)),
  (Jvm.Cond.code ({ cls := "StrengthHouse$Piece", name := "<init>", desc := "()V" } : Jvm.MethodName) prog_6_method_1_code (1 : Nat) (Option.none : Option Jvm.ClassFile.FieldType)),
  (Jvm.Cond.methodLink "StrengthHouse$Piece" (3 : Nat) ({ cls := "java/lang/Object", name := "<init>", desc := "()V" } : Jvm.MethodName)),
  (Jvm.Cond.classLink "StrengthHouse$Piece" (28 : Nat) "StrengthHouse$Readings"),
  (Jvm.Cond.instantiable "StrengthHouse$Readings" (6 : Nat)),
  (Jvm.Cond.methodLinkNest "StrengthHouse$Piece" (30 : Nat) ({ cls := "StrengthHouse$Readings", name := "<init>", desc := "()V" } : Jvm.MethodName) "StrengthHouse"),
  (Jvm.Cond.instanceMethod ({ cls := "StrengthHouse$Readings", name := "<init>", desc := "()V" } : Jvm.MethodName)),
  (Jvm.Cond.code ({ cls := "StrengthHouse$Readings", name := "<init>", desc := "()V" } : Jvm.MethodName) prog_8_method_1_code (1 : Nat) (Option.none : Option Jvm.ClassFile.FieldType)),
  (Jvm.Cond.methodLink "StrengthHouse$Readings" (3 : Nat) ({ cls := "java/lang/Object", name := "<init>", desc := "()V" } : Jvm.MethodName)),
  (Jvm.Cond.fieldLink "StrengthHouse$Readings" (9 : Nat) "StrengthHouse$Readings" "stretches" "[I"),
  (Jvm.Cond.fieldLink "StrengthHouse$Readings" (15 : Nat) "StrengthHouse$Readings" "loads" "[I"),
  (Jvm.Cond.fieldLink "StrengthHouse$Readings" (18 : Nat) "StrengthHouse$Readings" "size" "I"),
  (Jvm.Cond.fieldLinkNest "StrengthHouse" (136 : Nat) "StrengthHouse$Readings" "size" "I" "StrengthHouse"),
  (Jvm.Cond.fieldLinkNest "StrengthHouse$State" (75 : Nat) "StrengthHouse$Readings" "size" "I" "StrengthHouse"),
  (Jvm.Cond.fieldLinkNest "StrengthHouse$Machine" (145 : Nat) "StrengthHouse$Readings" "size" "I" "StrengthHouse"),
  (Jvm.Cond.fieldLink "StrengthHouse$Readings" (22 : Nat) "StrengthHouse$Readings" "lineFirst" "I")]
def nd_12 : List Jvm.Cond := [(Jvm.Cond.fieldLinkNest "StrengthHouse" (234 : Nat) "StrengthHouse$Readings" "lineFirst" "I" "StrengthHouse"),
  (Jvm.Cond.fieldLink "StrengthHouse$Readings" (25 : Nat) "StrengthHouse$Readings" "lineSecond" "I"),
  (Jvm.Cond.fieldLinkNest "StrengthHouse" (237 : Nat) "StrengthHouse$Readings" "lineSecond" "I" "StrengthHouse"),
  (Jvm.Cond.fieldLink "StrengthHouse$Readings" (28 : Nat) "StrengthHouse$Readings" "lineCount" "I"),
  (Jvm.Cond.fieldLinkNest "StrengthHouse" (231 : Nat) "StrengthHouse$Readings" "lineCount" "I" "StrengthHouse"),
  (Jvm.Cond.laysFinal "StrengthHouse$Readings" "StrengthHouse$Readings" "stretches" "[I"),
  (Jvm.Cond.soleField "StrengthHouse$Readings" "stretches"),
  (Jvm.Cond.laysFinal "StrengthHouse$Readings" "StrengthHouse$Readings" "loads" "[I"),
  (Jvm.Cond.soleField "StrengthHouse$Readings" "loads"),
  (Jvm.Cond.lays "StrengthHouse$Readings" "StrengthHouse$Readings" "size" "I"),
  (Jvm.Cond.soleField "StrengthHouse$Readings" "size"),
  (Jvm.Cond.lays "StrengthHouse$Readings" "StrengthHouse$Readings" "lineFirst" "I"),
  (Jvm.Cond.soleField "StrengthHouse$Readings" "lineFirst"),
  (Jvm.Cond.lays "StrengthHouse$Readings" "StrengthHouse$Readings" "lineSecond" "I"),
  (Jvm.Cond.soleField "StrengthHouse$Readings" "lineSecond"),
  (Jvm.Cond.lays "StrengthHouse$Readings" "StrengthHouse$Readings" "lineCount" "I")]
def nd_13 : List Jvm.Cond := [(Jvm.Cond.soleField "StrengthHouse$Readings" "lineCount"),
  (Jvm.Cond.superclass "StrengthHouse$Readings" "java/lang/Object"),
  (Jvm.Cond.fieldLink "StrengthHouse$Piece" (9 : Nat) "StrengthHouse$Piece" "kind" "I"),
  (Jvm.Cond.fieldLinkNest "StrengthHouse$Voices" (38 : Nat) "StrengthHouse$Piece" "kind" "I" "StrengthHouse"),
  (Jvm.Cond.fieldLinkNest "StrengthHouse" (120 : Nat) "StrengthHouse$Piece" "kind" "I" "StrengthHouse"),
  (Jvm.Cond.fieldLink "StrengthHouse$Piece" (15 : Nat) "StrengthHouse$Piece" "lot" "I"),
  (Jvm.Cond.fieldLinkNest "StrengthHouse" (123 : Nat) "StrengthHouse$Piece" "lot" "I" "StrengthHouse"),
  (Jvm.Cond.fieldLink "StrengthHouse$Piece" (18 : Nat) "StrengthHouse$Piece" "size" "I"),
  (Jvm.Cond.fieldLinkNest "StrengthHouse$Voices" (41 : Nat) "StrengthHouse$Piece" "size" "I" "StrengthHouse"),
  (Jvm.Cond.fieldLinkNest "StrengthHouse" (126 : Nat) "StrengthHouse$Piece" "size" "I" "StrengthHouse"),
  (Jvm.Cond.fieldLink "StrengthHouse$Piece" (21 : Nat) "StrengthHouse$Piece" "answers" "[I"),
  (Jvm.Cond.fieldLink "StrengthHouse$Piece" (25 : Nat) "StrengthHouse$Piece" "answerCount" "I"),
  (Jvm.Cond.fieldLinkNest "StrengthHouse" (129 : Nat) "StrengthHouse$Piece" "answerCount" "I" "StrengthHouse"),
  (Jvm.Cond.fieldLink "StrengthHouse$Piece" (31 : Nat) "StrengthHouse$Piece" "readings" "LStrengthHouse$Readings;"),
  (Jvm.Cond.fieldLinkNest "StrengthHouse" (132 : Nat) "StrengthHouse$Piece" "readings" "LStrengthHouse$Readings;" "StrengthHouse"),
  (Jvm.Cond.fieldLinkNest "StrengthHouse$State" (71 : Nat) "StrengthHouse$Piece" "readings" "LStrengthHouse$Readings;" "StrengthHouse")]
def nd_14 : List Jvm.Cond := [(Jvm.Cond.lays "StrengthHouse$Piece" "StrengthHouse$Piece" "kind" "I"),
  (Jvm.Cond.soleField "StrengthHouse$Piece" "kind"),
  (Jvm.Cond.lays "StrengthHouse$Piece" "StrengthHouse$Piece" "lot" "I"),
  (Jvm.Cond.soleField "StrengthHouse$Piece" "lot"),
  (Jvm.Cond.lays "StrengthHouse$Piece" "StrengthHouse$Piece" "size" "I"),
  (Jvm.Cond.soleField "StrengthHouse$Piece" "size"),
  (Jvm.Cond.laysFinal "StrengthHouse$Piece" "StrengthHouse$Piece" "answers" "[I"),
  (Jvm.Cond.soleField "StrengthHouse$Piece" "answers"),
  (Jvm.Cond.lays "StrengthHouse$Piece" "StrengthHouse$Piece" "answerCount" "I"),
  (Jvm.Cond.soleField "StrengthHouse$Piece" "answerCount"),
  (Jvm.Cond.laysFinal "StrengthHouse$Piece" "StrengthHouse$Piece" "readings" "LStrengthHouse$Readings;"),
  (Jvm.Cond.soleField "StrengthHouse$Piece" "readings"),
  (Jvm.Cond.superclass "StrengthHouse$Piece" "java/lang/Object"),
  (Jvm.Cond.instantiable "StrengthHouse$Program" (5 : Nat)),
  (Jvm.Cond.methodLinkNest "StrengthHouse$State" (67 : Nat) ({ cls := "StrengthHouse$Program", name := "<init>", desc := "()V" } : Jvm.MethodName) "StrengthHouse"),
  (Jvm.Cond.instanceMethod ({ cls := "StrengthHouse$Program", name := "<init>", desc := "()V" } : Jvm.MethodName))]
def nd_15 : List Jvm.Cond := [(Jvm.Cond.code ({ cls := "StrengthHouse$Program", name := "<init>", desc := "()V" } : Jvm.MethodName) prog_7_method_1_code (1 : Nat) (Option.none : Option Jvm.ClassFile.FieldType)),
  (Jvm.Cond.methodLink "StrengthHouse$Program" (3 : Nat) ({ cls := "java/lang/Object", name := "<init>", desc := "()V" } : Jvm.MethodName)),
  (Jvm.Cond.fieldLink "StrengthHouse$Program" (9 : Nat) "StrengthHouse$Program" "there" "Z"),
  (Jvm.Cond.fieldLinkNest "StrengthHouse$State" (68 : Nat) "StrengthHouse$Program" "there" "Z" "StrengthHouse"),
  (Jvm.Cond.fieldLinkNest "StrengthHouse" (198 : Nat) "StrengthHouse$Program" "there" "Z" "StrengthHouse"),
  (Jvm.Cond.fieldLink "StrengthHouse$Program" (15 : Nat) "StrengthHouse$Program" "acts" "[I"),
  (Jvm.Cond.fieldLink "StrengthHouse$Program" (19 : Nat) "StrengthHouse$Program" "amounts" "[I"),
  (Jvm.Cond.fieldLink "StrengthHouse$Program" (22 : Nat) "StrengthHouse$Program" "firsts" "I"),
  (Jvm.Cond.fieldLinkNest "StrengthHouse$Machine" (71 : Nat) "StrengthHouse$Program" "firsts" "I" "StrengthHouse"),
  (Jvm.Cond.fieldLink "StrengthHouse$Program" (26 : Nat) "StrengthHouse$Program" "count" "I"),
  (Jvm.Cond.fieldLinkNest "StrengthHouse$Machine" (87 : Nat) "StrengthHouse$Program" "count" "I" "StrengthHouse"),
  (Jvm.Cond.fieldLinkNest "StrengthHouse" (202 : Nat) "StrengthHouse$Program" "count" "I" "StrengthHouse"),
  (Jvm.Cond.lays "StrengthHouse$Program" "StrengthHouse$Program" "there" "Z"),
  (Jvm.Cond.soleField "StrengthHouse$Program" "there"),
  (Jvm.Cond.laysFinal "StrengthHouse$Program" "StrengthHouse$Program" "acts" "[I"),
  (Jvm.Cond.soleField "StrengthHouse$Program" "acts")]
def nd_16 : List Jvm.Cond := [(Jvm.Cond.laysFinal "StrengthHouse$Program" "StrengthHouse$Program" "amounts" "[I"),
  (Jvm.Cond.soleField "StrengthHouse$Program" "amounts"),
  (Jvm.Cond.lays "StrengthHouse$Program" "StrengthHouse$Program" "firsts" "I"),
  (Jvm.Cond.soleField "StrengthHouse$Program" "firsts"),
  (Jvm.Cond.lays "StrengthHouse$Program" "StrengthHouse$Program" "count" "I"),
  (Jvm.Cond.soleField "StrengthHouse$Program" "count"),
  (Jvm.Cond.superclass "StrengthHouse$Program" "java/lang/Object"),
  (Jvm.Cond.fieldLink "StrengthHouse$State" (11 : Nat) "StrengthHouse$State" "pieces" "[LStrengthHouse$Piece;"),
  (Jvm.Cond.fieldLink "StrengthHouse$State" (17 : Nat) "StrengthHouse$State" "pieceCount" "I"),
  (Jvm.Cond.fieldLink "StrengthHouse$State" (23 : Nat) "StrengthHouse$State" "programs" "[LStrengthHouse$Program;"),
  (Jvm.Cond.fieldLink "StrengthHouse$State" (28 : Nat) "StrengthHouse$State" "limits" "[I"),
  (Jvm.Cond.fieldLink "StrengthHouse$State" (32 : Nat) "StrengthHouse$State" "tape" "[B"),
  (Jvm.Cond.fieldLinkNest "StrengthHouse" (186 : Nat) "StrengthHouse$State" "tape" "[B" "StrengthHouse"),
  (Jvm.Cond.fieldLink "StrengthHouse$State" (36 : Nat) "StrengthHouse$State" "tapeLength" "I"),
  (Jvm.Cond.fieldLinkNest "StrengthHouse" (175 : Nat) "StrengthHouse$State" "tapeLength" "I" "StrengthHouse"),
  (Jvm.Cond.fieldLink "StrengthHouse$State" (39 : Nat) "StrengthHouse$State" "latestRun" "[I")]
def nd_17 : List Jvm.Cond := [(Jvm.Cond.fieldLink "StrengthHouse$State" (42 : Nat) "StrengthHouse$State" "hasRun" "Z"),
  (Jvm.Cond.fieldLinkNest "StrengthHouse" (222 : Nat) "StrengthHouse$State" "hasRun" "Z" "StrengthHouse"),
  (Jvm.Cond.fieldLink "StrengthHouse$State" (49 : Nat) "StrengthHouse$State" "meters" "LStrengthHouse$Meters;"),
  (Jvm.Cond.fieldLinkNest "StrengthHouse" (282 : Nat) "StrengthHouse$State" "meters" "LStrengthHouse$Meters;" "StrengthHouse"),
  (Jvm.Cond.fieldLink "StrengthHouse$State" (56 : Nat) "StrengthHouse$State" "book" "LStrengthHouse$Book;"),
  (Jvm.Cond.fieldLinkNest "StrengthHouse" (300 : Nat) "StrengthHouse$State" "book" "LStrengthHouse$Book;" "StrengthHouse"),
  (Jvm.Cond.fieldLink "StrengthHouse$State" (60 : Nat) "StrengthHouse$State" "waiting" "[I"),
  (Jvm.Cond.fieldLink "StrengthHouse$State" (63 : Nat) "StrengthHouse$State" "waitingCount" "I"),
  (Jvm.Cond.fieldLinkNest "StrengthHouse" (386 : Nat) "StrengthHouse$State" "waitingCount" "I" "StrengthHouse"),
  (Jvm.Cond.laysFinal "StrengthHouse$State" "StrengthHouse$State" "pieces" "[LStrengthHouse$Piece;"),
  (Jvm.Cond.soleField "StrengthHouse$State" "pieces"),
  (Jvm.Cond.lays "StrengthHouse$State" "StrengthHouse$State" "pieceCount" "I"),
  (Jvm.Cond.soleField "StrengthHouse$State" "pieceCount"),
  (Jvm.Cond.laysFinal "StrengthHouse$State" "StrengthHouse$State" "programs" "[LStrengthHouse$Program;"),
  (Jvm.Cond.soleField "StrengthHouse$State" "programs"),
  (Jvm.Cond.laysFinal "StrengthHouse$State" "StrengthHouse$State" "limits" "[I")]
def nd_18 : List Jvm.Cond := [(Jvm.Cond.soleField "StrengthHouse$State" "limits"),
  (Jvm.Cond.laysFinal "StrengthHouse$State" "StrengthHouse$State" "tape" "[B"),
  (Jvm.Cond.soleField "StrengthHouse$State" "tape"),
  (Jvm.Cond.lays "StrengthHouse$State" "StrengthHouse$State" "tapeLength" "I"),
  (Jvm.Cond.soleField "StrengthHouse$State" "tapeLength"),
  (Jvm.Cond.laysFinal "StrengthHouse$State" "StrengthHouse$State" "latestRun" "[I"),
  (Jvm.Cond.soleField "StrengthHouse$State" "latestRun"),
  (Jvm.Cond.lays "StrengthHouse$State" "StrengthHouse$State" "hasRun" "Z"),
  (Jvm.Cond.soleField "StrengthHouse$State" "hasRun"),
  (Jvm.Cond.laysFinal "StrengthHouse$State" "StrengthHouse$State" "meters" "LStrengthHouse$Meters;"),
  (Jvm.Cond.soleField "StrengthHouse$State" "meters"),
  (Jvm.Cond.laysFinal "StrengthHouse$State" "StrengthHouse$State" "book" "LStrengthHouse$Book;"),
  (Jvm.Cond.soleField "StrengthHouse$State" "book"),
  (Jvm.Cond.laysFinal "StrengthHouse$State" "StrengthHouse$State" "waiting" "[I"),
  (Jvm.Cond.soleField "StrengthHouse$State" "waiting"),
  (Jvm.Cond.lays "StrengthHouse$State" "StrengthHouse$State" "waitingCount" "I")]
def nd_19 : List Jvm.Cond := [(Jvm.Cond.soleField "StrengthHouse$State" "waitingCount"),
  (Jvm.Cond.superclass "StrengthHouse$State" "java/lang/Object"),
  (Jvm.Cond.classLink "StrengthHouse" (27 : Nat) "StrengthHouse$Sheet"),
  (Jvm.Cond.arrayOver (Jvm.ClassFile.FieldType.object "StrengthHouse$Sheet")),
  (Jvm.Cond.classLink "StrengthHouse" (33 : Nat) "StrengthHouse$Voices"),
  (Jvm.Cond.instantiable "StrengthHouse$Voices" (8 : Nat)),
  (Jvm.Cond.methodLinkNest "StrengthHouse" (35 : Nat) ({ cls := "StrengthHouse$Voices", name := "<init>", desc := "()V" } : Jvm.MethodName) "StrengthHouse"),
  (Jvm.Cond.instanceMethod ({ cls := "StrengthHouse$Voices", name := "<init>", desc := "()V" } : Jvm.MethodName)),
  (Jvm.Cond.code ({ cls := "StrengthHouse$Voices", name := "<init>", desc := "()V" } : Jvm.MethodName) prog_12_method_1_code (1 : Nat) (Option.none : Option Jvm.ClassFile.FieldType)),
  (Jvm.Cond.methodLink "StrengthHouse$Voices" (3 : Nat) ({ cls := "java/lang/Object", name := "<init>", desc := "()V" } : Jvm.MethodName)),
  (Jvm.Cond.fieldLink "StrengthHouse$Voices" (11 : Nat) "StrengthHouse$Voices" "begun" "[I"),
  (Jvm.Cond.fieldLink "StrengthHouse$Voices" (15 : Nat) "StrengthHouse$Voices" "begunCount" "I"),
  (Jvm.Cond.fieldLink "StrengthHouse$Voices" (19 : Nat) "StrengthHouse$Voices" "trace" "[I"),
  (Jvm.Cond.fieldLink "StrengthHouse$Voices" (22 : Nat) "StrengthHouse$Voices" "count" "I"),
  (Jvm.Cond.fieldLinkNest "StrengthHouse" (357 : Nat) "StrengthHouse$Voices" "count" "I" "StrengthHouse"),
  (Jvm.Cond.fieldLink "StrengthHouse$Voices" (25 : Nat) "StrengthHouse$Voices" "kind" "I")]
def nd_20 : List Jvm.Cond := [(Jvm.Cond.fieldLink "StrengthHouse$Voices" (28 : Nat) "StrengthHouse$Voices" "size" "I"),
  (Jvm.Cond.fieldLink "StrengthHouse$Voices" (31 : Nat) "StrengthHouse$Voices" "number" "I"),
  (Jvm.Cond.fieldLink "StrengthHouse$Voices" (34 : Nat) "StrengthHouse$Voices" "parted" "Z"),
  (Jvm.Cond.fieldLinkNest "StrengthHouse" (354 : Nat) "StrengthHouse$Voices" "parted" "Z" "StrengthHouse"),
  (Jvm.Cond.laysFinal "StrengthHouse$Voices" "StrengthHouse$Voices" "begun" "[I"),
  (Jvm.Cond.soleField "StrengthHouse$Voices" "begun"),
  (Jvm.Cond.lays "StrengthHouse$Voices" "StrengthHouse$Voices" "begunCount" "I"),
  (Jvm.Cond.soleField "StrengthHouse$Voices" "begunCount"),
  (Jvm.Cond.laysFinal "StrengthHouse$Voices" "StrengthHouse$Voices" "trace" "[I"),
  (Jvm.Cond.soleField "StrengthHouse$Voices" "trace"),
  (Jvm.Cond.lays "StrengthHouse$Voices" "StrengthHouse$Voices" "count" "I"),
  (Jvm.Cond.soleField "StrengthHouse$Voices" "count"),
  (Jvm.Cond.lays "StrengthHouse$Voices" "StrengthHouse$Voices" "kind" "I"),
  (Jvm.Cond.soleField "StrengthHouse$Voices" "kind"),
  (Jvm.Cond.lays "StrengthHouse$Voices" "StrengthHouse$Voices" "size" "I"),
  (Jvm.Cond.soleField "StrengthHouse$Voices" "size")]
def nd_21 : List Jvm.Cond := [(Jvm.Cond.lays "StrengthHouse$Voices" "StrengthHouse$Voices" "number" "I"),
  (Jvm.Cond.soleField "StrengthHouse$Voices" "number"),
  (Jvm.Cond.lays "StrengthHouse$Voices" "StrengthHouse$Voices" "parted" "Z"),
  (Jvm.Cond.soleField "StrengthHouse$Voices" "parted"),
  (Jvm.Cond.superclass "StrengthHouse$Voices" "java/lang/Object"),
  (Jvm.Cond.classLink "StrengthHouse" (40 : Nat) "StrengthHouse$Machine"),
  (Jvm.Cond.instantiable "StrengthHouse$Machine" (15 : Nat)),
  (Jvm.Cond.methodLinkNest "StrengthHouse" (42 : Nat) ({ cls := "StrengthHouse$Machine", name := "<init>", desc := "()V" } : Jvm.MethodName) "StrengthHouse"),
  (Jvm.Cond.instanceMethod ({ cls := "StrengthHouse$Machine", name := "<init>", desc := "()V" } : Jvm.MethodName)),
  (Jvm.Cond.code ({ cls := "StrengthHouse$Machine", name := "<init>", desc := "()V" } : Jvm.MethodName) prog_3_method_1_code (1 : Nat) (Option.none : Option Jvm.ClassFile.FieldType)),
  (Jvm.Cond.methodLink "StrengthHouse$Machine" (3 : Nat) ({ cls := "java/lang/Object", name := "<init>", desc := "()V" } : Jvm.MethodName)),
  (Jvm.Cond.classLink "StrengthHouse$Machine" (15 : Nat) "StrengthHouse$Readings"),
  (Jvm.Cond.methodLinkNest "StrengthHouse$Machine" (17 : Nat) ({ cls := "StrengthHouse$Readings", name := "<init>", desc := "()V" } : Jvm.MethodName) "StrengthHouse"),
  (Jvm.Cond.classLink "StrengthHouse$Machine" (22 : Nat) "StrengthHouse$Piece"),
  (Jvm.Cond.methodLinkNest "StrengthHouse$Machine" (24 : Nat) ({ cls := "StrengthHouse$Piece", name := "<init>", desc := "()V" } : Jvm.MethodName) "StrengthHouse"),
  (Jvm.Cond.fieldLink "StrengthHouse$Machine" (11 : Nat) "StrengthHouse$Machine" "loads" "[I")]
def nd_22 : List Jvm.Cond := [(Jvm.Cond.fieldLink "StrengthHouse$Machine" (18 : Nat) "StrengthHouse$Machine" "taken" "LStrengthHouse$Readings;"),
  (Jvm.Cond.fieldLinkNest "StrengthHouse" (209 : Nat) "StrengthHouse$Machine" "taken" "LStrengthHouse$Readings;" "StrengthHouse"),
  (Jvm.Cond.fieldLink "StrengthHouse$Machine" (25 : Nat) "StrengthHouse$Machine" "piece" "LStrengthHouse$Piece;"),
  (Jvm.Cond.fieldLink "StrengthHouse$Machine" (29 : Nat) "StrengthHouse$Machine" "loadLimit" "I"),
  (Jvm.Cond.fieldLink "StrengthHouse$Machine" (33 : Nat) "StrengthHouse$Machine" "longLimit" "I"),
  (Jvm.Cond.fieldLink "StrengthHouse$Machine" (36 : Nat) "StrengthHouse$Machine" "meterTop" "I"),
  (Jvm.Cond.fieldLink "StrengthHouse$Machine" (39 : Nat) "StrengthHouse$Machine" "noneEach" "I"),
  (Jvm.Cond.fieldLink "StrengthHouse$Machine" (42 : Nat) "StrengthHouse$Machine" "delay" "I"),
  (Jvm.Cond.fieldLink "StrengthHouse$Machine" (45 : Nat) "StrengthHouse$Machine" "stretch" "I"),
  (Jvm.Cond.fieldLinkNest "StrengthHouse$State" (92 : Nat) "StrengthHouse$Machine" "stretch" "I" "StrengthHouse"),
  (Jvm.Cond.fieldLink "StrengthHouse$Machine" (48 : Nat) "StrengthHouse$Machine" "holds" "I"),
  (Jvm.Cond.fieldLink "StrengthHouse$Machine" (51 : Nat) "StrengthHouse$Machine" "ticks" "I"),
  (Jvm.Cond.fieldLinkNest "StrengthHouse$State" (89 : Nat) "StrengthHouse$Machine" "ticks" "I" "StrengthHouse"),
  (Jvm.Cond.fieldLink "StrengthHouse$Machine" (54 : Nat) "StrengthHouse$Machine" "why" "I"),
  (Jvm.Cond.fieldLinkNest "StrengthHouse" (219 : Nat) "StrengthHouse$Machine" "why" "I" "StrengthHouse"),
  (Jvm.Cond.fieldLinkNest "StrengthHouse$State" (86 : Nat) "StrengthHouse$Machine" "why" "I" "StrengthHouse")]
def nd_23 : List Jvm.Cond := [(Jvm.Cond.fieldLink "StrengthHouse$Machine" (57 : Nat) "StrengthHouse$Machine" "endedAt" "I"),
  (Jvm.Cond.fieldLinkNest "StrengthHouse$State" (95 : Nat) "StrengthHouse$Machine" "endedAt" "I" "StrengthHouse"),
  (Jvm.Cond.fieldLink "StrengthHouse$Machine" (60 : Nat) "StrengthHouse$Machine" "broken" "Z"),
  (Jvm.Cond.fieldLink "StrengthHouse$Machine" (64 : Nat) "StrengthHouse$Machine" "inLast" "Z"),
  (Jvm.Cond.laysFinal "StrengthHouse$Machine" "StrengthHouse$Machine" "loads" "[I"),
  (Jvm.Cond.soleField "StrengthHouse$Machine" "loads"),
  (Jvm.Cond.laysFinal "StrengthHouse$Machine" "StrengthHouse$Machine" "taken" "LStrengthHouse$Readings;"),
  (Jvm.Cond.soleField "StrengthHouse$Machine" "taken"),
  (Jvm.Cond.lays "StrengthHouse$Machine" "StrengthHouse$Machine" "piece" "LStrengthHouse$Piece;"),
  (Jvm.Cond.soleField "StrengthHouse$Machine" "piece"),
  (Jvm.Cond.lays "StrengthHouse$Machine" "StrengthHouse$Machine" "loadLimit" "I"),
  (Jvm.Cond.soleField "StrengthHouse$Machine" "loadLimit"),
  (Jvm.Cond.lays "StrengthHouse$Machine" "StrengthHouse$Machine" "longLimit" "I"),
  (Jvm.Cond.soleField "StrengthHouse$Machine" "longLimit"),
  (Jvm.Cond.lays "StrengthHouse$Machine" "StrengthHouse$Machine" "meterTop" "I"),
  (Jvm.Cond.soleField "StrengthHouse$Machine" "meterTop")]
def nd_24 : List Jvm.Cond := [(Jvm.Cond.lays "StrengthHouse$Machine" "StrengthHouse$Machine" "noneEach" "I"),
  (Jvm.Cond.soleField "StrengthHouse$Machine" "noneEach"),
  (Jvm.Cond.lays "StrengthHouse$Machine" "StrengthHouse$Machine" "delay" "I"),
  (Jvm.Cond.soleField "StrengthHouse$Machine" "delay"),
  (Jvm.Cond.lays "StrengthHouse$Machine" "StrengthHouse$Machine" "stretch" "I"),
  (Jvm.Cond.soleField "StrengthHouse$Machine" "stretch"),
  (Jvm.Cond.lays "StrengthHouse$Machine" "StrengthHouse$Machine" "holds" "I"),
  (Jvm.Cond.soleField "StrengthHouse$Machine" "holds"),
  (Jvm.Cond.lays "StrengthHouse$Machine" "StrengthHouse$Machine" "ticks" "I"),
  (Jvm.Cond.soleField "StrengthHouse$Machine" "ticks"),
  (Jvm.Cond.lays "StrengthHouse$Machine" "StrengthHouse$Machine" "why" "I"),
  (Jvm.Cond.soleField "StrengthHouse$Machine" "why"),
  (Jvm.Cond.lays "StrengthHouse$Machine" "StrengthHouse$Machine" "endedAt" "I"),
  (Jvm.Cond.soleField "StrengthHouse$Machine" "endedAt"),
  (Jvm.Cond.lays "StrengthHouse$Machine" "StrengthHouse$Machine" "broken" "Z"),
  (Jvm.Cond.soleField "StrengthHouse$Machine" "broken")]
def nd_25 : List Jvm.Cond := [(Jvm.Cond.lays "StrengthHouse$Machine" "StrengthHouse$Machine" "inLast" "Z"),
  (Jvm.Cond.soleField "StrengthHouse$Machine" "inLast"),
  (Jvm.Cond.superclass "StrengthHouse$Machine" "java/lang/Object"),
  (Jvm.Cond.classLink "StrengthHouse" (47 : Nat) "StrengthHouse$TextReader"),
  (Jvm.Cond.instantiable "StrengthHouse$TextReader" (4 : Nat)),
  (Jvm.Cond.methodLinkNest "StrengthHouse" (49 : Nat) ({ cls := "StrengthHouse$TextReader", name := "<init>", desc := "()V" } : Jvm.MethodName) "StrengthHouse"),
  (Jvm.Cond.instanceMethod ({ cls := "StrengthHouse$TextReader", name := "<init>", desc := "()V" } : Jvm.MethodName)),
  (Jvm.Cond.code ({ cls := "StrengthHouse$TextReader", name := "<init>", desc := "()V" } : Jvm.MethodName) prog_11_method_1_code (1 : Nat) (Option.none : Option Jvm.ClassFile.FieldType)),
  (Jvm.Cond.methodLink "StrengthHouse$TextReader" (3 : Nat) ({ cls := "java/lang/Object", name := "<init>", desc := "()V" } : Jvm.MethodName)),
  (Jvm.Cond.fieldLink "StrengthHouse$TextReader" (9 : Nat) "StrengthHouse$TextReader" "text" "[B"),
  (Jvm.Cond.fieldLink "StrengthHouse$TextReader" (15 : Nat) "StrengthHouse$TextReader" "length" "I"),
  (Jvm.Cond.fieldLink "StrengthHouse$TextReader" (19 : Nat) "StrengthHouse$TextReader" "from" "I"),
  (Jvm.Cond.fieldLink "StrengthHouse$TextReader" (22 : Nat) "StrengthHouse$TextReader" "to" "I"),
  (Jvm.Cond.lays "StrengthHouse$TextReader" "StrengthHouse$TextReader" "text" "[B"),
  (Jvm.Cond.soleField "StrengthHouse$TextReader" "text"),
  (Jvm.Cond.lays "StrengthHouse$TextReader" "StrengthHouse$TextReader" "length" "I")]
def nd_26 : List Jvm.Cond := [(Jvm.Cond.soleField "StrengthHouse$TextReader" "length"),
  (Jvm.Cond.lays "StrengthHouse$TextReader" "StrengthHouse$TextReader" "from" "I"),
  (Jvm.Cond.soleField "StrengthHouse$TextReader" "from"),
  (Jvm.Cond.lays "StrengthHouse$TextReader" "StrengthHouse$TextReader" "to" "I"),
  (Jvm.Cond.soleField "StrengthHouse$TextReader" "to"),
  (Jvm.Cond.superclass "StrengthHouse$TextReader" "java/lang/Object"),
  (Jvm.Cond.classLink "StrengthHouse" (54 : Nat) "StrengthHouse$Program"),
  (Jvm.Cond.methodLinkNest "StrengthHouse" (56 : Nat) ({ cls := "StrengthHouse$Program", name := "<init>", desc := "()V" } : Jvm.MethodName) "StrengthHouse"),
  (Jvm.Cond.classLink "StrengthHouse" (61 : Nat) "StrengthHouse$Order"),
  (Jvm.Cond.instantiable "StrengthHouse$Order" (3 : Nat)),
  (Jvm.Cond.methodLinkNest "StrengthHouse" (63 : Nat) ({ cls := "StrengthHouse$Order", name := "<init>", desc := "()V" } : Jvm.MethodName) "StrengthHouse"),
  (Jvm.Cond.instanceMethod ({ cls := "StrengthHouse$Order", name := "<init>", desc := "()V" } : Jvm.MethodName)),
  (Jvm.Cond.code ({ cls := "StrengthHouse$Order", name := "<init>", desc := "()V" } : Jvm.MethodName) prog_5_method_1_code (1 : Nat) (Option.none : Option Jvm.ClassFile.FieldType)),
  (Jvm.Cond.methodLink "StrengthHouse$Order" (3 : Nat) ({ cls := "java/lang/Object", name := "<init>", desc := "()V" } : Jvm.MethodName)),
  (Jvm.Cond.fieldLink "StrengthHouse$Order" (9 : Nat) "StrengthHouse$Order" "values" "[I"),
  (Jvm.Cond.fieldLink "StrengthHouse$Order" (15 : Nat) "StrengthHouse$Order" "pieces" "[I")]
def nd_27 : List Jvm.Cond := [(Jvm.Cond.fieldLink "StrengthHouse$Order" (18 : Nat) "StrengthHouse$Order" "size" "I"),
  (Jvm.Cond.fieldLinkNest "StrengthHouse$Book" (34 : Nat) "StrengthHouse$Order" "size" "I" "StrengthHouse"),
  (Jvm.Cond.fieldLinkNest "StrengthHouse" (262 : Nat) "StrengthHouse$Order" "size" "I" "StrengthHouse"),
  (Jvm.Cond.laysFinal "StrengthHouse$Order" "StrengthHouse$Order" "values" "[I"),
  (Jvm.Cond.soleField "StrengthHouse$Order" "values"),
  (Jvm.Cond.laysFinal "StrengthHouse$Order" "StrengthHouse$Order" "pieces" "[I"),
  (Jvm.Cond.soleField "StrengthHouse$Order" "pieces"),
  (Jvm.Cond.lays "StrengthHouse$Order" "StrengthHouse$Order" "size" "I"),
  (Jvm.Cond.soleField "StrengthHouse$Order" "size"),
  (Jvm.Cond.superclass "StrengthHouse$Order" "java/lang/Object"),
  (Jvm.Cond.instantiable "StrengthHouse$Sheet" (3 : Nat)),
  (Jvm.Cond.methodLinkNest "StrengthHouse" (71 : Nat) ({ cls := "StrengthHouse$Sheet", name := "<init>", desc := "()V" } : Jvm.MethodName) "StrengthHouse"),
  (Jvm.Cond.instanceMethod ({ cls := "StrengthHouse$Sheet", name := "<init>", desc := "()V" } : Jvm.MethodName)),
  (Jvm.Cond.code ({ cls := "StrengthHouse$Sheet", name := "<init>", desc := "()V" } : Jvm.MethodName) prog_9_method_1_code (1 : Nat) (Option.none : Option Jvm.ClassFile.FieldType)),
  (Jvm.Cond.methodLink "StrengthHouse$Sheet" (3 : Nat) ({ cls := "java/lang/Object", name := "<init>", desc := "()V" } : Jvm.MethodName)),
  (Jvm.Cond.fieldLink "StrengthHouse$Sheet" (9 : Nat) "StrengthHouse$Sheet" "bits" "I")]
def nd_28 : List Jvm.Cond := [(Jvm.Cond.fieldLinkNest "StrengthHouse" (368 : Nat) "StrengthHouse$Sheet" "bits" "I" "StrengthHouse"),
  (Jvm.Cond.fieldLink "StrengthHouse$Sheet" (15 : Nat) "StrengthHouse$Sheet" "length" "I"),
  (Jvm.Cond.fieldLink "StrengthHouse$Sheet" (18 : Nat) "StrengthHouse$Sheet" "numbers" "[I"),
  (Jvm.Cond.fieldLinkNest "StrengthHouse" (371 : Nat) "StrengthHouse$Sheet" "numbers" "[I" "StrengthHouse"),
  (Jvm.Cond.lays "StrengthHouse$Sheet" "StrengthHouse$Sheet" "bits" "I"),
  (Jvm.Cond.soleField "StrengthHouse$Sheet" "bits"),
  (Jvm.Cond.lays "StrengthHouse$Sheet" "StrengthHouse$Sheet" "length" "I"),
  (Jvm.Cond.soleField "StrengthHouse$Sheet" "length"),
  (Jvm.Cond.laysFinal "StrengthHouse$Sheet" "StrengthHouse$Sheet" "numbers" "[I"),
  (Jvm.Cond.soleField "StrengthHouse$Sheet" "numbers"),
  (Jvm.Cond.superclass "StrengthHouse$Sheet" "java/lang/Object"),
  (Jvm.Cond.fieldLink "StrengthHouse" (10 : Nat) "StrengthHouse" "now" "LStrengthHouse$State;"),
  (Jvm.Cond.fieldLink "StrengthHouse" (16 : Nat) "StrengthHouse" "kept" "LStrengthHouse$State;"),
  (Jvm.Cond.fieldLink "StrengthHouse" (19 : Nat) "StrengthHouse" "images" "I"),
  (Jvm.Cond.fieldLink "StrengthHouse" (23 : Nat) "StrengthHouse" "refused" "[I"),
  (Jvm.Cond.fieldLink "StrengthHouse" (29 : Nat) "StrengthHouse" "sheets" "[LStrengthHouse$Sheet;")]
def nd_29 : List Jvm.Cond := [(Jvm.Cond.fieldLink "StrengthHouse" (36 : Nat) "StrengthHouse" "voices" "LStrengthHouse$Voices;"),
  (Jvm.Cond.fieldLink "StrengthHouse" (43 : Nat) "StrengthHouse" "machine" "LStrengthHouse$Machine;"),
  (Jvm.Cond.fieldLink "StrengthHouse" (50 : Nat) "StrengthHouse" "reader" "LStrengthHouse$TextReader;"),
  (Jvm.Cond.fieldLink "StrengthHouse" (57 : Nat) "StrengthHouse" "draft" "LStrengthHouse$Program;"),
  (Jvm.Cond.fieldLink "StrengthHouse" (64 : Nat) "StrengthHouse" "order" "LStrengthHouse$Order;"),
  (Jvm.Cond.fieldLink "StrengthHouse" (68 : Nat) "StrengthHouse" "cuts" "[I"),
  (Jvm.Cond.laysFinal "StrengthHouse" "StrengthHouse" "now" "LStrengthHouse$State;"),
  (Jvm.Cond.soleField "StrengthHouse" "now"),
  (Jvm.Cond.laysFinal "StrengthHouse" "StrengthHouse" "kept" "LStrengthHouse$State;"),
  (Jvm.Cond.soleField "StrengthHouse" "kept"),
  (Jvm.Cond.lays "StrengthHouse" "StrengthHouse" "images" "I"),
  (Jvm.Cond.soleField "StrengthHouse" "images"),
  (Jvm.Cond.laysFinal "StrengthHouse" "StrengthHouse" "refused" "[I"),
  (Jvm.Cond.soleField "StrengthHouse" "refused"),
  (Jvm.Cond.laysFinal "StrengthHouse" "StrengthHouse" "sheets" "[LStrengthHouse$Sheet;"),
  (Jvm.Cond.soleField "StrengthHouse" "sheets")]
def nd_30 : List Jvm.Cond := [(Jvm.Cond.laysFinal "StrengthHouse" "StrengthHouse" "voices" "LStrengthHouse$Voices;"),
  (Jvm.Cond.soleField "StrengthHouse" "voices"),
  (Jvm.Cond.laysFinal "StrengthHouse" "StrengthHouse" "machine" "LStrengthHouse$Machine;"),
  (Jvm.Cond.soleField "StrengthHouse" "machine"),
  (Jvm.Cond.laysFinal "StrengthHouse" "StrengthHouse" "reader" "LStrengthHouse$TextReader;"),
  (Jvm.Cond.soleField "StrengthHouse" "reader"),
  (Jvm.Cond.laysFinal "StrengthHouse" "StrengthHouse" "draft" "LStrengthHouse$Program;"),
  (Jvm.Cond.soleField "StrengthHouse" "draft"),
  (Jvm.Cond.laysFinal "StrengthHouse" "StrengthHouse" "order" "LStrengthHouse$Order;"),
  (Jvm.Cond.soleField "StrengthHouse" "order"),
  (Jvm.Cond.laysFinal "StrengthHouse" "StrengthHouse" "cuts" "[I"),
  (Jvm.Cond.soleField "StrengthHouse" "cuts"),
  (Jvm.Cond.superclass "StrengthHouse" "java/lang/Object"),
  (Jvm.Cond.methodLink "StrengthHouseLaw" (13 : Nat) ({ cls := "StrengthHouse", name := "piece", desc := "(IIIII)I" } : Jvm.MethodName)),
  (Jvm.Cond.instanceMethod ({ cls := "StrengthHouse", name := "piece", desc := "(IIIII)I" } : Jvm.MethodName)),
  (Jvm.Cond.selects "StrengthHouse" ({ cls := "StrengthHouse", name := "piece", desc := "(IIIII)I" } : Jvm.MethodName) ({ cls := "StrengthHouse", name := "piece", desc := "(IIIII)I" } : Jvm.MethodName))]
def nd_31 : List Jvm.Cond := [(Jvm.Cond.code ({ cls := "StrengthHouse", name := "piece", desc := "(IIIII)I" } : Jvm.MethodName) prog_1_method_2_code (9 : Nat) (Option.some Jvm.ClassFile.FieldType.int)),
  (Jvm.Cond.methodLink "StrengthHouse" (72 : Nat) ({ cls := "StrengthHouse", name := "sheetAt", desc := "(I)LStrengthHouse$Sheet;" } : Jvm.MethodName)),
  (Jvm.Cond.privateMethod ({ cls := "StrengthHouse", name := "sheetAt", desc := "(I)LStrengthHouse$Sheet;" } : Jvm.MethodName)),
  (Jvm.Cond.instanceMethod ({ cls := "StrengthHouse", name := "sheetAt", desc := "(I)LStrengthHouse$Sheet;" } : Jvm.MethodName)),
  (Jvm.Cond.code ({ cls := "StrengthHouse", name := "sheetAt", desc := "(I)LStrengthHouse$Sheet;" } : Jvm.MethodName) prog_1_method_45_code (2 : Nat) (Option.some (Jvm.ClassFile.FieldType.object "StrengthHouse$Sheet"))),
  (Jvm.Cond.methodLink "StrengthHouse" (76 : Nat) ({ cls := "StrengthHouse", name := "within", desc := "(III)Z" } : Jvm.MethodName)),
  (Jvm.Cond.static ({ cls := "StrengthHouse", name := "within", desc := "(III)Z" } : Jvm.MethodName)),
  (Jvm.Cond.code ({ cls := "StrengthHouse", name := "within", desc := "(III)Z" } : Jvm.MethodName) prog_1_method_52_code (3 : Nat) (Option.some Jvm.ClassFile.FieldType.boolean)),
  (Jvm.Cond.methodLink "StrengthHouse" (80 : Nat) ({ cls := "StrengthHouse", name := "isLot", desc := "(I)Z" } : Jvm.MethodName)),
  (Jvm.Cond.static ({ cls := "StrengthHouse", name := "isLot", desc := "(I)Z" } : Jvm.MethodName)),
  (Jvm.Cond.code ({ cls := "StrengthHouse", name := "isLot", desc := "(I)Z" } : Jvm.MethodName) prog_1_method_53_code (1 : Nat) (Option.some Jvm.ClassFile.FieldType.boolean)),
  (Jvm.Cond.methodLink "StrengthHouse" (84 : Nat) ({ cls := "StrengthHouse", name := "refuse", desc := "(I)I" } : Jvm.MethodName)),
  (Jvm.Cond.privateMethod ({ cls := "StrengthHouse", name := "refuse", desc := "(I)I" } : Jvm.MethodName)),
  (Jvm.Cond.instanceMethod ({ cls := "StrengthHouse", name := "refuse", desc := "(I)I" } : Jvm.MethodName)),
  (Jvm.Cond.code ({ cls := "StrengthHouse", name := "refuse", desc := "(I)I" } : Jvm.MethodName) prog_1_method_43_code (2 : Nat) (Option.some Jvm.ClassFile.FieldType.int)),
  (Jvm.Cond.constant "StrengthHouse" (402 : Nat) (-1000000 : Int32))]
def nd_32 : List Jvm.Cond := [(Jvm.Cond.methodLink "StrengthHouse" (88 : Nat) ({ cls := "StrengthHouse$Sheet", name := "isMissing", desc := "()Z" } : Jvm.MethodName)),
  (Jvm.Cond.instanceMethod ({ cls := "StrengthHouse$Sheet", name := "isMissing", desc := "()Z" } : Jvm.MethodName)),
  (Jvm.Cond.selects "StrengthHouse$Sheet" ({ cls := "StrengthHouse$Sheet", name := "isMissing", desc := "()Z" } : Jvm.MethodName) ({ cls := "StrengthHouse$Sheet", name := "isMissing", desc := "()Z" } : Jvm.MethodName)),
  (Jvm.Cond.code ({ cls := "StrengthHouse$Sheet", name := "isMissing", desc := "()Z" } : Jvm.MethodName) prog_9_method_3_code (1 : Nat) (Option.some Jvm.ClassFile.FieldType.boolean)),
  (Jvm.Cond.methodLink "StrengthHouse" (92 : Nat) ({ cls := "StrengthHouse$Sheet", name := "begins", desc := "(III)Z" } : Jvm.MethodName)),
  (Jvm.Cond.instanceMethod ({ cls := "StrengthHouse$Sheet", name := "begins", desc := "(III)Z" } : Jvm.MethodName)),
  (Jvm.Cond.selects "StrengthHouse$Sheet" ({ cls := "StrengthHouse$Sheet", name := "begins", desc := "(III)Z" } : Jvm.MethodName) ({ cls := "StrengthHouse$Sheet", name := "begins", desc := "(III)Z" } : Jvm.MethodName)),
  (Jvm.Cond.code ({ cls := "StrengthHouse$Sheet", name := "begins", desc := "(III)Z" } : Jvm.MethodName) prog_9_method_7_code (5 : Nat) (Option.some Jvm.ClassFile.FieldType.boolean)),
  (Jvm.Cond.methodLink "StrengthHouse$Sheet" (31 : Nat) ({ cls := "StrengthHouse$Sheet", name := "spans", desc := "(II)Z" } : Jvm.MethodName)),
  (Jvm.Cond.instanceMethod ({ cls := "StrengthHouse$Sheet", name := "spans", desc := "(II)Z" } : Jvm.MethodName)),
  (Jvm.Cond.selects "StrengthHouse$Sheet" ({ cls := "StrengthHouse$Sheet", name := "spans", desc := "(II)Z" } : Jvm.MethodName) ({ cls := "StrengthHouse$Sheet", name := "spans", desc := "(II)Z" } : Jvm.MethodName)),
  (Jvm.Cond.code ({ cls := "StrengthHouse$Sheet", name := "spans", desc := "(II)Z" } : Jvm.MethodName) prog_9_method_4_code (3 : Nat) (Option.some Jvm.ClassFile.FieldType.boolean)),
  (Jvm.Cond.methodLink "StrengthHouse$Sheet" (35 : Nat) ({ cls := "StrengthHouse$Sheet", name := "numberAt", desc := "(I)I" } : Jvm.MethodName)),
  (Jvm.Cond.instanceMethod ({ cls := "StrengthHouse$Sheet", name := "numberAt", desc := "(I)I" } : Jvm.MethodName)),
  (Jvm.Cond.selects "StrengthHouse$Sheet" ({ cls := "StrengthHouse$Sheet", name := "numberAt", desc := "(I)I" } : Jvm.MethodName) ({ cls := "StrengthHouse$Sheet", name := "numberAt", desc := "(I)I" } : Jvm.MethodName)),
  (Jvm.Cond.code ({ cls := "StrengthHouse$Sheet", name := "numberAt", desc := "(I)I" } : Jvm.MethodName) prog_9_method_5_code (2 : Nat) (Option.some Jvm.ClassFile.FieldType.int))]
def nd_33 : List Jvm.Cond := [(Jvm.Cond.methodLinkNest "StrengthHouse$Sheet" (39 : Nat) ({ cls := "StrengthHouse", name := "within", desc := "(III)Z" } : Jvm.MethodName) "StrengthHouse"),
  (Jvm.Cond.methodLink "StrengthHouse" (95 : Nat) ({ cls := "StrengthHouse$State", name := "addPiece", desc := "()LStrengthHouse$Piece;" } : Jvm.MethodName)),
  (Jvm.Cond.instanceMethod ({ cls := "StrengthHouse$State", name := "addPiece", desc := "()LStrengthHouse$Piece;" } : Jvm.MethodName)),
  (Jvm.Cond.selects "StrengthHouse$State" ({ cls := "StrengthHouse$State", name := "addPiece", desc := "()LStrengthHouse$Piece;" } : Jvm.MethodName) ({ cls := "StrengthHouse$State", name := "addPiece", desc := "()LStrengthHouse$Piece;" } : Jvm.MethodName)),
  (Jvm.Cond.code ({ cls := "StrengthHouse$State", name := "addPiece", desc := "()LStrengthHouse$Piece;" } : Jvm.MethodName) prog_10_method_4_code (1 : Nat) (Option.some (Jvm.ClassFile.FieldType.object "StrengthHouse$Piece"))),
  (Jvm.Cond.methodLink "StrengthHouse" (99 : Nat) ({ cls := "StrengthHouse$Piece", name := "become", desc := "(III)V" } : Jvm.MethodName)),
  (Jvm.Cond.instanceMethod ({ cls := "StrengthHouse$Piece", name := "become", desc := "(III)V" } : Jvm.MethodName)),
  (Jvm.Cond.selects "StrengthHouse$Piece" ({ cls := "StrengthHouse$Piece", name := "become", desc := "(III)V" } : Jvm.MethodName) ({ cls := "StrengthHouse$Piece", name := "become", desc := "(III)V" } : Jvm.MethodName)),
  (Jvm.Cond.code ({ cls := "StrengthHouse$Piece", name := "become", desc := "(III)V" } : Jvm.MethodName) prog_6_method_2_code (4 : Nat) (Option.none : Option Jvm.ClassFile.FieldType)),
  (Jvm.Cond.methodLink "StrengthHouse$Piece" (35 : Nat) ({ cls := "StrengthHouse$Readings", name := "clear", desc := "()V" } : Jvm.MethodName)),
  (Jvm.Cond.instanceMethod ({ cls := "StrengthHouse$Readings", name := "clear", desc := "()V" } : Jvm.MethodName)),
  (Jvm.Cond.selects "StrengthHouse$Readings" ({ cls := "StrengthHouse$Readings", name := "clear", desc := "()V" } : Jvm.MethodName) ({ cls := "StrengthHouse$Readings", name := "clear", desc := "()V" } : Jvm.MethodName)),
  (Jvm.Cond.code ({ cls := "StrengthHouse$Readings", name := "clear", desc := "()V" } : Jvm.MethodName) prog_8_method_2_code (1 : Nat) (Option.none : Option Jvm.ClassFile.FieldType)),
  (Jvm.Cond.methodLink "StrengthHouse" (105 : Nat) ({ cls := "StrengthHouse$Sheet", name := "numberAt", desc := "(I)I" } : Jvm.MethodName)),
  (Jvm.Cond.methodLink "StrengthHouse" (108 : Nat) ({ cls := "StrengthHouse$Piece", name := "addAnswer", desc := "(I)V" } : Jvm.MethodName)),
  (Jvm.Cond.instanceMethod ({ cls := "StrengthHouse$Piece", name := "addAnswer", desc := "(I)V" } : Jvm.MethodName))]
def nd_34 : List Jvm.Cond := [(Jvm.Cond.selects "StrengthHouse$Piece" ({ cls := "StrengthHouse$Piece", name := "addAnswer", desc := "(I)V" } : Jvm.MethodName) ({ cls := "StrengthHouse$Piece", name := "addAnswer", desc := "(I)V" } : Jvm.MethodName)),
  (Jvm.Cond.code ({ cls := "StrengthHouse$Piece", name := "addAnswer", desc := "(I)V" } : Jvm.MethodName) prog_6_method_3_code (2 : Nat) (Option.none : Option Jvm.ClassFile.FieldType)),
  (Jvm.Cond.methodLink "StrengthHouse" (112 : Nat) ({ cls := "StrengthHouse$State", name := "pieces", desc := "()I" } : Jvm.MethodName)),
  (Jvm.Cond.instanceMethod ({ cls := "StrengthHouse$State", name := "pieces", desc := "()I" } : Jvm.MethodName)),
  (Jvm.Cond.selects "StrengthHouse$State" ({ cls := "StrengthHouse$State", name := "pieces", desc := "()I" } : Jvm.MethodName) ({ cls := "StrengthHouse$State", name := "pieces", desc := "()I" } : Jvm.MethodName)),
  (Jvm.Cond.code ({ cls := "StrengthHouse$State", name := "pieces", desc := "()I" } : Jvm.MethodName) prog_10_method_2_code (1 : Nat) (Option.some Jvm.ClassFile.FieldType.int)),
  (Jvm.Cond.methodLink "StrengthHouseLaw" (18 : Nat) ({ cls := "StrengthHouse", name := "pieceIs", desc := "(II)I" } : Jvm.MethodName)),
  (Jvm.Cond.instanceMethod ({ cls := "StrengthHouse", name := "pieceIs", desc := "(II)I" } : Jvm.MethodName)),
  (Jvm.Cond.selects "StrengthHouse" ({ cls := "StrengthHouse", name := "pieceIs", desc := "(II)I" } : Jvm.MethodName) ({ cls := "StrengthHouse", name := "pieceIs", desc := "(II)I" } : Jvm.MethodName)),
  (Jvm.Cond.code ({ cls := "StrengthHouse", name := "pieceIs", desc := "(II)I" } : Jvm.MethodName) prog_1_method_3_code (4 : Nat) (Option.some Jvm.ClassFile.FieldType.int)),
  (Jvm.Cond.methodLink "StrengthHouse" (116 : Nat) ({ cls := "StrengthHouse$State", name := "pieceAt", desc := "(I)LStrengthHouse$Piece;" } : Jvm.MethodName)),
  (Jvm.Cond.instanceMethod ({ cls := "StrengthHouse$State", name := "pieceAt", desc := "(I)LStrengthHouse$Piece;" } : Jvm.MethodName)),
  (Jvm.Cond.selects "StrengthHouse$State" ({ cls := "StrengthHouse$State", name := "pieceAt", desc := "(I)LStrengthHouse$Piece;" } : Jvm.MethodName) ({ cls := "StrengthHouse$State", name := "pieceAt", desc := "(I)LStrengthHouse$Piece;" } : Jvm.MethodName)),
  (Jvm.Cond.code ({ cls := "StrengthHouse$State", name := "pieceAt", desc := "(I)LStrengthHouse$Piece;" } : Jvm.MethodName) prog_10_method_3_code (2 : Nat) (Option.some (Jvm.ClassFile.FieldType.object "StrengthHouse$Piece"))),
  (Jvm.Cond.methodLink "StrengthHouse" (139 : Nat) ({ cls := "StrengthHouse$Readings", name := "goodOnes", desc := "()I" } : Jvm.MethodName)),
  (Jvm.Cond.instanceMethod ({ cls := "StrengthHouse$Readings", name := "goodOnes", desc := "()I" } : Jvm.MethodName))]
def nd_35 : List Jvm.Cond := [(Jvm.Cond.selects "StrengthHouse$Readings" ({ cls := "StrengthHouse$Readings", name := "goodOnes", desc := "()I" } : Jvm.MethodName) ({ cls := "StrengthHouse$Readings", name := "goodOnes", desc := "()I" } : Jvm.MethodName)),
  (Jvm.Cond.code ({ cls := "StrengthHouse$Readings", name := "goodOnes", desc := "()I" } : Jvm.MethodName) prog_8_method_8_code (3 : Nat) (Option.some Jvm.ClassFile.FieldType.int)),
  (Jvm.Cond.methodLink "StrengthHouse$Readings" (38 : Nat) ({ cls := "StrengthHouse$Readings", name := "isGood", desc := "(I)Z" } : Jvm.MethodName)),
  (Jvm.Cond.instanceMethod ({ cls := "StrengthHouse$Readings", name := "isGood", desc := "(I)Z" } : Jvm.MethodName)),
  (Jvm.Cond.selects "StrengthHouse$Readings" ({ cls := "StrengthHouse$Readings", name := "isGood", desc := "(I)Z" } : Jvm.MethodName) ({ cls := "StrengthHouse$Readings", name := "isGood", desc := "(I)Z" } : Jvm.MethodName)),
  (Jvm.Cond.code ({ cls := "StrengthHouse$Readings", name := "isGood", desc := "(I)Z" } : Jvm.MethodName) prog_8_method_7_code (2 : Nat) (Option.some Jvm.ClassFile.FieldType.boolean)),
  (Jvm.Cond.methodLink "StrengthHouse$Readings" (35 : Nat) ({ cls := "StrengthHouse$Readings", name := "loadAt", desc := "(I)I" } : Jvm.MethodName)),
  (Jvm.Cond.instanceMethod ({ cls := "StrengthHouse$Readings", name := "loadAt", desc := "(I)I" } : Jvm.MethodName)),
  (Jvm.Cond.selects "StrengthHouse$Readings" ({ cls := "StrengthHouse$Readings", name := "loadAt", desc := "(I)I" } : Jvm.MethodName) ({ cls := "StrengthHouse$Readings", name := "loadAt", desc := "(I)I" } : Jvm.MethodName)),
  (Jvm.Cond.code ({ cls := "StrengthHouse$Readings", name := "loadAt", desc := "(I)I" } : Jvm.MethodName) prog_8_method_5_code (2 : Nat) (Option.some Jvm.ClassFile.FieldType.int)),
  (Jvm.Cond.methodLink "StrengthHouseLaw" (23 : Nat) ({ cls := "StrengthHouse", name := "as", desc := "(II)I" } : Jvm.MethodName)),
  (Jvm.Cond.instanceMethod ({ cls := "StrengthHouse", name := "as", desc := "(II)I" } : Jvm.MethodName)),
  (Jvm.Cond.selects "StrengthHouse" ({ cls := "StrengthHouse", name := "as", desc := "(II)I" } : Jvm.MethodName) ({ cls := "StrengthHouse", name := "as", desc := "(II)I" } : Jvm.MethodName)),
  (Jvm.Cond.code ({ cls := "StrengthHouse", name := "as", desc := "(II)I" } : Jvm.MethodName) prog_1_method_4_code (4 : Nat) (Option.some Jvm.ClassFile.FieldType.int)),
  (Jvm.Cond.methodLink "StrengthHouse" (142 : Nat) ({ cls := "StrengthHouse$Piece", name := "isOf", desc := "(I)Z" } : Jvm.MethodName)),
  (Jvm.Cond.instanceMethod ({ cls := "StrengthHouse$Piece", name := "isOf", desc := "(I)Z" } : Jvm.MethodName))]
def nd_36 : List Jvm.Cond := [(Jvm.Cond.selects "StrengthHouse$Piece" ({ cls := "StrengthHouse$Piece", name := "isOf", desc := "(I)Z" } : Jvm.MethodName) ({ cls := "StrengthHouse$Piece", name := "isOf", desc := "(I)Z" } : Jvm.MethodName)),
  (Jvm.Cond.code ({ cls := "StrengthHouse$Piece", name := "isOf", desc := "(I)Z" } : Jvm.MethodName) prog_6_method_5_code (4 : Nat) (Option.some Jvm.ClassFile.FieldType.boolean)),
  (Jvm.Cond.methodLink "StrengthHouse$Piece" (41 : Nat) ({ cls := "StrengthHouse$Piece", name := "above", desc := "(I)I" } : Jvm.MethodName)),
  (Jvm.Cond.static ({ cls := "StrengthHouse$Piece", name := "above", desc := "(I)I" } : Jvm.MethodName)),
  (Jvm.Cond.code ({ cls := "StrengthHouse$Piece", name := "above", desc := "(I)I" } : Jvm.MethodName) prog_6_method_4_code (1 : Nat) (Option.some Jvm.ClassFile.FieldType.int)),
  (Jvm.Cond.fieldLink "StrengthHouse$Piece" (38 : Nat) "StrengthHouse$Piece" "ABOVE" "[I"),
  (Jvm.Cond.laysStatic "StrengthHouse$Piece" "ABOVE" "[I"),
  (Jvm.Cond.methodLink "StrengthHouseLaw" (27 : Nat) ({ cls := "StrengthHouse", name := "answer", desc := "(II)I" } : Jvm.MethodName)),
  (Jvm.Cond.instanceMethod ({ cls := "StrengthHouse", name := "answer", desc := "(II)I" } : Jvm.MethodName)),
  (Jvm.Cond.selects "StrengthHouse" ({ cls := "StrengthHouse", name := "answer", desc := "(II)I" } : Jvm.MethodName) ({ cls := "StrengthHouse", name := "answer", desc := "(II)I" } : Jvm.MethodName)),
  (Jvm.Cond.code ({ cls := "StrengthHouse", name := "answer", desc := "(II)I" } : Jvm.MethodName) prog_1_method_5_code (4 : Nat) (Option.some Jvm.ClassFile.FieldType.int)),
  (Jvm.Cond.methodLink "StrengthHouse" (145 : Nat) ({ cls := "StrengthHouse", name := "isStretch", desc := "(I)Z" } : Jvm.MethodName)),
  (Jvm.Cond.static ({ cls := "StrengthHouse", name := "isStretch", desc := "(I)Z" } : Jvm.MethodName)),
  (Jvm.Cond.code ({ cls := "StrengthHouse", name := "isStretch", desc := "(I)Z" } : Jvm.MethodName) prog_1_method_56_code (1 : Nat) (Option.some Jvm.ClassFile.FieldType.boolean)),
  (Jvm.Cond.methodLink "StrengthHouse" (148 : Nat) ({ cls := "StrengthHouse$Piece", name := "loadAt", desc := "(I)I" } : Jvm.MethodName)),
  (Jvm.Cond.instanceMethod ({ cls := "StrengthHouse$Piece", name := "loadAt", desc := "(I)I" } : Jvm.MethodName))]
def nd_37 : List Jvm.Cond := [(Jvm.Cond.selects "StrengthHouse$Piece" ({ cls := "StrengthHouse$Piece", name := "loadAt", desc := "(I)I" } : Jvm.MethodName) ({ cls := "StrengthHouse$Piece", name := "loadAt", desc := "(I)I" } : Jvm.MethodName)),
  (Jvm.Cond.code ({ cls := "StrengthHouse$Piece", name := "loadAt", desc := "(I)I" } : Jvm.MethodName) prog_6_method_7_code (3 : Nat) (Option.some Jvm.ClassFile.FieldType.int)),
  (Jvm.Cond.methodLink "StrengthHouse$Piece" (45 : Nat) ({ cls := "StrengthHouse$Piece", name := "lastStretch", desc := "()I" } : Jvm.MethodName)),
  (Jvm.Cond.instanceMethod ({ cls := "StrengthHouse$Piece", name := "lastStretch", desc := "()I" } : Jvm.MethodName)),
  (Jvm.Cond.selects "StrengthHouse$Piece" ({ cls := "StrengthHouse$Piece", name := "lastStretch", desc := "()I" } : Jvm.MethodName) ({ cls := "StrengthHouse$Piece", name := "lastStretch", desc := "()I" } : Jvm.MethodName)),
  (Jvm.Cond.code ({ cls := "StrengthHouse$Piece", name := "lastStretch", desc := "()I" } : Jvm.MethodName) prog_6_method_6_code (1 : Nat) (Option.some Jvm.ClassFile.FieldType.int)),
  (Jvm.Cond.methodLink "StrengthHouse$Piece" (49 : Nat) ({ cls := "StrengthHouse$Piece", name := "answerAt", desc := "(I)I" } : Jvm.MethodName)),
  (Jvm.Cond.privateMethod ({ cls := "StrengthHouse$Piece", name := "answerAt", desc := "(I)I" } : Jvm.MethodName)),
  (Jvm.Cond.instanceMethod ({ cls := "StrengthHouse$Piece", name := "answerAt", desc := "(I)I" } : Jvm.MethodName)),
  (Jvm.Cond.code ({ cls := "StrengthHouse$Piece", name := "answerAt", desc := "(I)I" } : Jvm.MethodName) prog_6_method_8_code (4 : Nat) (Option.some Jvm.ClassFile.FieldType.int)),
  (Jvm.Cond.methodLinkNest "StrengthHouse$Piece" (62 : Nat) ({ cls := "StrengthHouse", name := "straight", desc := "(IIII)I" } : Jvm.MethodName) "StrengthHouse"),
  (Jvm.Cond.static ({ cls := "StrengthHouse", name := "straight", desc := "(IIII)I" } : Jvm.MethodName)),
  (Jvm.Cond.code ({ cls := "StrengthHouse", name := "straight", desc := "(IIII)I" } : Jvm.MethodName) prog_1_method_58_code (4 : Nat) (Option.some Jvm.ClassFile.FieldType.int)),
  (Jvm.Cond.methodLink "StrengthHouse$Piece" (52 : Nat) ({ cls := "StrengthHouse$Piece", name := "isOf", desc := "(I)Z" } : Jvm.MethodName)),
  (Jvm.Cond.methodLink "StrengthHouse$Piece" (56 : Nat) ({ cls := "java/lang/Math", name := "max", desc := "(II)I" } : Jvm.MethodName)),
  (Jvm.Cond.static ({ cls := "java/lang/Math", name := "max", desc := "(II)I" } : Jvm.MethodName))]
def nd_38 : List Jvm.Cond := [(Jvm.Cond.code ({ cls := "java/lang/Math", name := "max", desc := "(II)I" } : Jvm.MethodName) prog_16_method_65_code (2 : Nat) (Option.some Jvm.ClassFile.FieldType.int)),
  (Jvm.Cond.methodLink "StrengthHouseLaw" (31 : Nat) ({ cls := "StrengthHouse", name := "trace", desc := "(III)I" } : Jvm.MethodName)),
  (Jvm.Cond.instanceMethod ({ cls := "StrengthHouse", name := "trace", desc := "(III)I" } : Jvm.MethodName)),
  (Jvm.Cond.selects "StrengthHouse" ({ cls := "StrengthHouse", name := "trace", desc := "(III)I" } : Jvm.MethodName) ({ cls := "StrengthHouse", name := "trace", desc := "(III)I" } : Jvm.MethodName)),
  (Jvm.Cond.code ({ cls := "StrengthHouse", name := "trace", desc := "(III)I" } : Jvm.MethodName) prog_1_method_6_code (7 : Nat) (Option.some Jvm.ClassFile.FieldType.int)),
  (Jvm.Cond.methodLink "StrengthHouse" (151 : Nat) ({ cls := "StrengthHouse$Sheet", name := "beginsWithReadings", desc := "(I)Z" } : Jvm.MethodName)),
  (Jvm.Cond.instanceMethod ({ cls := "StrengthHouse$Sheet", name := "beginsWithReadings", desc := "(I)Z" } : Jvm.MethodName)),
  (Jvm.Cond.selects "StrengthHouse$Sheet" ({ cls := "StrengthHouse$Sheet", name := "beginsWithReadings", desc := "(I)Z" } : Jvm.MethodName) ({ cls := "StrengthHouse$Sheet", name := "beginsWithReadings", desc := "(I)Z" } : Jvm.MethodName)),
  (Jvm.Cond.code ({ cls := "StrengthHouse$Sheet", name := "beginsWithReadings", desc := "(I)Z" } : Jvm.MethodName) prog_9_method_8_code (4 : Nat) (Option.some Jvm.ClassFile.FieldType.boolean)),
  (Jvm.Cond.constant "StrengthHouse$Sheet" (45 : Nat) (99999 : Int32)),
  (Jvm.Cond.methodLink "StrengthHouse" (154 : Nat) ({ cls := "StrengthHouse$Readings", name := "clear", desc := "()V" } : Jvm.MethodName)),
  (Jvm.Cond.methodLink "StrengthHouse" (157 : Nat) ({ cls := "StrengthHouse$Readings", name := "add", desc := "(II)V" } : Jvm.MethodName)),
  (Jvm.Cond.instanceMethod ({ cls := "StrengthHouse$Readings", name := "add", desc := "(II)V" } : Jvm.MethodName)),
  (Jvm.Cond.selects "StrengthHouse$Readings" ({ cls := "StrengthHouse$Readings", name := "add", desc := "(II)V" } : Jvm.MethodName) ({ cls := "StrengthHouse$Readings", name := "add", desc := "(II)V" } : Jvm.MethodName)),
  (Jvm.Cond.code ({ cls := "StrengthHouse$Readings", name := "add", desc := "(II)V" } : Jvm.MethodName) prog_8_method_3_code (3 : Nat) (Option.none : Option Jvm.ClassFile.FieldType)),
  (Jvm.Cond.methodLink "StrengthHouseLaw" (36 : Nat) ({ cls := "StrengthHouse", name := "reading", desc := "(III)I" } : Jvm.MethodName))]
def nd_39 : List Jvm.Cond := [(Jvm.Cond.instanceMethod ({ cls := "StrengthHouse", name := "reading", desc := "(III)I" } : Jvm.MethodName)),
  (Jvm.Cond.selects "StrengthHouse" ({ cls := "StrengthHouse", name := "reading", desc := "(III)I" } : Jvm.MethodName) ({ cls := "StrengthHouse", name := "reading", desc := "(III)I" } : Jvm.MethodName)),
  (Jvm.Cond.code ({ cls := "StrengthHouse", name := "reading", desc := "(III)I" } : Jvm.MethodName) prog_1_method_7_code (5 : Nat) (Option.some Jvm.ClassFile.FieldType.int)),
  (Jvm.Cond.methodLink "StrengthHouse" (161 : Nat) ({ cls := "StrengthHouse$Readings", name := "stretchAt", desc := "(I)I" } : Jvm.MethodName)),
  (Jvm.Cond.instanceMethod ({ cls := "StrengthHouse$Readings", name := "stretchAt", desc := "(I)I" } : Jvm.MethodName)),
  (Jvm.Cond.selects "StrengthHouse$Readings" ({ cls := "StrengthHouse$Readings", name := "stretchAt", desc := "(I)I" } : Jvm.MethodName) ({ cls := "StrengthHouse$Readings", name := "stretchAt", desc := "(I)I" } : Jvm.MethodName)),
  (Jvm.Cond.code ({ cls := "StrengthHouse$Readings", name := "stretchAt", desc := "(I)I" } : Jvm.MethodName) prog_8_method_4_code (2 : Nat) (Option.some Jvm.ClassFile.FieldType.int)),
  (Jvm.Cond.methodLink "StrengthHouse" (164 : Nat) ({ cls := "StrengthHouse$Readings", name := "loadAt", desc := "(I)I" } : Jvm.MethodName)),
  (Jvm.Cond.methodLink "StrengthHouseLaw" (40 : Nat) ({ cls := "StrengthHouse", name := "limit", desc := "(II)I" } : Jvm.MethodName)),
  (Jvm.Cond.instanceMethod ({ cls := "StrengthHouse", name := "limit", desc := "(II)I" } : Jvm.MethodName)),
  (Jvm.Cond.selects "StrengthHouse" ({ cls := "StrengthHouse", name := "limit", desc := "(II)I" } : Jvm.MethodName) ({ cls := "StrengthHouse", name := "limit", desc := "(II)I" } : Jvm.MethodName)),
  (Jvm.Cond.code ({ cls := "StrengthHouse", name := "limit", desc := "(II)I" } : Jvm.MethodName) prog_1_method_8_code (4 : Nat) (Option.some Jvm.ClassFile.FieldType.int)),
  (Jvm.Cond.methodLink "StrengthHouse" (165 : Nat) ({ cls := "StrengthHouse$State", name := "isLimit", desc := "(II)Z" } : Jvm.MethodName)),
  (Jvm.Cond.static ({ cls := "StrengthHouse$State", name := "isLimit", desc := "(II)Z" } : Jvm.MethodName)),
  (Jvm.Cond.code ({ cls := "StrengthHouse$State", name := "isLimit", desc := "(II)Z" } : Jvm.MethodName) prog_10_method_8_code (2 : Nat) (Option.some Jvm.ClassFile.FieldType.boolean)),
  (Jvm.Cond.methodLinkNest "StrengthHouse$State" (80 : Nat) ({ cls := "StrengthHouse", name := "within", desc := "(III)Z" } : Jvm.MethodName) "StrengthHouse")]
def nd_40 : List Jvm.Cond := [(Jvm.Cond.methodLink "StrengthHouse" (169 : Nat) ({ cls := "StrengthHouse$State", name := "limitAt", desc := "(I)I" } : Jvm.MethodName)),
  (Jvm.Cond.instanceMethod ({ cls := "StrengthHouse$State", name := "limitAt", desc := "(I)I" } : Jvm.MethodName)),
  (Jvm.Cond.selects "StrengthHouse$State" ({ cls := "StrengthHouse$State", name := "limitAt", desc := "(I)I" } : Jvm.MethodName) ({ cls := "StrengthHouse$State", name := "limitAt", desc := "(I)I" } : Jvm.MethodName)),
  (Jvm.Cond.code ({ cls := "StrengthHouse$State", name := "limitAt", desc := "(I)I" } : Jvm.MethodName) prog_10_method_9_code (2 : Nat) (Option.some Jvm.ClassFile.FieldType.int)),
  (Jvm.Cond.methodLink "StrengthHouse" (172 : Nat) ({ cls := "StrengthHouse$State", name := "setLimit", desc := "(II)V" } : Jvm.MethodName)),
  (Jvm.Cond.instanceMethod ({ cls := "StrengthHouse$State", name := "setLimit", desc := "(II)V" } : Jvm.MethodName)),
  (Jvm.Cond.selects "StrengthHouse$State" ({ cls := "StrengthHouse$State", name := "setLimit", desc := "(II)V" } : Jvm.MethodName) ({ cls := "StrengthHouse$State", name := "setLimit", desc := "(II)V" } : Jvm.MethodName)),
  (Jvm.Cond.code ({ cls := "StrengthHouse$State", name := "setLimit", desc := "(II)V" } : Jvm.MethodName) prog_10_method_10_code (3 : Nat) (Option.none : Option Jvm.ClassFile.FieldType)),
  (Jvm.Cond.methodLink "StrengthHouseLaw" (46 : Nat) ({ cls := "StrengthHouse", name := "feed", desc := "(JI)I" } : Jvm.MethodName)),
  (Jvm.Cond.instanceMethod ({ cls := "StrengthHouse", name := "feed", desc := "(JI)I" } : Jvm.MethodName)),
  (Jvm.Cond.selects "StrengthHouse" ({ cls := "StrengthHouse", name := "feed", desc := "(JI)I" } : Jvm.MethodName) ({ cls := "StrengthHouse", name := "feed", desc := "(JI)I" } : Jvm.MethodName)),
  (Jvm.Cond.code ({ cls := "StrengthHouse", name := "feed", desc := "(JI)I" } : Jvm.MethodName) prog_1_method_9_code (5 : Nat) (Option.some Jvm.ClassFile.FieldType.int)),
  (Jvm.Cond.methodLink "StrengthHouse" (178 : Nat) ({ cls := "StrengthHouse$State", name := "addByte", desc := "(B)V" } : Jvm.MethodName)),
  (Jvm.Cond.instanceMethod ({ cls := "StrengthHouse$State", name := "addByte", desc := "(B)V" } : Jvm.MethodName)),
  (Jvm.Cond.selects "StrengthHouse$State" ({ cls := "StrengthHouse$State", name := "addByte", desc := "(B)V" } : Jvm.MethodName) ({ cls := "StrengthHouse$State", name := "addByte", desc := "(B)V" } : Jvm.MethodName)),
  (Jvm.Cond.code ({ cls := "StrengthHouse$State", name := "addByte", desc := "(B)V" } : Jvm.MethodName) prog_10_method_11_code (2 : Nat) (Option.none : Option Jvm.ClassFile.FieldType))]
def nd_41 : List Jvm.Cond := [(Jvm.Cond.methodLink "StrengthHouseLaw" (51 : Nat) ({ cls := "StrengthHouse", name := "program", desc := "(I)I" } : Jvm.MethodName)),
  (Jvm.Cond.instanceMethod ({ cls := "StrengthHouse", name := "program", desc := "(I)I" } : Jvm.MethodName)),
  (Jvm.Cond.selects "StrengthHouse" ({ cls := "StrengthHouse", name := "program", desc := "(I)I" } : Jvm.MethodName) ({ cls := "StrengthHouse", name := "program", desc := "(I)I" } : Jvm.MethodName)),
  (Jvm.Cond.code ({ cls := "StrengthHouse", name := "program", desc := "(I)I" } : Jvm.MethodName) prog_1_method_10_code (4 : Nat) (Option.some Jvm.ClassFile.FieldType.int)),
  (Jvm.Cond.methodLink "StrengthHouse" (182 : Nat) ({ cls := "StrengthHouse$State", name := "programAt", desc := "(I)LStrengthHouse$Program;" } : Jvm.MethodName)),
  (Jvm.Cond.instanceMethod ({ cls := "StrengthHouse$State", name := "programAt", desc := "(I)LStrengthHouse$Program;" } : Jvm.MethodName)),
  (Jvm.Cond.selects "StrengthHouse$State" ({ cls := "StrengthHouse$State", name := "programAt", desc := "(I)LStrengthHouse$Program;" } : Jvm.MethodName) ({ cls := "StrengthHouse$State", name := "programAt", desc := "(I)LStrengthHouse$Program;" } : Jvm.MethodName)),
  (Jvm.Cond.code ({ cls := "StrengthHouse$State", name := "programAt", desc := "(I)LStrengthHouse$Program;" } : Jvm.MethodName) prog_10_method_5_code (2 : Nat) (Option.some (Jvm.ClassFile.FieldType.object "StrengthHouse$Program"))),
  (Jvm.Cond.methodLink "StrengthHouse" (190 : Nat) ({ cls := "StrengthHouse$TextReader", name := "faultOf", desc := "([BILStrengthHouse$Program;)I" } : Jvm.MethodName)),
  (Jvm.Cond.instanceMethod ({ cls := "StrengthHouse$TextReader", name := "faultOf", desc := "([BILStrengthHouse$Program;)I" } : Jvm.MethodName)),
  (Jvm.Cond.selects "StrengthHouse$TextReader" ({ cls := "StrengthHouse$TextReader", name := "faultOf", desc := "([BILStrengthHouse$Program;)I" } : Jvm.MethodName) ({ cls := "StrengthHouse$TextReader", name := "faultOf", desc := "([BILStrengthHouse$Program;)I" } : Jvm.MethodName)),
  (Jvm.Cond.code ({ cls := "StrengthHouse$TextReader", name := "faultOf", desc := "([BILStrengthHouse$Program;)I" } : Jvm.MethodName) prog_11_method_2_code (6 : Nat) (Option.some Jvm.ClassFile.FieldType.int)),
  (Jvm.Cond.methodLink "StrengthHouse$TextReader" (25 : Nat) ({ cls := "java/lang/Math", name := "min", desc := "(II)I" } : Jvm.MethodName)),
  (Jvm.Cond.static ({ cls := "java/lang/Math", name := "min", desc := "(II)I" } : Jvm.MethodName)),
  (Jvm.Cond.code ({ cls := "java/lang/Math", name := "min", desc := "(II)I" } : Jvm.MethodName) prog_16_method_69_code (2 : Nat) (Option.some Jvm.ClassFile.FieldType.int)),
  (Jvm.Cond.methodLink "StrengthHouse$TextReader" (31 : Nat) ({ cls := "java/lang/Math", name := "max", desc := "(II)I" } : Jvm.MethodName))]
def nd_42 : List Jvm.Cond := [(Jvm.Cond.methodLink "StrengthHouse$TextReader" (34 : Nat) ({ cls := "StrengthHouse$Program", name := "clear", desc := "()V" } : Jvm.MethodName)),
  (Jvm.Cond.instanceMethod ({ cls := "StrengthHouse$Program", name := "clear", desc := "()V" } : Jvm.MethodName)),
  (Jvm.Cond.selects "StrengthHouse$Program" ({ cls := "StrengthHouse$Program", name := "clear", desc := "()V" } : Jvm.MethodName) ({ cls := "StrengthHouse$Program", name := "clear", desc := "()V" } : Jvm.MethodName)),
  (Jvm.Cond.code ({ cls := "StrengthHouse$Program", name := "clear", desc := "()V" } : Jvm.MethodName) prog_7_method_2_code (1 : Nat) (Option.none : Option Jvm.ClassFile.FieldType)),
  (Jvm.Cond.methodLink "StrengthHouse$TextReader" (39 : Nat) ({ cls := "StrengthHouse$TextReader", name := "next", desc := "()V" } : Jvm.MethodName)),
  (Jvm.Cond.privateMethod ({ cls := "StrengthHouse$TextReader", name := "next", desc := "()V" } : Jvm.MethodName)),
  (Jvm.Cond.instanceMethod ({ cls := "StrengthHouse$TextReader", name := "next", desc := "()V" } : Jvm.MethodName)),
  (Jvm.Cond.code ({ cls := "StrengthHouse$TextReader", name := "next", desc := "()V" } : Jvm.MethodName) prog_11_method_8_code (1 : Nat) (Option.none : Option Jvm.ClassFile.FieldType)),
  (Jvm.Cond.methodLink "StrengthHouse$TextReader" (87 : Nat) ({ cls := "StrengthHouse$TextReader", name := "byteAt", desc := "(I)I" } : Jvm.MethodName)),
  (Jvm.Cond.privateMethod ({ cls := "StrengthHouse$TextReader", name := "byteAt", desc := "(I)I" } : Jvm.MethodName)),
  (Jvm.Cond.instanceMethod ({ cls := "StrengthHouse$TextReader", name := "byteAt", desc := "(I)I" } : Jvm.MethodName)),
  (Jvm.Cond.code ({ cls := "StrengthHouse$TextReader", name := "byteAt", desc := "(I)I" } : Jvm.MethodName) prog_11_method_9_code (2 : Nat) (Option.some Jvm.ClassFile.FieldType.int)),
  (Jvm.Cond.methodLink "StrengthHouse$TextReader" (99 : Nat) ({ cls := "StrengthHouse$TextReader", name := "isLetter", desc := "(I)Z" } : Jvm.MethodName)),
  (Jvm.Cond.privateMethod ({ cls := "StrengthHouse$TextReader", name := "isLetter", desc := "(I)Z" } : Jvm.MethodName)),
  (Jvm.Cond.instanceMethod ({ cls := "StrengthHouse$TextReader", name := "isLetter", desc := "(I)Z" } : Jvm.MethodName)),
  (Jvm.Cond.code ({ cls := "StrengthHouse$TextReader", name := "isLetter", desc := "(I)Z" } : Jvm.MethodName) prog_11_method_10_code (2 : Nat) (Option.some Jvm.ClassFile.FieldType.boolean))]
def nd_43 : List Jvm.Cond := [(Jvm.Cond.methodLinkNest "StrengthHouse$TextReader" (102 : Nat) ({ cls := "StrengthHouse", name := "within", desc := "(III)Z" } : Jvm.MethodName) "StrengthHouse"),
  (Jvm.Cond.methodLink "StrengthHouse$TextReader" (83 : Nat) ({ cls := "StrengthHouse$TextReader", name := "isDigit", desc := "(I)Z" } : Jvm.MethodName)),
  (Jvm.Cond.privateMethod ({ cls := "StrengthHouse$TextReader", name := "isDigit", desc := "(I)Z" } : Jvm.MethodName)),
  (Jvm.Cond.instanceMethod ({ cls := "StrengthHouse$TextReader", name := "isDigit", desc := "(I)Z" } : Jvm.MethodName)),
  (Jvm.Cond.code ({ cls := "StrengthHouse$TextReader", name := "isDigit", desc := "(I)Z" } : Jvm.MethodName) prog_11_method_11_code (2 : Nat) (Option.some Jvm.ClassFile.FieldType.boolean)),
  (Jvm.Cond.stringRef "StrengthHouse$TextReader" (42 : Nat) "last"),
  (Jvm.Cond.methodLink "StrengthHouse$TextReader" (44 : Nat) ({ cls := "StrengthHouse$TextReader", name := "isMark", desc := "(Ljava/lang/String;)Z" } : Jvm.MethodName)),
  (Jvm.Cond.privateMethod ({ cls := "StrengthHouse$TextReader", name := "isMark", desc := "(Ljava/lang/String;)Z" } : Jvm.MethodName)),
  (Jvm.Cond.instanceMethod ({ cls := "StrengthHouse$TextReader", name := "isMark", desc := "(Ljava/lang/String;)Z" } : Jvm.MethodName)),
  (Jvm.Cond.code ({ cls := "StrengthHouse$TextReader", name := "isMark", desc := "(Ljava/lang/String;)Z" } : Jvm.MethodName) prog_11_method_7_code (3 : Nat) (Option.some Jvm.ClassFile.FieldType.boolean)),
  (Jvm.Cond.methodLink "StrengthHouse$TextReader" (91 : Nat) ({ cls := "java/lang/String", name := "length", desc := "()I" } : Jvm.MethodName)),
  (Jvm.Cond.instanceMethod ({ cls := "java/lang/String", name := "length", desc := "()I" } : Jvm.MethodName)),
  (Jvm.Cond.selects "java/lang/String" ({ cls := "java/lang/String", name := "length", desc := "()I" } : Jvm.MethodName) ({ cls := "java/lang/String", name := "length", desc := "()I" } : Jvm.MethodName)),
  (Jvm.Cond.code ({ cls := "java/lang/String", name := "length", desc := "()I" } : Jvm.MethodName) prog_17_method_54_code (1 : Nat) (Option.some Jvm.ClassFile.FieldType.int)),
  (Jvm.Cond.methodLink "java/lang/String" (335 : Nat) ({ cls := "java/lang/String", name := "coder", desc := "()B" } : Jvm.MethodName)),
  (Jvm.Cond.instanceMethod ({ cls := "java/lang/String", name := "coder", desc := "()B" } : Jvm.MethodName))]
def nd_44 : List Jvm.Cond := [(Jvm.Cond.selects "java/lang/String" ({ cls := "java/lang/String", name := "coder", desc := "()B" } : Jvm.MethodName) ({ cls := "java/lang/String", name := "coder", desc := "()B" } : Jvm.MethodName)),
  (Jvm.Cond.code ({ cls := "java/lang/String", name := "coder", desc := "()B" } : Jvm.MethodName) prog_17_method_152_code (1 : Nat) (Option.some Jvm.ClassFile.FieldType.byte)),
  (Jvm.Cond.fieldLink "java/lang/String" (38 : Nat) "java/lang/String" "COMPACT_STRINGS" "Z"),
  (Jvm.Cond.laysStatic "java/lang/String" "COMPACT_STRINGS" "Z"),
  (Jvm.Cond.methodLink "StrengthHouse$TextReader" (95 : Nat) ({ cls := "java/lang/String", name := "charAt", desc := "(I)C" } : Jvm.MethodName)),
  (Jvm.Cond.instanceMethod ({ cls := "java/lang/String", name := "charAt", desc := "(I)C" } : Jvm.MethodName)),
  (Jvm.Cond.selects "java/lang/String" ({ cls := "java/lang/String", name := "charAt", desc := "(I)C" } : Jvm.MethodName) ({ cls := "java/lang/String", name := "charAt", desc := "(I)C" } : Jvm.MethodName)),
  (Jvm.Cond.code ({ cls := "java/lang/String", name := "charAt", desc := "(I)C" } : Jvm.MethodName) prog_17_method_56_code (2 : Nat) (Option.some Jvm.ClassFile.FieldType.char)),
  (Jvm.Cond.methodLink "java/lang/String" (492 : Nat) ({ cls := "java/lang/String", name := "isLatin1", desc := "()Z" } : Jvm.MethodName)),
  (Jvm.Cond.instanceMethod ({ cls := "java/lang/String", name := "isLatin1", desc := "()Z" } : Jvm.MethodName)),
  (Jvm.Cond.selects "java/lang/String" ({ cls := "java/lang/String", name := "isLatin1", desc := "()Z" } : Jvm.MethodName) ({ cls := "java/lang/String", name := "isLatin1", desc := "()Z" } : Jvm.MethodName)),
  (Jvm.Cond.code ({ cls := "java/lang/String", name := "isLatin1", desc := "()Z" } : Jvm.MethodName) prog_17_method_154_code (1 : Nat) (Option.some Jvm.ClassFile.FieldType.boolean)),
  (Jvm.Cond.methodLink "java/lang/String" (495 : Nat) ({ cls := "java/lang/StringLatin1", name := "charAt", desc := "([BI)C" } : Jvm.MethodName)),
  (Jvm.Cond.static ({ cls := "java/lang/StringLatin1", name := "charAt", desc := "([BI)C" } : Jvm.MethodName)),
  (Jvm.Cond.code ({ cls := "java/lang/StringLatin1", name := "charAt", desc := "([BI)C" } : Jvm.MethodName) prog_18_method_2_code (2 : Nat) (Option.some Jvm.ClassFile.FieldType.char)),
  (Jvm.Cond.methodLink "java/lang/StringLatin1" (9 : Nat) ({ cls := "java/lang/String", name := "checkIndex", desc := "(II)V" } : Jvm.MethodName))]
def nd_45 : List Jvm.Cond := [(Jvm.Cond.static ({ cls := "java/lang/String", name := "checkIndex", desc := "(II)V" } : Jvm.MethodName)),
  (Jvm.Cond.code ({ cls := "java/lang/String", name := "checkIndex", desc := "(II)V" } : Jvm.MethodName) prog_17_method_155_code (2 : Nat) (Option.none : Option Jvm.ClassFile.FieldType)),
  (Jvm.Cond.fieldLink "java/lang/String" (1053 : Nat) "jdk/internal/util/Preconditions" "SIOOBE_FORMATTER" "Ljava/util/function/BiFunction;"),
  (Jvm.Cond.laysStatic "jdk/internal/util/Preconditions" "SIOOBE_FORMATTER" "Ljava/util/function/BiFunction;"),
  (Jvm.Cond.methodLink "java/lang/String" (1059 : Nat) ({ cls := "jdk/internal/util/Preconditions", name := "checkIndex", desc := "(IILjava/util/function/BiFunction;)I" } : Jvm.MethodName)),
  (Jvm.Cond.static ({ cls := "jdk/internal/util/Preconditions", name := "checkIndex", desc := "(IILjava/util/function/BiFunction;)I" } : Jvm.MethodName)),
  (Jvm.Cond.code ({ cls := "jdk/internal/util/Preconditions", name := "checkIndex", desc := "(IILjava/util/function/BiFunction;)I" } : Jvm.MethodName) prog_21_method_11_code (3 : Nat) (Option.some Jvm.ClassFile.FieldType.int)),
  (Jvm.Cond.methodLink "java/lang/String" (498 : Nat) ({ cls := "java/lang/StringUTF16", name := "charAt", desc := "([BI)C" } : Jvm.MethodName)),
  (Jvm.Cond.static ({ cls := "java/lang/StringUTF16", name := "charAt", desc := "([BI)C" } : Jvm.MethodName)),
  (Jvm.Cond.code ({ cls := "java/lang/StringUTF16", name := "charAt", desc := "([BI)C" } : Jvm.MethodName) prog_19_method_83_code (2 : Nat) (Option.some Jvm.ClassFile.FieldType.char)),
  (Jvm.Cond.methodLink "java/lang/StringUTF16" (67 : Nat) ({ cls := "java/lang/StringUTF16", name := "checkIndex", desc := "(I[B)V" } : Jvm.MethodName)),
  (Jvm.Cond.static ({ cls := "java/lang/StringUTF16", name := "checkIndex", desc := "(I[B)V" } : Jvm.MethodName)),
  (Jvm.Cond.code ({ cls := "java/lang/StringUTF16", name := "checkIndex", desc := "(I[B)V" } : Jvm.MethodName) prog_19_method_91_code (2 : Nat) (Option.none : Option Jvm.ClassFile.FieldType)),
  (Jvm.Cond.methodLink "java/lang/StringUTF16" (48 : Nat) ({ cls := "java/lang/StringUTF16", name := "length", desc := "([B)I" } : Jvm.MethodName)),
  (Jvm.Cond.static ({ cls := "java/lang/StringUTF16", name := "length", desc := "([B)I" } : Jvm.MethodName)),
  (Jvm.Cond.code ({ cls := "java/lang/StringUTF16", name := "length", desc := "([B)I" } : Jvm.MethodName) prog_19_method_6_code (1 : Nat) (Option.some Jvm.ClassFile.FieldType.int))]
def nd_46 : List Jvm.Cond := [(Jvm.Cond.methodLink "java/lang/StringUTF16" (414 : Nat) ({ cls := "java/lang/String", name := "checkIndex", desc := "(II)V" } : Jvm.MethodName)),
  (Jvm.Cond.methodLink "java/lang/StringUTF16" (71 : Nat) ({ cls := "java/lang/StringUTF16", name := "getChar", desc := "([BI)C" } : Jvm.MethodName)),
  (Jvm.Cond.static ({ cls := "java/lang/StringUTF16", name := "getChar", desc := "([BI)C" } : Jvm.MethodName)),
  (Jvm.Cond.code ({ cls := "java/lang/StringUTF16", name := "getChar", desc := "([BI)C" } : Jvm.MethodName) prog_19_method_5_code (2 : Nat) (Option.some Jvm.ClassFile.FieldType.char)),
  (Jvm.Cond.fieldLink "java/lang/StringUTF16" (44 : Nat) "java/lang/StringUTF16" "$assertionsDisabled" "Z"),
  (Jvm.Cond.laysStatic "java/lang/StringUTF16" "$assertionsDisabled" "Z"),
  (Jvm.Cond.fieldLink "java/lang/StringUTF16" (59 : Nat) "java/lang/StringUTF16" "HI_BYTE_SHIFT" "I"),
  (Jvm.Cond.laysStatic "java/lang/StringUTF16" "HI_BYTE_SHIFT" "I"),
  (Jvm.Cond.fieldLink "java/lang/StringUTF16" (63 : Nat) "java/lang/StringUTF16" "LO_BYTE_SHIFT" "I"),
  (Jvm.Cond.laysStatic "java/lang/StringUTF16" "LO_BYTE_SHIFT" "I"),
  (Jvm.Cond.methodLink "StrengthHouse$TextReader" (48 : Nat) ({ cls := "StrengthHouse$TextReader", name := "readPart", desc := "(LStrengthHouse$Program;Z)Z" } : Jvm.MethodName)),
  (Jvm.Cond.privateMethod ({ cls := "StrengthHouse$TextReader", name := "readPart", desc := "(LStrengthHouse$Program;Z)Z" } : Jvm.MethodName)),
  (Jvm.Cond.instanceMethod ({ cls := "StrengthHouse$TextReader", name := "readPart", desc := "(LStrengthHouse$Program;Z)Z" } : Jvm.MethodName)),
  (Jvm.Cond.code ({ cls := "StrengthHouse$TextReader", name := "readPart", desc := "(LStrengthHouse$Program;Z)Z" } : Jvm.MethodName) prog_11_method_3_code (5 : Nat) (Option.some Jvm.ClassFile.FieldType.boolean)),
  (Jvm.Cond.methodLink "StrengthHouse$TextReader" (56 : Nat) ({ cls := "StrengthHouse$TextReader", name := "actHere", desc := "()I" } : Jvm.MethodName)),
  (Jvm.Cond.privateMethod ({ cls := "StrengthHouse$TextReader", name := "actHere", desc := "()I" } : Jvm.MethodName))]
def nd_47 : List Jvm.Cond := [(Jvm.Cond.instanceMethod ({ cls := "StrengthHouse$TextReader", name := "actHere", desc := "()I" } : Jvm.MethodName)),
  (Jvm.Cond.code ({ cls := "StrengthHouse$TextReader", name := "actHere", desc := "()I" } : Jvm.MethodName) prog_11_method_4_code (2 : Nat) (Option.some Jvm.ClassFile.FieldType.int)),
  (Jvm.Cond.methodLink "StrengthHouse$TextReader" (67 : Nat) ({ cls := "StrengthHouse$TextReader", name := "wordOf", desc := "(I)Ljava/lang/String;" } : Jvm.MethodName)),
  (Jvm.Cond.static ({ cls := "StrengthHouse$TextReader", name := "wordOf", desc := "(I)Ljava/lang/String;" } : Jvm.MethodName)),
  (Jvm.Cond.code ({ cls := "StrengthHouse$TextReader", name := "wordOf", desc := "(I)Ljava/lang/String;" } : Jvm.MethodName) prog_11_method_5_code (1 : Nat) (Option.some (Jvm.ClassFile.FieldType.object "java/lang/String"))),
  (Jvm.Cond.stringRef "StrengthHouse$TextReader" (71 : Nat) "go"),
  (Jvm.Cond.stringRef "StrengthHouse$TextReader" (73 : Nat) "load"),
  (Jvm.Cond.stringRef "StrengthHouse$TextReader" (75 : Nat) "hold"),
  (Jvm.Cond.stringRef "StrengthHouse$TextReader" (77 : Nat) "back"),
  (Jvm.Cond.stringRef "StrengthHouse$TextReader" (79 : Nat) "read"),
  (Jvm.Cond.stringRef "StrengthHouse$TextReader" (81 : Nat) "till"),
  (Jvm.Cond.methodLink "StrengthHouse$TextReader" (60 : Nat) ({ cls := "StrengthHouse$Program", name := "add", desc := "(IIZ)V" } : Jvm.MethodName)),
  (Jvm.Cond.instanceMethod ({ cls := "StrengthHouse$Program", name := "add", desc := "(IIZ)V" } : Jvm.MethodName)),
  (Jvm.Cond.selects "StrengthHouse$Program" ({ cls := "StrengthHouse$Program", name := "add", desc := "(IIZ)V" } : Jvm.MethodName) ({ cls := "StrengthHouse$Program", name := "add", desc := "(IIZ)V" } : Jvm.MethodName)),
  (Jvm.Cond.code ({ cls := "StrengthHouse$Program", name := "add", desc := "(IIZ)V" } : Jvm.MethodName) prog_7_method_3_code (4 : Nat) (Option.none : Option Jvm.ClassFile.FieldType)),
  (Jvm.Cond.methodLink "StrengthHouse$TextReader" (64 : Nat) ({ cls := "StrengthHouse$TextReader", name := "numberHere", desc := "()I" } : Jvm.MethodName))]
def nd_48 : List Jvm.Cond := [(Jvm.Cond.privateMethod ({ cls := "StrengthHouse$TextReader", name := "numberHere", desc := "()I" } : Jvm.MethodName)),
  (Jvm.Cond.instanceMethod ({ cls := "StrengthHouse$TextReader", name := "numberHere", desc := "()I" } : Jvm.MethodName)),
  (Jvm.Cond.code ({ cls := "StrengthHouse$TextReader", name := "numberHere", desc := "()I" } : Jvm.MethodName) prog_11_method_6_code (3 : Nat) (Option.some Jvm.ClassFile.FieldType.int)),
  (Jvm.Cond.stringRef "StrengthHouse$TextReader" (52 : Nat) ","),
  (Jvm.Cond.stringRef "StrengthHouse$TextReader" (54 : Nat) ";"),
  (Jvm.Cond.methodLink "StrengthHouse" (194 : Nat) ({ cls := "StrengthHouse$Program", name := "copyFrom", desc := "(LStrengthHouse$Program;)V" } : Jvm.MethodName)),
  (Jvm.Cond.instanceMethod ({ cls := "StrengthHouse$Program", name := "copyFrom", desc := "(LStrengthHouse$Program;)V" } : Jvm.MethodName)),
  (Jvm.Cond.selects "StrengthHouse$Program" ({ cls := "StrengthHouse$Program", name := "copyFrom", desc := "(LStrengthHouse$Program;)V" } : Jvm.MethodName) ({ cls := "StrengthHouse$Program", name := "copyFrom", desc := "(LStrengthHouse$Program;)V" } : Jvm.MethodName)),
  (Jvm.Cond.code ({ cls := "StrengthHouse$Program", name := "copyFrom", desc := "(LStrengthHouse$Program;)V" } : Jvm.MethodName) prog_7_method_6_code (2 : Nat) (Option.none : Option Jvm.ClassFile.FieldType)),
  (Jvm.Cond.methodLink "StrengthHouse$Program" (29 : Nat) ({ cls := "java/lang/System", name := "arraycopy", desc := "(Ljava/lang/Object;ILjava/lang/Object;II)V" } : Jvm.MethodName)),
  (Jvm.Cond.static ({ cls := "java/lang/System", name := "arraycopy", desc := "(Ljava/lang/Object;ILjava/lang/Object;II)V" } : Jvm.MethodName)),
  (Jvm.Cond.native ({ cls := "java/lang/System", name := "arraycopy", desc := "(Ljava/lang/Object;ILjava/lang/Object;II)V" } : Jvm.MethodName)),
  (Jvm.Cond.methodLink "StrengthHouseLaw" (56 : Nat) ({ cls := "StrengthHouse", name := "run", desc := "(II)I" } : Jvm.MethodName)),
  (Jvm.Cond.instanceMethod ({ cls := "StrengthHouse", name := "run", desc := "(II)I" } : Jvm.MethodName)),
  (Jvm.Cond.selects "StrengthHouse" ({ cls := "StrengthHouse", name := "run", desc := "(II)I" } : Jvm.MethodName) ({ cls := "StrengthHouse", name := "run", desc := "(II)I" } : Jvm.MethodName)),
  (Jvm.Cond.code ({ cls := "StrengthHouse", name := "run", desc := "(II)I" } : Jvm.MethodName) prog_1_method_11_code (5 : Nat) (Option.some Jvm.ClassFile.FieldType.int))]
def nd_49 : List Jvm.Cond := [(Jvm.Cond.methodLink "StrengthHouse" (205 : Nat) ({ cls := "StrengthHouse$Machine", name := "perform", desc := "(LStrengthHouse$Program;LStrengthHouse$Piece;LStrengthHouse$State;)V" } : Jvm.MethodName)),
  (Jvm.Cond.instanceMethod ({ cls := "StrengthHouse$Machine", name := "perform", desc := "(LStrengthHouse$Program;LStrengthHouse$Piece;LStrengthHouse$State;)V" } : Jvm.MethodName)),
  (Jvm.Cond.selects "StrengthHouse$Machine" ({ cls := "StrengthHouse$Machine", name := "perform", desc := "(LStrengthHouse$Program;LStrengthHouse$Piece;LStrengthHouse$State;)V" } : Jvm.MethodName) ({ cls := "StrengthHouse$Machine", name := "perform", desc := "(LStrengthHouse$Program;LStrengthHouse$Piece;LStrengthHouse$State;)V" } : Jvm.MethodName)),
  (Jvm.Cond.code ({ cls := "StrengthHouse$Machine", name := "perform", desc := "(LStrengthHouse$Program;LStrengthHouse$Piece;LStrengthHouse$State;)V" } : Jvm.MethodName) prog_3_method_2_code (6 : Nat) (Option.none : Option Jvm.ClassFile.FieldType)),
  (Jvm.Cond.methodLink "StrengthHouse$Machine" (67 : Nat) ({ cls := "StrengthHouse$Machine", name := "begin", desc := "(LStrengthHouse$Piece;LStrengthHouse$State;)V" } : Jvm.MethodName)),
  (Jvm.Cond.privateMethod ({ cls := "StrengthHouse$Machine", name := "begin", desc := "(LStrengthHouse$Piece;LStrengthHouse$State;)V" } : Jvm.MethodName)),
  (Jvm.Cond.instanceMethod ({ cls := "StrengthHouse$Machine", name := "begin", desc := "(LStrengthHouse$Piece;LStrengthHouse$State;)V" } : Jvm.MethodName)),
  (Jvm.Cond.code ({ cls := "StrengthHouse$Machine", name := "begin", desc := "(LStrengthHouse$Piece;LStrengthHouse$State;)V" } : Jvm.MethodName) prog_3_method_3_code (3 : Nat) (Option.none : Option Jvm.ClassFile.FieldType)),
  (Jvm.Cond.methodLink "StrengthHouse$Machine" (90 : Nat) ({ cls := "StrengthHouse$Readings", name := "clear", desc := "()V" } : Jvm.MethodName)),
  (Jvm.Cond.methodLink "StrengthHouse$Machine" (93 : Nat) ({ cls := "StrengthHouse$State", name := "limitAt", desc := "(I)I" } : Jvm.MethodName)),
  (Jvm.Cond.methodLink "StrengthHouse$Machine" (76 : Nat) ({ cls := "StrengthHouse$Program", name := "actAt", desc := "(I)I" } : Jvm.MethodName)),
  (Jvm.Cond.instanceMethod ({ cls := "StrengthHouse$Program", name := "actAt", desc := "(I)I" } : Jvm.MethodName)),
  (Jvm.Cond.selects "StrengthHouse$Program" ({ cls := "StrengthHouse$Program", name := "actAt", desc := "(I)I" } : Jvm.MethodName) ({ cls := "StrengthHouse$Program", name := "actAt", desc := "(I)I" } : Jvm.MethodName)),
  (Jvm.Cond.code ({ cls := "StrengthHouse$Program", name := "actAt", desc := "(I)I" } : Jvm.MethodName) prog_7_method_4_code (2 : Nat) (Option.some Jvm.ClassFile.FieldType.int)),
  (Jvm.Cond.methodLink "StrengthHouse$Machine" (80 : Nat) ({ cls := "StrengthHouse$Program", name := "amountAt", desc := "(I)I" } : Jvm.MethodName)),
  (Jvm.Cond.instanceMethod ({ cls := "StrengthHouse$Program", name := "amountAt", desc := "(I)I" } : Jvm.MethodName))]
def nd_50 : List Jvm.Cond := [(Jvm.Cond.selects "StrengthHouse$Program" ({ cls := "StrengthHouse$Program", name := "amountAt", desc := "(I)I" } : Jvm.MethodName) ({ cls := "StrengthHouse$Program", name := "amountAt", desc := "(I)I" } : Jvm.MethodName)),
  (Jvm.Cond.code ({ cls := "StrengthHouse$Program", name := "amountAt", desc := "(I)I" } : Jvm.MethodName) prog_7_method_5_code (2 : Nat) (Option.some Jvm.ClassFile.FieldType.int)),
  (Jvm.Cond.methodLink "StrengthHouse$Machine" (83 : Nat) ({ cls := "StrengthHouse$Machine", name := "doPart", desc := "(II)V" } : Jvm.MethodName)),
  (Jvm.Cond.privateMethod ({ cls := "StrengthHouse$Machine", name := "doPart", desc := "(II)V" } : Jvm.MethodName)),
  (Jvm.Cond.instanceMethod ({ cls := "StrengthHouse$Machine", name := "doPart", desc := "(II)V" } : Jvm.MethodName)),
  (Jvm.Cond.code ({ cls := "StrengthHouse$Machine", name := "doPart", desc := "(II)V" } : Jvm.MethodName) prog_3_method_4_code (5 : Nat) (Option.none : Option Jvm.ClassFile.FieldType)),
  (Jvm.Cond.methodLink "StrengthHouse$Machine" (98 : Nat) ({ cls := "StrengthHouse$Machine", name := "timesAtMost", desc := "(II)I" } : Jvm.MethodName)),
  (Jvm.Cond.static ({ cls := "StrengthHouse$Machine", name := "timesAtMost", desc := "(II)I" } : Jvm.MethodName)),
  (Jvm.Cond.code ({ cls := "StrengthHouse$Machine", name := "timesAtMost", desc := "(II)I" } : Jvm.MethodName) prog_3_method_5_code (2 : Nat) (Option.some Jvm.ClassFile.FieldType.int)),
  (Jvm.Cond.methodLink "StrengthHouse$Machine" (102 : Nat) ({ cls := "StrengthHouse$Machine", name := "isWanted", desc := "(II)Z" } : Jvm.MethodName)),
  (Jvm.Cond.privateMethod ({ cls := "StrengthHouse$Machine", name := "isWanted", desc := "(II)Z" } : Jvm.MethodName)),
  (Jvm.Cond.instanceMethod ({ cls := "StrengthHouse$Machine", name := "isWanted", desc := "(II)Z" } : Jvm.MethodName)),
  (Jvm.Cond.code ({ cls := "StrengthHouse$Machine", name := "isWanted", desc := "(II)Z" } : Jvm.MethodName) prog_3_method_6_code (3 : Nat) (Option.some Jvm.ClassFile.FieldType.boolean)),
  (Jvm.Cond.methodLink "StrengthHouse$Machine" (110 : Nat) ({ cls := "StrengthHouse$Machine", name := "load", desc := "()I" } : Jvm.MethodName)),
  (Jvm.Cond.privateMethod ({ cls := "StrengthHouse$Machine", name := "load", desc := "()I" } : Jvm.MethodName)),
  (Jvm.Cond.instanceMethod ({ cls := "StrengthHouse$Machine", name := "load", desc := "()I" } : Jvm.MethodName))]
def nd_51 : List Jvm.Cond := [(Jvm.Cond.code ({ cls := "StrengthHouse$Machine", name := "load", desc := "()I" } : Jvm.MethodName) prog_3_method_10_code (1 : Nat) (Option.some Jvm.ClassFile.FieldType.int)),
  (Jvm.Cond.methodLink "StrengthHouse$Machine" (142 : Nat) ({ cls := "StrengthHouse$Piece", name := "loadAt", desc := "(I)I" } : Jvm.MethodName)),
  (Jvm.Cond.methodLink "StrengthHouse$Machine" (106 : Nat) ({ cls := "StrengthHouse$Machine", name := "doOnce", desc := "(I)V" } : Jvm.MethodName)),
  (Jvm.Cond.privateMethod ({ cls := "StrengthHouse$Machine", name := "doOnce", desc := "(I)V" } : Jvm.MethodName)),
  (Jvm.Cond.instanceMethod ({ cls := "StrengthHouse$Machine", name := "doOnce", desc := "(I)V" } : Jvm.MethodName)),
  (Jvm.Cond.code ({ cls := "StrengthHouse$Machine", name := "doOnce", desc := "(I)V" } : Jvm.MethodName) prog_3_method_7_code (3 : Nat) (Option.none : Option Jvm.ClassFile.FieldType)),
  (Jvm.Cond.methodLink "StrengthHouse$Machine" (114 : Nat) ({ cls := "StrengthHouse$Machine", name := "moreStretch", desc := "(I)I" } : Jvm.MethodName)),
  (Jvm.Cond.privateMethod ({ cls := "StrengthHouse$Machine", name := "moreStretch", desc := "(I)I" } : Jvm.MethodName)),
  (Jvm.Cond.instanceMethod ({ cls := "StrengthHouse$Machine", name := "moreStretch", desc := "(I)I" } : Jvm.MethodName)),
  (Jvm.Cond.code ({ cls := "StrengthHouse$Machine", name := "moreStretch", desc := "(I)I" } : Jvm.MethodName) prog_3_method_8_code (2 : Nat) (Option.some Jvm.ClassFile.FieldType.int)),
  (Jvm.Cond.methodLink "StrengthHouse$Machine" (134 : Nat) ({ cls := "StrengthHouse$Machine", name := "creeps", desc := "()Z" } : Jvm.MethodName)),
  (Jvm.Cond.privateMethod ({ cls := "StrengthHouse$Machine", name := "creeps", desc := "()Z" } : Jvm.MethodName)),
  (Jvm.Cond.instanceMethod ({ cls := "StrengthHouse$Machine", name := "creeps", desc := "()Z" } : Jvm.MethodName)),
  (Jvm.Cond.code ({ cls := "StrengthHouse$Machine", name := "creeps", desc := "()Z" } : Jvm.MethodName) prog_3_method_9_code (1 : Nat) (Option.some Jvm.ClassFile.FieldType.boolean)),
  (Jvm.Cond.methodLink "StrengthHouse$Machine" (138 : Nat) ({ cls := "StrengthHouse$Piece", name := "isOf", desc := "(I)Z" } : Jvm.MethodName)),
  (Jvm.Cond.methodLink "StrengthHouse$Machine" (117 : Nat) ({ cls := "java/lang/Math", name := "max", desc := "(II)I" } : Jvm.MethodName))]
def nd_52 : List Jvm.Cond := [(Jvm.Cond.methodLink "StrengthHouse$Machine" (122 : Nat) ({ cls := "StrengthHouse$Piece", name := "lastStretch", desc := "()I" } : Jvm.MethodName)),
  (Jvm.Cond.methodLink "StrengthHouse$Machine" (125 : Nat) ({ cls := "java/lang/Math", name := "floorMod", desc := "(II)I" } : Jvm.MethodName)),
  (Jvm.Cond.static ({ cls := "java/lang/Math", name := "floorMod", desc := "(II)I" } : Jvm.MethodName)),
  (Jvm.Cond.code ({ cls := "java/lang/Math", name := "floorMod", desc := "(II)I" } : Jvm.MethodName) prog_16_method_50_code (3 : Nat) (Option.some Jvm.ClassFile.FieldType.int)),
  (Jvm.Cond.methodLink "StrengthHouse$Machine" (128 : Nat) ({ cls := "StrengthHouse$Machine", name := "take", desc := "()V" } : Jvm.MethodName)),
  (Jvm.Cond.privateMethod ({ cls := "StrengthHouse$Machine", name := "take", desc := "()V" } : Jvm.MethodName)),
  (Jvm.Cond.instanceMethod ({ cls := "StrengthHouse$Machine", name := "take", desc := "()V" } : Jvm.MethodName)),
  (Jvm.Cond.code ({ cls := "StrengthHouse$Machine", name := "take", desc := "()V" } : Jvm.MethodName) prog_3_method_11_code (3 : Nat) (Option.none : Option Jvm.ClassFile.FieldType)),
  (Jvm.Cond.methodLink "StrengthHouse$Machine" (148 : Nat) ({ cls := "StrengthHouse$Readings", name := "add", desc := "(II)V" } : Jvm.MethodName)),
  (Jvm.Cond.methodLink "StrengthHouse$Machine" (131 : Nat) ({ cls := "StrengthHouse$Machine", name := "askLimits", desc := "(I)V" } : Jvm.MethodName)),
  (Jvm.Cond.privateMethod ({ cls := "StrengthHouse$Machine", name := "askLimits", desc := "(I)V" } : Jvm.MethodName)),
  (Jvm.Cond.instanceMethod ({ cls := "StrengthHouse$Machine", name := "askLimits", desc := "(I)V" } : Jvm.MethodName)),
  (Jvm.Cond.code ({ cls := "StrengthHouse$Machine", name := "askLimits", desc := "(I)V" } : Jvm.MethodName) prog_3_method_12_code (2 : Nat) (Option.none : Option Jvm.ClassFile.FieldType)),
  (Jvm.Cond.methodLink "StrengthHouse" (212 : Nat) ({ cls := "StrengthHouse$Readings", name := "copyFrom", desc := "(LStrengthHouse$Readings;)V" } : Jvm.MethodName)),
  (Jvm.Cond.instanceMethod ({ cls := "StrengthHouse$Readings", name := "copyFrom", desc := "(LStrengthHouse$Readings;)V" } : Jvm.MethodName)),
  (Jvm.Cond.selects "StrengthHouse$Readings" ({ cls := "StrengthHouse$Readings", name := "copyFrom", desc := "(LStrengthHouse$Readings;)V" } : Jvm.MethodName) ({ cls := "StrengthHouse$Readings", name := "copyFrom", desc := "(LStrengthHouse$Readings;)V" } : Jvm.MethodName))]
def nd_53 : List Jvm.Cond := [(Jvm.Cond.code ({ cls := "StrengthHouse$Readings", name := "copyFrom", desc := "(LStrengthHouse$Readings;)V" } : Jvm.MethodName) prog_8_method_20_code (2 : Nat) (Option.none : Option Jvm.ClassFile.FieldType)),
  (Jvm.Cond.methodLink "StrengthHouse$Readings" (93 : Nat) ({ cls := "java/lang/System", name := "arraycopy", desc := "(Ljava/lang/Object;ILjava/lang/Object;II)V" } : Jvm.MethodName)),
  (Jvm.Cond.methodLink "StrengthHouse" (215 : Nat) ({ cls := "StrengthHouse$State", name := "keepRun", desc := "(LStrengthHouse$Machine;)V" } : Jvm.MethodName)),
  (Jvm.Cond.instanceMethod ({ cls := "StrengthHouse$State", name := "keepRun", desc := "(LStrengthHouse$Machine;)V" } : Jvm.MethodName)),
  (Jvm.Cond.selects "StrengthHouse$State" ({ cls := "StrengthHouse$State", name := "keepRun", desc := "(LStrengthHouse$Machine;)V" } : Jvm.MethodName) ({ cls := "StrengthHouse$State", name := "keepRun", desc := "(LStrengthHouse$Machine;)V" } : Jvm.MethodName)),
  (Jvm.Cond.code ({ cls := "StrengthHouse$State", name := "keepRun", desc := "(LStrengthHouse$Machine;)V" } : Jvm.MethodName) prog_10_method_12_code (2 : Nat) (Option.none : Option Jvm.ClassFile.FieldType)),
  (Jvm.Cond.methodLink "StrengthHouseLaw" (60 : Nat) ({ cls := "StrengthHouse", name := "ran", desc := "(I)I" } : Jvm.MethodName)),
  (Jvm.Cond.instanceMethod ({ cls := "StrengthHouse", name := "ran", desc := "(I)I" } : Jvm.MethodName)),
  (Jvm.Cond.selects "StrengthHouse" ({ cls := "StrengthHouse", name := "ran", desc := "(I)I" } : Jvm.MethodName) ({ cls := "StrengthHouse", name := "ran", desc := "(I)I" } : Jvm.MethodName)),
  (Jvm.Cond.code ({ cls := "StrengthHouse", name := "ran", desc := "(I)I" } : Jvm.MethodName) prog_1_method_12_code (2 : Nat) (Option.some Jvm.ClassFile.FieldType.int)),
  (Jvm.Cond.methodLink "StrengthHouse" (225 : Nat) ({ cls := "StrengthHouse$State", name := "ranAt", desc := "(I)I" } : Jvm.MethodName)),
  (Jvm.Cond.instanceMethod ({ cls := "StrengthHouse$State", name := "ranAt", desc := "(I)I" } : Jvm.MethodName)),
  (Jvm.Cond.selects "StrengthHouse$State" ({ cls := "StrengthHouse$State", name := "ranAt", desc := "(I)I" } : Jvm.MethodName) ({ cls := "StrengthHouse$State", name := "ranAt", desc := "(I)I" } : Jvm.MethodName)),
  (Jvm.Cond.code ({ cls := "StrengthHouse$State", name := "ranAt", desc := "(I)I" } : Jvm.MethodName) prog_10_method_13_code (2 : Nat) (Option.some Jvm.ClassFile.FieldType.int)),
  (Jvm.Cond.methodLink "StrengthHouseLaw" (64 : Nat) ({ cls := "StrengthHouse", name := "line", desc := "(II)I" } : Jvm.MethodName)),
  (Jvm.Cond.instanceMethod ({ cls := "StrengthHouse", name := "line", desc := "(II)I" } : Jvm.MethodName))]
def nd_54 : List Jvm.Cond := [(Jvm.Cond.selects "StrengthHouse" ({ cls := "StrengthHouse", name := "line", desc := "(II)I" } : Jvm.MethodName) ({ cls := "StrengthHouse", name := "line", desc := "(II)I" } : Jvm.MethodName)),
  (Jvm.Cond.code ({ cls := "StrengthHouse", name := "line", desc := "(II)I" } : Jvm.MethodName) prog_1_method_13_code (5 : Nat) (Option.some Jvm.ClassFile.FieldType.int)),
  (Jvm.Cond.methodLink "StrengthHouse" (228 : Nat) ({ cls := "StrengthHouse$Readings", name := "findLine", desc := "()Z" } : Jvm.MethodName)),
  (Jvm.Cond.instanceMethod ({ cls := "StrengthHouse$Readings", name := "findLine", desc := "()Z" } : Jvm.MethodName)),
  (Jvm.Cond.selects "StrengthHouse$Readings" ({ cls := "StrengthHouse$Readings", name := "findLine", desc := "()Z" } : Jvm.MethodName) ({ cls := "StrengthHouse$Readings", name := "findLine", desc := "()Z" } : Jvm.MethodName)),
  (Jvm.Cond.code ({ cls := "StrengthHouse$Readings", name := "findLine", desc := "()Z" } : Jvm.MethodName) prog_8_method_9_code (3 : Nat) (Option.some Jvm.ClassFile.FieldType.boolean)),
  (Jvm.Cond.methodLink "StrengthHouse$Readings" (42 : Nat) ({ cls := "StrengthHouse$Readings", name := "tryLine", desc := "(II)V" } : Jvm.MethodName)),
  (Jvm.Cond.privateMethod ({ cls := "StrengthHouse$Readings", name := "tryLine", desc := "(II)V" } : Jvm.MethodName)),
  (Jvm.Cond.instanceMethod ({ cls := "StrengthHouse$Readings", name := "tryLine", desc := "(II)V" } : Jvm.MethodName)),
  (Jvm.Cond.code ({ cls := "StrengthHouse$Readings", name := "tryLine", desc := "(II)V" } : Jvm.MethodName) prog_8_method_10_code (5 : Nat) (Option.none : Option Jvm.ClassFile.FieldType)),
  (Jvm.Cond.methodLink "StrengthHouse$Readings" (31 : Nat) ({ cls := "StrengthHouse$Readings", name := "stretchAt", desc := "(I)I" } : Jvm.MethodName)),
  (Jvm.Cond.methodLink "StrengthHouse$Readings" (46 : Nat) ({ cls := "StrengthHouse$Readings", name := "belowLine", desc := "(IIII)J" } : Jvm.MethodName)),
  (Jvm.Cond.privateMethod ({ cls := "StrengthHouse$Readings", name := "belowLine", desc := "(IIII)J" } : Jvm.MethodName)),
  (Jvm.Cond.instanceMethod ({ cls := "StrengthHouse$Readings", name := "belowLine", desc := "(IIII)J" } : Jvm.MethodName)),
  (Jvm.Cond.code ({ cls := "StrengthHouse$Readings", name := "belowLine", desc := "(IIII)J" } : Jvm.MethodName) prog_8_method_11_code (13 : Nat) (Option.some Jvm.ClassFile.FieldType.long)),
  (Jvm.Cond.methodLink "StrengthHouseLaw" (68 : Nat) ({ cls := "StrengthHouse", name := "yields", desc := "(II)I" } : Jvm.MethodName))]
def nd_55 : List Jvm.Cond := [(Jvm.Cond.instanceMethod ({ cls := "StrengthHouse", name := "yields", desc := "(II)I" } : Jvm.MethodName)),
  (Jvm.Cond.selects "StrengthHouse" ({ cls := "StrengthHouse", name := "yields", desc := "(II)I" } : Jvm.MethodName) ({ cls := "StrengthHouse", name := "yields", desc := "(II)I" } : Jvm.MethodName)),
  (Jvm.Cond.code ({ cls := "StrengthHouse", name := "yields", desc := "(II)I" } : Jvm.MethodName) prog_1_method_14_code (4 : Nat) (Option.some Jvm.ClassFile.FieldType.int)),
  (Jvm.Cond.methodLink "StrengthHouse" (240 : Nat) ({ cls := "StrengthHouse$Readings", name := "yieldAt", desc := "(I)I" } : Jvm.MethodName)),
  (Jvm.Cond.instanceMethod ({ cls := "StrengthHouse$Readings", name := "yieldAt", desc := "(I)I" } : Jvm.MethodName)),
  (Jvm.Cond.selects "StrengthHouse$Readings" ({ cls := "StrengthHouse$Readings", name := "yieldAt", desc := "(I)I" } : Jvm.MethodName) ({ cls := "StrengthHouse$Readings", name := "yieldAt", desc := "(I)I" } : Jvm.MethodName)),
  (Jvm.Cond.code ({ cls := "StrengthHouse$Readings", name := "yieldAt", desc := "(I)I" } : Jvm.MethodName) prog_8_method_12_code (3 : Nat) (Option.some Jvm.ClassFile.FieldType.int)),
  (Jvm.Cond.methodLink "StrengthHouse$Readings" (50 : Nat) ({ cls := "StrengthHouse$Readings", name := "findLine", desc := "()Z" } : Jvm.MethodName)),
  (Jvm.Cond.methodLink "StrengthHouse" (243 : Nat) ({ cls := "StrengthHouse", name := "orNone", desc := "(I)I" } : Jvm.MethodName)),
  (Jvm.Cond.privateMethod ({ cls := "StrengthHouse", name := "orNone", desc := "(I)I" } : Jvm.MethodName)),
  (Jvm.Cond.instanceMethod ({ cls := "StrengthHouse", name := "orNone", desc := "(I)I" } : Jvm.MethodName)),
  (Jvm.Cond.code ({ cls := "StrengthHouse", name := "orNone", desc := "(I)I" } : Jvm.MethodName) prog_1_method_44_code (2 : Nat) (Option.some Jvm.ClassFile.FieldType.int)),
  (Jvm.Cond.methodLink "StrengthHouseLaw" (72 : Nat) ({ cls := "StrengthHouse", name := "top", desc := "(I)I" } : Jvm.MethodName)),
  (Jvm.Cond.instanceMethod ({ cls := "StrengthHouse", name := "top", desc := "(I)I" } : Jvm.MethodName)),
  (Jvm.Cond.selects "StrengthHouse" ({ cls := "StrengthHouse", name := "top", desc := "(I)I" } : Jvm.MethodName) ({ cls := "StrengthHouse", name := "top", desc := "(I)I" } : Jvm.MethodName)),
  (Jvm.Cond.code ({ cls := "StrengthHouse", name := "top", desc := "(I)I" } : Jvm.MethodName) prog_1_method_15_code (3 : Nat) (Option.some Jvm.ClassFile.FieldType.int))]
def nd_56 : List Jvm.Cond := [(Jvm.Cond.methodLink "StrengthHouse" (246 : Nat) ({ cls := "StrengthHouse$Readings", name := "numberBy", desc := "(I)I" } : Jvm.MethodName)),
  (Jvm.Cond.instanceMethod ({ cls := "StrengthHouse$Readings", name := "numberBy", desc := "(I)I" } : Jvm.MethodName)),
  (Jvm.Cond.selects "StrengthHouse$Readings" ({ cls := "StrengthHouse$Readings", name := "numberBy", desc := "(I)I" } : Jvm.MethodName) ({ cls := "StrengthHouse$Readings", name := "numberBy", desc := "(I)I" } : Jvm.MethodName)),
  (Jvm.Cond.code ({ cls := "StrengthHouse$Readings", name := "numberBy", desc := "(I)I" } : Jvm.MethodName) prog_8_method_17_code (3 : Nat) (Option.some Jvm.ClassFile.FieldType.int)),
  (Jvm.Cond.methodLink "StrengthHouse$Readings" (54 : Nat) ({ cls := "StrengthHouse$Readings", name := "topAt", desc := "()I" } : Jvm.MethodName)),
  (Jvm.Cond.privateMethod ({ cls := "StrengthHouse$Readings", name := "topAt", desc := "()I" } : Jvm.MethodName)),
  (Jvm.Cond.instanceMethod ({ cls := "StrengthHouse$Readings", name := "topAt", desc := "()I" } : Jvm.MethodName)),
  (Jvm.Cond.code ({ cls := "StrengthHouse$Readings", name := "topAt", desc := "()I" } : Jvm.MethodName) prog_8_method_13_code (3 : Nat) (Option.some Jvm.ClassFile.FieldType.int)),
  (Jvm.Cond.methodLink "StrengthHouse$Readings" (70 : Nat) ({ cls := "StrengthHouse$Readings", name := "yieldAt", desc := "(I)I" } : Jvm.MethodName)),
  (Jvm.Cond.methodLink "StrengthHouse$Readings" (73 : Nat) ({ cls := "StrengthHouse$Readings", name := "stretchOr", desc := "(I)I" } : Jvm.MethodName)),
  (Jvm.Cond.privateMethod ({ cls := "StrengthHouse$Readings", name := "stretchOr", desc := "(I)I" } : Jvm.MethodName)),
  (Jvm.Cond.instanceMethod ({ cls := "StrengthHouse$Readings", name := "stretchOr", desc := "(I)I" } : Jvm.MethodName)),
  (Jvm.Cond.code ({ cls := "StrengthHouse$Readings", name := "stretchOr", desc := "(I)I" } : Jvm.MethodName) prog_8_method_18_code (2 : Nat) (Option.some Jvm.ClassFile.FieldType.int)),
  (Jvm.Cond.methodLink "StrengthHouse$Readings" (76 : Nat) ({ cls := "StrengthHouse$Readings", name := "breakAt", desc := "(I)I" } : Jvm.MethodName)),
  (Jvm.Cond.instanceMethod ({ cls := "StrengthHouse$Readings", name := "breakAt", desc := "(I)I" } : Jvm.MethodName)),
  (Jvm.Cond.selects "StrengthHouse$Readings" ({ cls := "StrengthHouse$Readings", name := "breakAt", desc := "(I)I" } : Jvm.MethodName) ({ cls := "StrengthHouse$Readings", name := "breakAt", desc := "(I)I" } : Jvm.MethodName))]
def nd_57 : List Jvm.Cond := [(Jvm.Cond.code ({ cls := "StrengthHouse$Readings", name := "breakAt", desc := "(I)I" } : Jvm.MethodName) prog_8_method_14_code (4 : Nat) (Option.some Jvm.ClassFile.FieldType.int)),
  (Jvm.Cond.constantLong "StrengthHouse$Readings" (58 : Nat) (100 : Int64)),
  (Jvm.Cond.constantLong "StrengthHouse$Readings" (79 : Nat) (2000000000 : Int64)),
  (Jvm.Cond.methodLink "StrengthHouse$Readings" (81 : Nat) ({ cls := "StrengthHouse$Readings", name := "spentUpTo", desc := "(I)J" } : Jvm.MethodName)),
  (Jvm.Cond.instanceMethod ({ cls := "StrengthHouse$Readings", name := "spentUpTo", desc := "(I)J" } : Jvm.MethodName)),
  (Jvm.Cond.selects "StrengthHouse$Readings" ({ cls := "StrengthHouse$Readings", name := "spentUpTo", desc := "(I)J" } : Jvm.MethodName) ({ cls := "StrengthHouse$Readings", name := "spentUpTo", desc := "(I)J" } : Jvm.MethodName)),
  (Jvm.Cond.code ({ cls := "StrengthHouse$Readings", name := "spentUpTo", desc := "(I)J" } : Jvm.MethodName) prog_8_method_15_code (6 : Nat) (Option.some Jvm.ClassFile.FieldType.long)),
  (Jvm.Cond.methodLink "StrengthHouse$Readings" (60 : Nat) ({ cls := "StrengthHouse$Readings", name := "spentBetween", desc := "(II)J" } : Jvm.MethodName)),
  (Jvm.Cond.privateMethod ({ cls := "StrengthHouse$Readings", name := "spentBetween", desc := "(II)J" } : Jvm.MethodName)),
  (Jvm.Cond.instanceMethod ({ cls := "StrengthHouse$Readings", name := "spentBetween", desc := "(II)J" } : Jvm.MethodName)),
  (Jvm.Cond.code ({ cls := "StrengthHouse$Readings", name := "spentBetween", desc := "(II)J" } : Jvm.MethodName) prog_8_method_16_code (5 : Nat) (Option.some Jvm.ClassFile.FieldType.long)),
  (Jvm.Cond.methodLink "StrengthHouse$Readings" (64 : Nat) ({ cls := "java/lang/Math", name := "max", desc := "(II)I" } : Jvm.MethodName)),
  (Jvm.Cond.methodLink "StrengthHouse$Readings" (85 : Nat) ({ cls := "java/lang/Math", name := "min", desc := "(JJ)J" } : Jvm.MethodName)),
  (Jvm.Cond.static ({ cls := "java/lang/Math", name := "min", desc := "(JJ)J" } : Jvm.MethodName)),
  (Jvm.Cond.code ({ cls := "java/lang/Math", name := "min", desc := "(JJ)J" } : Jvm.MethodName) prog_16_method_70_code (4 : Nat) (Option.some Jvm.ClassFile.FieldType.long)),
  (Jvm.Cond.methodLink "StrengthHouseLaw" (76 : Nat) ({ cls := "StrengthHouse", name := "breaks", desc := "(II)I" } : Jvm.MethodName))]
def nd_58 : List Jvm.Cond := [(Jvm.Cond.instanceMethod ({ cls := "StrengthHouse", name := "breaks", desc := "(II)I" } : Jvm.MethodName)),
  (Jvm.Cond.selects "StrengthHouse" ({ cls := "StrengthHouse", name := "breaks", desc := "(II)I" } : Jvm.MethodName) ({ cls := "StrengthHouse", name := "breaks", desc := "(II)I" } : Jvm.MethodName)),
  (Jvm.Cond.code ({ cls := "StrengthHouse", name := "breaks", desc := "(II)I" } : Jvm.MethodName) prog_1_method_16_code (4 : Nat) (Option.some Jvm.ClassFile.FieldType.int)),
  (Jvm.Cond.methodLink "StrengthHouse" (249 : Nat) ({ cls := "StrengthHouse$Readings", name := "breakAt", desc := "(I)I" } : Jvm.MethodName)),
  (Jvm.Cond.methodLink "StrengthHouseLaw" (80 : Nat) ({ cls := "StrengthHouse", name := "spent", desc := "(II)J" } : Jvm.MethodName)),
  (Jvm.Cond.instanceMethod ({ cls := "StrengthHouse", name := "spent", desc := "(II)J" } : Jvm.MethodName)),
  (Jvm.Cond.selects "StrengthHouse" ({ cls := "StrengthHouse", name := "spent", desc := "(II)J" } : Jvm.MethodName) ({ cls := "StrengthHouse", name := "spent", desc := "(II)J" } : Jvm.MethodName)),
  (Jvm.Cond.code ({ cls := "StrengthHouse", name := "spent", desc := "(II)J" } : Jvm.MethodName) prog_1_method_17_code (4 : Nat) (Option.some Jvm.ClassFile.FieldType.long)),
  (Jvm.Cond.methodLink "StrengthHouse" (252 : Nat) ({ cls := "StrengthHouse$Readings", name := "spentUpTo", desc := "(I)J" } : Jvm.MethodName)),
  (Jvm.Cond.methodLink "StrengthHouseLaw" (85 : Nat) ({ cls := "StrengthHouse", name := "number", desc := "(II)I" } : Jvm.MethodName)),
  (Jvm.Cond.instanceMethod ({ cls := "StrengthHouse", name := "number", desc := "(II)I" } : Jvm.MethodName)),
  (Jvm.Cond.selects "StrengthHouse" ({ cls := "StrengthHouse", name := "number", desc := "(II)I" } : Jvm.MethodName) ({ cls := "StrengthHouse", name := "number", desc := "(II)I" } : Jvm.MethodName)),
  (Jvm.Cond.code ({ cls := "StrengthHouse", name := "number", desc := "(II)I" } : Jvm.MethodName) prog_1_method_18_code (4 : Nat) (Option.some Jvm.ClassFile.FieldType.int)),
  (Jvm.Cond.methodLink "StrengthHouse" (256 : Nat) ({ cls := "StrengthHouse", name := "isLaw", desc := "(I)Z" } : Jvm.MethodName)),
  (Jvm.Cond.static ({ cls := "StrengthHouse", name := "isLaw", desc := "(I)Z" } : Jvm.MethodName)),
  (Jvm.Cond.code ({ cls := "StrengthHouse", name := "isLaw", desc := "(I)Z" } : Jvm.MethodName) prog_1_method_54_code (1 : Nat) (Option.some Jvm.ClassFile.FieldType.boolean))]
def nd_59 : List Jvm.Cond := [(Jvm.Cond.methodLink "StrengthHouseLaw" (89 : Nat) ({ cls := "StrengthHouse", name := "curve", desc := "(III)I" } : Jvm.MethodName)),
  (Jvm.Cond.instanceMethod ({ cls := "StrengthHouse", name := "curve", desc := "(III)I" } : Jvm.MethodName)),
  (Jvm.Cond.selects "StrengthHouse" ({ cls := "StrengthHouse", name := "curve", desc := "(III)I" } : Jvm.MethodName) ({ cls := "StrengthHouse", name := "curve", desc := "(III)I" } : Jvm.MethodName)),
  (Jvm.Cond.code ({ cls := "StrengthHouse", name := "curve", desc := "(III)I" } : Jvm.MethodName) prog_1_method_19_code (5 : Nat) (Option.some Jvm.ClassFile.FieldType.int)),
  (Jvm.Cond.methodLink "StrengthHouse" (259 : Nat) ({ cls := "StrengthHouse", name := "orderCurves", desc := "(II)V" } : Jvm.MethodName)),
  (Jvm.Cond.privateMethod ({ cls := "StrengthHouse", name := "orderCurves", desc := "(II)V" } : Jvm.MethodName)),
  (Jvm.Cond.instanceMethod ({ cls := "StrengthHouse", name := "orderCurves", desc := "(II)V" } : Jvm.MethodName)),
  (Jvm.Cond.code ({ cls := "StrengthHouse", name := "orderCurves", desc := "(II)V" } : Jvm.MethodName) prog_1_method_46_code (6 : Nat) (Option.none : Option Jvm.ClassFile.FieldType)),
  (Jvm.Cond.methodLink "StrengthHouse" (403 : Nat) ({ cls := "StrengthHouse$Order", name := "clear", desc := "()V" } : Jvm.MethodName)),
  (Jvm.Cond.instanceMethod ({ cls := "StrengthHouse$Order", name := "clear", desc := "()V" } : Jvm.MethodName)),
  (Jvm.Cond.selects "StrengthHouse$Order" ({ cls := "StrengthHouse$Order", name := "clear", desc := "()V" } : Jvm.MethodName) ({ cls := "StrengthHouse$Order", name := "clear", desc := "()V" } : Jvm.MethodName)),
  (Jvm.Cond.code ({ cls := "StrengthHouse$Order", name := "clear", desc := "()V" } : Jvm.MethodName) prog_5_method_2_code (1 : Nat) (Option.none : Option Jvm.ClassFile.FieldType)),
  (Jvm.Cond.methodLink "StrengthHouse" (404 : Nat) ({ cls := "StrengthHouse$Readings", name := "curveAt", desc := "(I)I" } : Jvm.MethodName)),
  (Jvm.Cond.instanceMethod ({ cls := "StrengthHouse$Readings", name := "curveAt", desc := "(I)I" } : Jvm.MethodName)),
  (Jvm.Cond.selects "StrengthHouse$Readings" ({ cls := "StrengthHouse$Readings", name := "curveAt", desc := "(I)I" } : Jvm.MethodName) ({ cls := "StrengthHouse$Readings", name := "curveAt", desc := "(I)I" } : Jvm.MethodName)),
  (Jvm.Cond.code ({ cls := "StrengthHouse$Readings", name := "curveAt", desc := "(I)I" } : Jvm.MethodName) prog_8_method_19_code (4 : Nat) (Option.some Jvm.ClassFile.FieldType.int))]
def nd_60 : List Jvm.Cond := [(Jvm.Cond.methodLinkNest "StrengthHouse$Readings" (89 : Nat) ({ cls := "StrengthHouse", name := "straight", desc := "(IIII)I" } : Jvm.MethodName) "StrengthHouse"),
  (Jvm.Cond.methodLink "StrengthHouse" (407 : Nat) ({ cls := "StrengthHouse$Order", name := "insert", desc := "(II)V" } : Jvm.MethodName)),
  (Jvm.Cond.instanceMethod ({ cls := "StrengthHouse$Order", name := "insert", desc := "(II)V" } : Jvm.MethodName)),
  (Jvm.Cond.selects "StrengthHouse$Order" ({ cls := "StrengthHouse$Order", name := "insert", desc := "(II)V" } : Jvm.MethodName) ({ cls := "StrengthHouse$Order", name := "insert", desc := "(II)V" } : Jvm.MethodName)),
  (Jvm.Cond.code ({ cls := "StrengthHouse$Order", name := "insert", desc := "(II)V" } : Jvm.MethodName) prog_5_method_3_code (4 : Nat) (Option.none : Option Jvm.ClassFile.FieldType)),
  (Jvm.Cond.methodLink "StrengthHouse" (263 : Nat) ({ cls := "StrengthHouse$Order", name := "valueAt", desc := "(I)I" } : Jvm.MethodName)),
  (Jvm.Cond.instanceMethod ({ cls := "StrengthHouse$Order", name := "valueAt", desc := "(I)I" } : Jvm.MethodName)),
  (Jvm.Cond.selects "StrengthHouse$Order" ({ cls := "StrengthHouse$Order", name := "valueAt", desc := "(I)I" } : Jvm.MethodName) ({ cls := "StrengthHouse$Order", name := "valueAt", desc := "(I)I" } : Jvm.MethodName)),
  (Jvm.Cond.code ({ cls := "StrengthHouse$Order", name := "valueAt", desc := "(I)I" } : Jvm.MethodName) prog_5_method_4_code (2 : Nat) (Option.some Jvm.ClassFile.FieldType.int)),
  (Jvm.Cond.methodLink "StrengthHouseLaw" (93 : Nat) ({ cls := "StrengthHouse", name := "odd", desc := "(III)I" } : Jvm.MethodName)),
  (Jvm.Cond.instanceMethod ({ cls := "StrengthHouse", name := "odd", desc := "(III)I" } : Jvm.MethodName)),
  (Jvm.Cond.selects "StrengthHouse" ({ cls := "StrengthHouse", name := "odd", desc := "(III)I" } : Jvm.MethodName) ({ cls := "StrengthHouse", name := "odd", desc := "(III)I" } : Jvm.MethodName)),
  (Jvm.Cond.code ({ cls := "StrengthHouse", name := "odd", desc := "(III)I" } : Jvm.MethodName) prog_1_method_20_code (4 : Nat) (Option.some Jvm.ClassFile.FieldType.int)),
  (Jvm.Cond.methodLink "StrengthHouse" (266 : Nat) ({ cls := "StrengthHouse", name := "orderNumbers", desc := "(II)V" } : Jvm.MethodName)),
  (Jvm.Cond.privateMethod ({ cls := "StrengthHouse", name := "orderNumbers", desc := "(II)V" } : Jvm.MethodName)),
  (Jvm.Cond.instanceMethod ({ cls := "StrengthHouse", name := "orderNumbers", desc := "(II)V" } : Jvm.MethodName))]
def nd_61 : List Jvm.Cond := [(Jvm.Cond.code ({ cls := "StrengthHouse", name := "orderNumbers", desc := "(II)V" } : Jvm.MethodName) prog_1_method_47_code (6 : Nat) (Option.none : Option Jvm.ClassFile.FieldType)),
  (Jvm.Cond.methodLink "StrengthHouse" (269 : Nat) ({ cls := "StrengthHouse$Order", name := "oddPiece", desc := "(I)I" } : Jvm.MethodName)),
  (Jvm.Cond.instanceMethod ({ cls := "StrengthHouse$Order", name := "oddPiece", desc := "(I)I" } : Jvm.MethodName)),
  (Jvm.Cond.selects "StrengthHouse$Order" ({ cls := "StrengthHouse$Order", name := "oddPiece", desc := "(I)I" } : Jvm.MethodName) ({ cls := "StrengthHouse$Order", name := "oddPiece", desc := "(I)I" } : Jvm.MethodName)),
  (Jvm.Cond.code ({ cls := "StrengthHouse$Order", name := "oddPiece", desc := "(I)I" } : Jvm.MethodName) prog_5_method_6_code (3 : Nat) (Option.some Jvm.ClassFile.FieldType.int)),
  (Jvm.Cond.methodLink "StrengthHouse$Order" (22 : Nat) ({ cls := "StrengthHouse$Order", name := "isApart", desc := "(III)Z" } : Jvm.MethodName)),
  (Jvm.Cond.privateMethod ({ cls := "StrengthHouse$Order", name := "isApart", desc := "(III)Z" } : Jvm.MethodName)),
  (Jvm.Cond.instanceMethod ({ cls := "StrengthHouse$Order", name := "isApart", desc := "(III)Z" } : Jvm.MethodName)),
  (Jvm.Cond.code ({ cls := "StrengthHouse$Order", name := "isApart", desc := "(III)Z" } : Jvm.MethodName) prog_5_method_7_code (8 : Nat) (Option.some Jvm.ClassFile.FieldType.boolean)),
  (Jvm.Cond.methodLink "StrengthHouse$Order" (26 : Nat) ({ cls := "StrengthHouse$Order", name := "valueAt", desc := "(I)I" } : Jvm.MethodName)),
  (Jvm.Cond.constantLong "StrengthHouse$Order" (30 : Nat) (100 : Int64)),
  (Jvm.Cond.methodLink "StrengthHouseLaw" (97 : Nat) ({ cls := "StrengthHouse", name := "sure", desc := "(IIII)I" } : Jvm.MethodName)),
  (Jvm.Cond.instanceMethod ({ cls := "StrengthHouse", name := "sure", desc := "(IIII)I" } : Jvm.MethodName)),
  (Jvm.Cond.selects "StrengthHouse" ({ cls := "StrengthHouse", name := "sure", desc := "(IIII)I" } : Jvm.MethodName) ({ cls := "StrengthHouse", name := "sure", desc := "(IIII)I" } : Jvm.MethodName)),
  (Jvm.Cond.code ({ cls := "StrengthHouse", name := "sure", desc := "(IIII)I" } : Jvm.MethodName) prog_1_method_21_code (6 : Nat) (Option.some Jvm.ClassFile.FieldType.int)),
  (Jvm.Cond.methodLink "StrengthHouse" (272 : Nat) ({ cls := "StrengthHouse", name := "isTenths", desc := "(I)Z" } : Jvm.MethodName))]
def nd_62 : List Jvm.Cond := [(Jvm.Cond.static ({ cls := "StrengthHouse", name := "isTenths", desc := "(I)Z" } : Jvm.MethodName)),
  (Jvm.Cond.code ({ cls := "StrengthHouse", name := "isTenths", desc := "(I)Z" } : Jvm.MethodName) prog_1_method_57_code (1 : Nat) (Option.some Jvm.ClassFile.FieldType.boolean)),
  (Jvm.Cond.methodLink "StrengthHouse" (275 : Nat) ({ cls := "StrengthHouse$Order", name := "surePlace", desc := "(III)I" } : Jvm.MethodName)),
  (Jvm.Cond.static ({ cls := "StrengthHouse$Order", name := "surePlace", desc := "(III)I" } : Jvm.MethodName)),
  (Jvm.Cond.code ({ cls := "StrengthHouse$Order", name := "surePlace", desc := "(III)I" } : Jvm.MethodName) prog_5_method_8_code (10 : Nat) (Option.some Jvm.ClassFile.FieldType.int)),
  (Jvm.Cond.methodLink "StrengthHouse$Order" (32 : Nat) ({ cls := "StrengthHouse$Order", name := "power", desc := "(II)J" } : Jvm.MethodName)),
  (Jvm.Cond.static ({ cls := "StrengthHouse$Order", name := "power", desc := "(II)J" } : Jvm.MethodName)),
  (Jvm.Cond.code ({ cls := "StrengthHouse$Order", name := "power", desc := "(II)J" } : Jvm.MethodName) prog_5_method_9_code (5 : Nat) (Option.some Jvm.ClassFile.FieldType.long)),
  (Jvm.Cond.constantLong "StrengthHouse$Order" (36 : Nat) (10 : Int64)),
  (Jvm.Cond.methodLink "StrengthHouseLaw" (102 : Nat) ({ cls := "StrengthHouse", name := "few", desc := "(II)I" } : Jvm.MethodName)),
  (Jvm.Cond.instanceMethod ({ cls := "StrengthHouse", name := "few", desc := "(II)I" } : Jvm.MethodName)),
  (Jvm.Cond.selects "StrengthHouse" ({ cls := "StrengthHouse", name := "few", desc := "(II)I" } : Jvm.MethodName) ({ cls := "StrengthHouse", name := "few", desc := "(II)I" } : Jvm.MethodName)),
  (Jvm.Cond.code ({ cls := "StrengthHouse", name := "few", desc := "(II)I" } : Jvm.MethodName) prog_1_method_22_code (4 : Nat) (Option.some Jvm.ClassFile.FieldType.int)),
  (Jvm.Cond.methodLink "StrengthHouseLaw" (106 : Nat) ({ cls := "StrengthHouse", name := "prove", desc := "(IIII)I" } : Jvm.MethodName)),
  (Jvm.Cond.instanceMethod ({ cls := "StrengthHouse", name := "prove", desc := "(IIII)I" } : Jvm.MethodName)),
  (Jvm.Cond.selects "StrengthHouse" ({ cls := "StrengthHouse", name := "prove", desc := "(IIII)I" } : Jvm.MethodName) ({ cls := "StrengthHouse", name := "prove", desc := "(IIII)I" } : Jvm.MethodName))]
def nd_63 : List Jvm.Cond := [(Jvm.Cond.code ({ cls := "StrengthHouse", name := "prove", desc := "(IIII)I" } : Jvm.MethodName) prog_1_method_23_code (7 : Nat) (Option.some Jvm.ClassFile.FieldType.int)),
  (Jvm.Cond.methodLink "StrengthHouse" (279 : Nat) ({ cls := "StrengthHouse", name := "isMeter", desc := "(I)Z" } : Jvm.MethodName)),
  (Jvm.Cond.static ({ cls := "StrengthHouse", name := "isMeter", desc := "(I)Z" } : Jvm.MethodName)),
  (Jvm.Cond.code ({ cls := "StrengthHouse", name := "isMeter", desc := "(I)Z" } : Jvm.MethodName) prog_1_method_55_code (1 : Nat) (Option.some Jvm.ClassFile.FieldType.boolean)),
  (Jvm.Cond.methodLink "StrengthHouse" (286 : Nat) ({ cls := "StrengthHouse$Meters", name := "set", desc := "(IIIII)V" } : Jvm.MethodName)),
  (Jvm.Cond.instanceMethod ({ cls := "StrengthHouse$Meters", name := "set", desc := "(IIIII)V" } : Jvm.MethodName)),
  (Jvm.Cond.selects "StrengthHouse$Meters" ({ cls := "StrengthHouse$Meters", name := "set", desc := "(IIIII)V" } : Jvm.MethodName) ({ cls := "StrengthHouse$Meters", name := "set", desc := "(IIIII)V" } : Jvm.MethodName)),
  (Jvm.Cond.code ({ cls := "StrengthHouse$Meters", name := "set", desc := "(IIIII)V" } : Jvm.MethodName) prog_4_method_2_code (6 : Nat) (Option.none : Option Jvm.ClassFile.FieldType)),
  (Jvm.Cond.methodLinkNest "StrengthHouse$Meters" (24 : Nat) ({ cls := "StrengthHouse", name := "isMeter", desc := "(I)Z" } : Jvm.MethodName) "StrengthHouse"),
  (Jvm.Cond.methodLink "StrengthHouseLaw" (110 : Nat) ({ cls := "StrengthHouse", name := "led", desc := "(III)I" } : Jvm.MethodName)),
  (Jvm.Cond.instanceMethod ({ cls := "StrengthHouse", name := "led", desc := "(III)I" } : Jvm.MethodName)),
  (Jvm.Cond.selects "StrengthHouse" ({ cls := "StrengthHouse", name := "led", desc := "(III)I" } : Jvm.MethodName) ({ cls := "StrengthHouse", name := "led", desc := "(III)I" } : Jvm.MethodName)),
  (Jvm.Cond.code ({ cls := "StrengthHouse", name := "led", desc := "(III)I" } : Jvm.MethodName) prog_1_method_24_code (4 : Nat) (Option.some Jvm.ClassFile.FieldType.int)),
  (Jvm.Cond.constant "StrengthHouse" (292 : Nat) (99999 : Int32)),
  (Jvm.Cond.methodLink "StrengthHouse" (293 : Nat) ({ cls := "StrengthHouse$Meters", name := "ledToHouse", desc := "(II)I" } : Jvm.MethodName)),
  (Jvm.Cond.instanceMethod ({ cls := "StrengthHouse$Meters", name := "ledToHouse", desc := "(II)I" } : Jvm.MethodName))]
def nd_64 : List Jvm.Cond := [(Jvm.Cond.selects "StrengthHouse$Meters" ({ cls := "StrengthHouse$Meters", name := "ledToHouse", desc := "(II)I" } : Jvm.MethodName) ({ cls := "StrengthHouse$Meters", name := "ledToHouse", desc := "(II)I" } : Jvm.MethodName)),
  (Jvm.Cond.code ({ cls := "StrengthHouse$Meters", name := "ledToHouse", desc := "(II)I" } : Jvm.MethodName) prog_4_method_4_code (7 : Nat) (Option.some Jvm.ClassFile.FieldType.int)),
  (Jvm.Cond.methodLink "StrengthHouse$Meters" (28 : Nat) ({ cls := "StrengthHouse$Meters", name := "ledOnce", desc := "(IJ)J" } : Jvm.MethodName)),
  (Jvm.Cond.privateMethod ({ cls := "StrengthHouse$Meters", name := "ledOnce", desc := "(IJ)J" } : Jvm.MethodName)),
  (Jvm.Cond.instanceMethod ({ cls := "StrengthHouse$Meters", name := "ledOnce", desc := "(IJ)J" } : Jvm.MethodName)),
  (Jvm.Cond.code ({ cls := "StrengthHouse$Meters", name := "ledOnce", desc := "(IJ)J" } : Jvm.MethodName) prog_4_method_5_code (4 : Nat) (Option.some Jvm.ClassFile.FieldType.long)),
  (Jvm.Cond.constantLong "StrengthHouse$Meters" (36 : Nat) (2000000000 : Int64)),
  (Jvm.Cond.methodLink "StrengthHouse$Meters" (38 : Nat) ({ cls := "java/lang/Math", name := "min", desc := "(JJ)J" } : Jvm.MethodName)),
  (Jvm.Cond.methodLink "StrengthHouse$Meters" (32 : Nat) ({ cls := "StrengthHouse$Meters", name := "otherOf", desc := "(I)I" } : Jvm.MethodName)),
  (Jvm.Cond.privateMethod ({ cls := "StrengthHouse$Meters", name := "otherOf", desc := "(I)I" } : Jvm.MethodName)),
  (Jvm.Cond.instanceMethod ({ cls := "StrengthHouse$Meters", name := "otherOf", desc := "(I)I" } : Jvm.MethodName)),
  (Jvm.Cond.code ({ cls := "StrengthHouse$Meters", name := "otherOf", desc := "(I)I" } : Jvm.MethodName) prog_4_method_3_code (2 : Nat) (Option.some Jvm.ClassFile.FieldType.int)),
  (Jvm.Cond.methodLink "StrengthHouse" (297 : Nat) ({ cls := "StrengthHouse$Meters", name := "doubtOf", desc := "(I)I" } : Jvm.MethodName)),
  (Jvm.Cond.instanceMethod ({ cls := "StrengthHouse$Meters", name := "doubtOf", desc := "(I)I" } : Jvm.MethodName)),
  (Jvm.Cond.selects "StrengthHouse$Meters" ({ cls := "StrengthHouse$Meters", name := "doubtOf", desc := "(I)I" } : Jvm.MethodName) ({ cls := "StrengthHouse$Meters", name := "doubtOf", desc := "(I)I" } : Jvm.MethodName)),
  (Jvm.Cond.code ({ cls := "StrengthHouse$Meters", name := "doubtOf", desc := "(I)I" } : Jvm.MethodName) prog_4_method_6_code (6 : Nat) (Option.some Jvm.ClassFile.FieldType.int))]
def nd_65 : List Jvm.Cond := [(Jvm.Cond.methodLink "StrengthHouse$Meters" (44 : Nat) ({ cls := "StrengthHouse$Meters", name := "ledToHouse", desc := "(II)I" } : Jvm.MethodName)),
  (Jvm.Cond.methodLink "StrengthHouseLaw" (114 : Nat) ({ cls := "StrengthHouse", name := "enter", desc := "(III)I" } : Jvm.MethodName)),
  (Jvm.Cond.instanceMethod ({ cls := "StrengthHouse", name := "enter", desc := "(III)I" } : Jvm.MethodName)),
  (Jvm.Cond.selects "StrengthHouse" ({ cls := "StrengthHouse", name := "enter", desc := "(III)I" } : Jvm.MethodName) ({ cls := "StrengthHouse", name := "enter", desc := "(III)I" } : Jvm.MethodName)),
  (Jvm.Cond.code ({ cls := "StrengthHouse", name := "enter", desc := "(III)I" } : Jvm.MethodName) prog_1_method_25_code (4 : Nat) (Option.some Jvm.ClassFile.FieldType.int)),
  (Jvm.Cond.methodLink "StrengthHouse" (307 : Nat) ({ cls := "StrengthHouse$Book", name := "add", desc := "(IIILStrengthHouse$Order;)I" } : Jvm.MethodName)),
  (Jvm.Cond.instanceMethod ({ cls := "StrengthHouse$Book", name := "add", desc := "(IIILStrengthHouse$Order;)I" } : Jvm.MethodName)),
  (Jvm.Cond.selects "StrengthHouse$Book" ({ cls := "StrengthHouse$Book", name := "add", desc := "(IIILStrengthHouse$Order;)I" } : Jvm.MethodName) ({ cls := "StrengthHouse$Book", name := "add", desc := "(IIILStrengthHouse$Order;)I" } : Jvm.MethodName)),
  (Jvm.Cond.code ({ cls := "StrengthHouse$Book", name := "add", desc := "(IIILStrengthHouse$Order;)I" } : Jvm.MethodName) prog_2_method_3_code (6 : Nat) (Option.some Jvm.ClassFile.FieldType.int)),
  (Jvm.Cond.methodLink "StrengthHouse$Book" (37 : Nat) ({ cls := "StrengthHouse$Order", name := "valueAt", desc := "(I)I" } : Jvm.MethodName)),
  (Jvm.Cond.methodLink "StrengthHouse$Book" (41 : Nat) ({ cls := "StrengthHouse$Order", name := "pieceBits", desc := "()I" } : Jvm.MethodName)),
  (Jvm.Cond.instanceMethod ({ cls := "StrengthHouse$Order", name := "pieceBits", desc := "()I" } : Jvm.MethodName)),
  (Jvm.Cond.selects "StrengthHouse$Order" ({ cls := "StrengthHouse$Order", name := "pieceBits", desc := "()I" } : Jvm.MethodName) ({ cls := "StrengthHouse$Order", name := "pieceBits", desc := "()I" } : Jvm.MethodName)),
  (Jvm.Cond.code ({ cls := "StrengthHouse$Order", name := "pieceBits", desc := "()I" } : Jvm.MethodName) prog_5_method_5_code (3 : Nat) (Option.some Jvm.ClassFile.FieldType.int)),
  (Jvm.Cond.methodLink "StrengthHouseLaw" (118 : Nat) ({ cls := "StrengthHouse", name := "entryIs", desc := "(II)I" } : Jvm.MethodName)),
  (Jvm.Cond.instanceMethod ({ cls := "StrengthHouse", name := "entryIs", desc := "(II)I" } : Jvm.MethodName))]
def nd_66 : List Jvm.Cond := [(Jvm.Cond.selects "StrengthHouse" ({ cls := "StrengthHouse", name := "entryIs", desc := "(II)I" } : Jvm.MethodName) ({ cls := "StrengthHouse", name := "entryIs", desc := "(II)I" } : Jvm.MethodName)),
  (Jvm.Cond.code ({ cls := "StrengthHouse", name := "entryIs", desc := "(II)I" } : Jvm.MethodName) prog_1_method_26_code (4 : Nat) (Option.some Jvm.ClassFile.FieldType.int)),
  (Jvm.Cond.methodLink "StrengthHouse" (310 : Nat) ({ cls := "StrengthHouse$Book", name := "has", desc := "(I)Z" } : Jvm.MethodName)),
  (Jvm.Cond.instanceMethod ({ cls := "StrengthHouse$Book", name := "has", desc := "(I)Z" } : Jvm.MethodName)),
  (Jvm.Cond.selects "StrengthHouse$Book" ({ cls := "StrengthHouse$Book", name := "has", desc := "(I)Z" } : Jvm.MethodName) ({ cls := "StrengthHouse$Book", name := "has", desc := "(I)Z" } : Jvm.MethodName)),
  (Jvm.Cond.code ({ cls := "StrengthHouse$Book", name := "has", desc := "(I)Z" } : Jvm.MethodName) prog_2_method_2_code (2 : Nat) (Option.some Jvm.ClassFile.FieldType.boolean)),
  (Jvm.Cond.methodLink "StrengthHouseLaw" (122 : Nat) ({ cls := "StrengthHouse", name := "back", desc := "(II)I" } : Jvm.MethodName)),
  (Jvm.Cond.instanceMethod ({ cls := "StrengthHouse", name := "back", desc := "(II)I" } : Jvm.MethodName)),
  (Jvm.Cond.selects "StrengthHouse" ({ cls := "StrengthHouse", name := "back", desc := "(II)I" } : Jvm.MethodName) ({ cls := "StrengthHouse", name := "back", desc := "(II)I" } : Jvm.MethodName)),
  (Jvm.Cond.code ({ cls := "StrengthHouse", name := "back", desc := "(II)I" } : Jvm.MethodName) prog_1_method_27_code (3 : Nat) (Option.some Jvm.ClassFile.FieldType.int)),
  (Jvm.Cond.methodLink "StrengthHouse" (324 : Nat) ({ cls := "StrengthHouse$Book", name := "canTakeBack", desc := "(II)Z" } : Jvm.MethodName)),
  (Jvm.Cond.instanceMethod ({ cls := "StrengthHouse$Book", name := "canTakeBack", desc := "(II)Z" } : Jvm.MethodName)),
  (Jvm.Cond.selects "StrengthHouse$Book" ({ cls := "StrengthHouse$Book", name := "canTakeBack", desc := "(II)Z" } : Jvm.MethodName) ({ cls := "StrengthHouse$Book", name := "canTakeBack", desc := "(II)Z" } : Jvm.MethodName)),
  (Jvm.Cond.code ({ cls := "StrengthHouse$Book", name := "canTakeBack", desc := "(II)Z" } : Jvm.MethodName) prog_2_method_4_code (3 : Nat) (Option.some Jvm.ClassFile.FieldType.boolean)),
  (Jvm.Cond.methodLink "StrengthHouse$Book" (44 : Nat) ({ cls := "StrengthHouse$Book", name := "has", desc := "(I)Z" } : Jvm.MethodName)),
  (Jvm.Cond.methodLink "StrengthHouse" (327 : Nat) ({ cls := "StrengthHouse$Book", name := "takeBack", desc := "(II)V" } : Jvm.MethodName))]
def nd_67 : List Jvm.Cond := [(Jvm.Cond.instanceMethod ({ cls := "StrengthHouse$Book", name := "takeBack", desc := "(II)V" } : Jvm.MethodName)),
  (Jvm.Cond.selects "StrengthHouse$Book" ({ cls := "StrengthHouse$Book", name := "takeBack", desc := "(II)V" } : Jvm.MethodName) ({ cls := "StrengthHouse$Book", name := "takeBack", desc := "(II)V" } : Jvm.MethodName)),
  (Jvm.Cond.code ({ cls := "StrengthHouse$Book", name := "takeBack", desc := "(II)V" } : Jvm.MethodName) prog_2_method_5_code (3 : Nat) (Option.none : Option Jvm.ClassFile.FieldType)),
  (Jvm.Cond.methodLink "StrengthHouseLaw" (126 : Nat) ({ cls := "StrengthHouse", name := "book", desc := "(II)I" } : Jvm.MethodName)),
  (Jvm.Cond.instanceMethod ({ cls := "StrengthHouse", name := "book", desc := "(II)I" } : Jvm.MethodName)),
  (Jvm.Cond.selects "StrengthHouse" ({ cls := "StrengthHouse", name := "book", desc := "(II)I" } : Jvm.MethodName) ({ cls := "StrengthHouse", name := "book", desc := "(II)I" } : Jvm.MethodName)),
  (Jvm.Cond.code ({ cls := "StrengthHouse", name := "book", desc := "(II)I" } : Jvm.MethodName) prog_1_method_28_code (3 : Nat) (Option.some Jvm.ClassFile.FieldType.int)),
  (Jvm.Cond.methodLink "StrengthHouse" (330 : Nat) ({ cls := "StrengthHouse$Book", name := "latest", desc := "(II)I" } : Jvm.MethodName)),
  (Jvm.Cond.instanceMethod ({ cls := "StrengthHouse$Book", name := "latest", desc := "(II)I" } : Jvm.MethodName)),
  (Jvm.Cond.selects "StrengthHouse$Book" ({ cls := "StrengthHouse$Book", name := "latest", desc := "(II)I" } : Jvm.MethodName) ({ cls := "StrengthHouse$Book", name := "latest", desc := "(II)I" } : Jvm.MethodName)),
  (Jvm.Cond.code ({ cls := "StrengthHouse$Book", name := "latest", desc := "(II)I" } : Jvm.MethodName) prog_2_method_7_code (5 : Nat) (Option.some Jvm.ClassFile.FieldType.int)),
  (Jvm.Cond.methodLink "StrengthHouseLaw" (130 : Nat) ({ cls := "StrengthHouse", name := "hangs", desc := "(I)I" } : Jvm.MethodName)),
  (Jvm.Cond.instanceMethod ({ cls := "StrengthHouse", name := "hangs", desc := "(I)I" } : Jvm.MethodName)),
  (Jvm.Cond.selects "StrengthHouse" ({ cls := "StrengthHouse", name := "hangs", desc := "(I)I" } : Jvm.MethodName) ({ cls := "StrengthHouse", name := "hangs", desc := "(I)I" } : Jvm.MethodName)),
  (Jvm.Cond.code ({ cls := "StrengthHouse", name := "hangs", desc := "(I)I" } : Jvm.MethodName) prog_1_method_29_code (2 : Nat) (Option.some Jvm.ClassFile.FieldType.int)),
  (Jvm.Cond.methodLink "StrengthHouse" (333 : Nat) ({ cls := "StrengthHouse$Book", name := "hanging", desc := "(ILStrengthHouse$Meters;)I" } : Jvm.MethodName))]
def nd_68 : List Jvm.Cond := [(Jvm.Cond.instanceMethod ({ cls := "StrengthHouse$Book", name := "hanging", desc := "(ILStrengthHouse$Meters;)I" } : Jvm.MethodName)),
  (Jvm.Cond.selects "StrengthHouse$Book" ({ cls := "StrengthHouse$Book", name := "hanging", desc := "(ILStrengthHouse$Meters;)I" } : Jvm.MethodName) ({ cls := "StrengthHouse$Book", name := "hanging", desc := "(ILStrengthHouse$Meters;)I" } : Jvm.MethodName)),
  (Jvm.Cond.code ({ cls := "StrengthHouse$Book", name := "hanging", desc := "(ILStrengthHouse$Meters;)I" } : Jvm.MethodName) prog_2_method_8_code (5 : Nat) (Option.some Jvm.ClassFile.FieldType.int)),
  (Jvm.Cond.methodLink "StrengthHouse$Book" (48 : Nat) ({ cls := "StrengthHouse$Meters", name := "goesOver", desc := "(II)Z" } : Jvm.MethodName)),
  (Jvm.Cond.instanceMethod ({ cls := "StrengthHouse$Meters", name := "goesOver", desc := "(II)Z" } : Jvm.MethodName)),
  (Jvm.Cond.selects "StrengthHouse$Meters" ({ cls := "StrengthHouse$Meters", name := "goesOver", desc := "(II)Z" } : Jvm.MethodName) ({ cls := "StrengthHouse$Meters", name := "goesOver", desc := "(II)Z" } : Jvm.MethodName)),
  (Jvm.Cond.code ({ cls := "StrengthHouse$Meters", name := "goesOver", desc := "(II)Z" } : Jvm.MethodName) prog_4_method_7_code (5 : Nat) (Option.some Jvm.ClassFile.FieldType.boolean)),
  (Jvm.Cond.methodLink "StrengthHouseLaw" (134 : Nat) ({ cls := "StrengthHouse", name := "plates", desc := "(III)I" } : Jvm.MethodName)),
  (Jvm.Cond.instanceMethod ({ cls := "StrengthHouse", name := "plates", desc := "(III)I" } : Jvm.MethodName)),
  (Jvm.Cond.selects "StrengthHouse" ({ cls := "StrengthHouse", name := "plates", desc := "(III)I" } : Jvm.MethodName) ({ cls := "StrengthHouse", name := "plates", desc := "(III)I" } : Jvm.MethodName)),
  (Jvm.Cond.code ({ cls := "StrengthHouse", name := "plates", desc := "(III)I" } : Jvm.MethodName) prog_1_method_30_code (5 : Nat) (Option.some Jvm.ClassFile.FieldType.int)),
  (Jvm.Cond.methodLink "StrengthHouse" (337 : Nat) ({ cls := "StrengthHouse", name := "fewestPlates", desc := "(LStrengthHouse$Sheet;II)I" } : Jvm.MethodName)),
  (Jvm.Cond.privateMethod ({ cls := "StrengthHouse", name := "fewestPlates", desc := "(LStrengthHouse$Sheet;II)I" } : Jvm.MethodName)),
  (Jvm.Cond.instanceMethod ({ cls := "StrengthHouse", name := "fewestPlates", desc := "(LStrengthHouse$Sheet;II)I" } : Jvm.MethodName)),
  (Jvm.Cond.code ({ cls := "StrengthHouse", name := "fewestPlates", desc := "(LStrengthHouse$Sheet;II)I" } : Jvm.MethodName) prog_1_method_48_code (7 : Nat) (Option.some Jvm.ClassFile.FieldType.int)),
  (Jvm.Cond.constant "StrengthHouse" (341 : Nat) (2000000000 : Int32))]
def nd_69 : List Jvm.Cond := [(Jvm.Cond.methodLink "StrengthHouse" (410 : Nat) ({ cls := "StrengthHouse", name := "cutOneMore", desc := "(III)I" } : Jvm.MethodName)),
  (Jvm.Cond.static ({ cls := "StrengthHouse", name := "cutOneMore", desc := "(III)I" } : Jvm.MethodName)),
  (Jvm.Cond.code ({ cls := "StrengthHouse", name := "cutOneMore", desc := "(III)I" } : Jvm.MethodName) prog_1_method_49_code (4 : Nat) (Option.some Jvm.ClassFile.FieldType.int)),
  (Jvm.Cond.methodLink "StrengthHouse" (413 : Nat) ({ cls := "java/lang/Math", name := "min", desc := "(II)I" } : Jvm.MethodName)),
  (Jvm.Cond.methodLink "StrengthHouseLaw" (138 : Nat) ({ cls := "StrengthHouse", name := "drift", desc := "(I)I" } : Jvm.MethodName)),
  (Jvm.Cond.instanceMethod ({ cls := "StrengthHouse", name := "drift", desc := "(I)I" } : Jvm.MethodName)),
  (Jvm.Cond.selects "StrengthHouse" ({ cls := "StrengthHouse", name := "drift", desc := "(I)I" } : Jvm.MethodName) ({ cls := "StrengthHouse", name := "drift", desc := "(I)I" } : Jvm.MethodName)),
  (Jvm.Cond.code ({ cls := "StrengthHouse", name := "drift", desc := "(I)I" } : Jvm.MethodName) prog_1_method_31_code (5 : Nat) (Option.some Jvm.ClassFile.FieldType.int)),
  (Jvm.Cond.methodLink "StrengthHouse" (342 : Nat) ({ cls := "java/lang/Integer", name := "bitCount", desc := "(I)I" } : Jvm.MethodName)),
  (Jvm.Cond.static ({ cls := "java/lang/Integer", name := "bitCount", desc := "(I)I" } : Jvm.MethodName)),
  (Jvm.Cond.code ({ cls := "java/lang/Integer", name := "bitCount", desc := "(I)I" } : Jvm.MethodName) prog_15_method_49_code (1 : Nat) (Option.some Jvm.ClassFile.FieldType.int)),
  (Jvm.Cond.constant "java/lang/Integer" (265 : Nat) (1431655765 : Int32)),
  (Jvm.Cond.constant "java/lang/Integer" (266 : Nat) (858993459 : Int32)),
  (Jvm.Cond.constant "java/lang/Integer" (267 : Nat) (252645135 : Int32)),
  (Jvm.Cond.methodLink "StrengthHouse" (347 : Nat) ({ cls := "StrengthHouse", name := "sumsApart", desc := "(II)I" } : Jvm.MethodName)),
  (Jvm.Cond.static ({ cls := "StrengthHouse", name := "sumsApart", desc := "(II)I" } : Jvm.MethodName))]
def nd_70 : List Jvm.Cond := [(Jvm.Cond.code ({ cls := "StrengthHouse", name := "sumsApart", desc := "(II)I" } : Jvm.MethodName) prog_1_method_50_code (4 : Nat) (Option.some Jvm.ClassFile.FieldType.int)),
  (Jvm.Cond.methodLink "StrengthHouse" (418 : Nat) ({ cls := "java/lang/Math", name := "abs", desc := "(I)I" } : Jvm.MethodName)),
  (Jvm.Cond.static ({ cls := "java/lang/Math", name := "abs", desc := "(I)I" } : Jvm.MethodName)),
  (Jvm.Cond.code ({ cls := "java/lang/Math", name := "abs", desc := "(I)I" } : Jvm.MethodName) prog_16_method_59_code (1 : Nat) (Option.some Jvm.ClassFile.FieldType.int)),
  (Jvm.Cond.methodLink "StrengthHouseLaw" (142 : Nat) ({ cls := "StrengthHouse", name := "voice", desc := "(III)I" } : Jvm.MethodName)),
  (Jvm.Cond.instanceMethod ({ cls := "StrengthHouse", name := "voice", desc := "(III)I" } : Jvm.MethodName)),
  (Jvm.Cond.selects "StrengthHouse" ({ cls := "StrengthHouse", name := "voice", desc := "(III)I" } : Jvm.MethodName) ({ cls := "StrengthHouse", name := "voice", desc := "(III)I" } : Jvm.MethodName)),
  (Jvm.Cond.code ({ cls := "StrengthHouse", name := "voice", desc := "(III)I" } : Jvm.MethodName) prog_1_method_32_code (6 : Nat) (Option.some Jvm.ClassFile.FieldType.int)),
  (Jvm.Cond.methodLink "StrengthHouse" (350 : Nat) ({ cls := "StrengthHouse$Voices", name := "ask", desc := "(LStrengthHouse$Piece;III)I" } : Jvm.MethodName)),
  (Jvm.Cond.instanceMethod ({ cls := "StrengthHouse$Voices", name := "ask", desc := "(LStrengthHouse$Piece;III)I" } : Jvm.MethodName)),
  (Jvm.Cond.selects "StrengthHouse$Voices" ({ cls := "StrengthHouse$Voices", name := "ask", desc := "(LStrengthHouse$Piece;III)I" } : Jvm.MethodName) ({ cls := "StrengthHouse$Voices", name := "ask", desc := "(LStrengthHouse$Piece;III)I" } : Jvm.MethodName)),
  (Jvm.Cond.code ({ cls := "StrengthHouse$Voices", name := "ask", desc := "(LStrengthHouse$Piece;III)I" } : Jvm.MethodName) prog_12_method_2_code (6 : Nat) (Option.some Jvm.ClassFile.FieldType.int)),
  (Jvm.Cond.methodLink "StrengthHouse$Voices" (42 : Nat) ({ cls := "StrengthHouse$Voices", name := "say", desc := "(IIII)I" } : Jvm.MethodName)),
  (Jvm.Cond.privateMethod ({ cls := "StrengthHouse$Voices", name := "say", desc := "(IIII)I" } : Jvm.MethodName)),
  (Jvm.Cond.instanceMethod ({ cls := "StrengthHouse$Voices", name := "say", desc := "(IIII)I" } : Jvm.MethodName)),
  (Jvm.Cond.code ({ cls := "StrengthHouse$Voices", name := "say", desc := "(IIII)I" } : Jvm.MethodName) prog_12_method_4_code (7 : Nat) (Option.some Jvm.ClassFile.FieldType.int))]
def nd_71 : List Jvm.Cond := [(Jvm.Cond.methodLink "StrengthHouse$Voices" (52 : Nat) ({ cls := "StrengthHouse$Voices", name := "bodyOf", desc := "(II)I" } : Jvm.MethodName)),
  (Jvm.Cond.static ({ cls := "StrengthHouse$Voices", name := "bodyOf", desc := "(II)I" } : Jvm.MethodName)),
  (Jvm.Cond.code ({ cls := "StrengthHouse$Voices", name := "bodyOf", desc := "(II)I" } : Jvm.MethodName) prog_12_method_5_code (3 : Nat) (Option.some Jvm.ClassFile.FieldType.int)),
  (Jvm.Cond.fieldLink "StrengthHouse$Voices" (64 : Nat) "StrengthHouse$Voices" "BODIES" "[I"),
  (Jvm.Cond.laysStatic "StrengthHouse$Voices" "BODIES" "[I"),
  (Jvm.Cond.methodLink "StrengthHouse$Voices" (56 : Nat) ({ cls := "StrengthHouse$Piece", name := "above", desc := "(I)I" } : Jvm.MethodName)),
  (Jvm.Cond.methodLink "StrengthHouse$Voices" (60 : Nat) ({ cls := "StrengthHouse$Voices", name := "workOut", desc := "(III)I" } : Jvm.MethodName)),
  (Jvm.Cond.privateMethod ({ cls := "StrengthHouse$Voices", name := "workOut", desc := "(III)I" } : Jvm.MethodName)),
  (Jvm.Cond.instanceMethod ({ cls := "StrengthHouse$Voices", name := "workOut", desc := "(III)I" } : Jvm.MethodName)),
  (Jvm.Cond.code ({ cls := "StrengthHouse$Voices", name := "workOut", desc := "(III)I" } : Jvm.MethodName) prog_12_method_6_code (4 : Nat) (Option.some Jvm.ClassFile.FieldType.int)),
  (Jvm.Cond.methodLink "StrengthHouse$Voices" (67 : Nat) ({ cls := "StrengthHouse$Voices", name := "shareOut", desc := "(I)I" } : Jvm.MethodName)),
  (Jvm.Cond.privateMethod ({ cls := "StrengthHouse$Voices", name := "shareOut", desc := "(I)I" } : Jvm.MethodName)),
  (Jvm.Cond.instanceMethod ({ cls := "StrengthHouse$Voices", name := "shareOut", desc := "(I)I" } : Jvm.MethodName)),
  (Jvm.Cond.code ({ cls := "StrengthHouse$Voices", name := "shareOut", desc := "(I)I" } : Jvm.MethodName) prog_12_method_7_code (3 : Nat) (Option.some Jvm.ClassFile.FieldType.int)),
  (Jvm.Cond.methodLink "StrengthHouse$Voices" (46 : Nat) ({ cls := "java/lang/System", name := "arraycopy", desc := "(Ljava/lang/Object;ILjava/lang/Object;II)V" } : Jvm.MethodName)),
  (Jvm.Cond.methodLink "StrengthHouseLaw" (146 : Nat) ({ cls := "StrengthHouse", name := "body", desc := "(I)I" } : Jvm.MethodName))]
def nd_72 : List Jvm.Cond := [(Jvm.Cond.instanceMethod ({ cls := "StrengthHouse", name := "body", desc := "(I)I" } : Jvm.MethodName)),
  (Jvm.Cond.selects "StrengthHouse" ({ cls := "StrengthHouse", name := "body", desc := "(I)I" } : Jvm.MethodName) ({ cls := "StrengthHouse", name := "body", desc := "(I)I" } : Jvm.MethodName)),
  (Jvm.Cond.code ({ cls := "StrengthHouse", name := "body", desc := "(I)I" } : Jvm.MethodName) prog_1_method_33_code (2 : Nat) (Option.some Jvm.ClassFile.FieldType.int)),
  (Jvm.Cond.methodLink "StrengthHouse" (358 : Nat) ({ cls := "StrengthHouse$Voices", name := "bodyAt", desc := "(I)I" } : Jvm.MethodName)),
  (Jvm.Cond.instanceMethod ({ cls := "StrengthHouse$Voices", name := "bodyAt", desc := "(I)I" } : Jvm.MethodName)),
  (Jvm.Cond.selects "StrengthHouse$Voices" ({ cls := "StrengthHouse$Voices", name := "bodyAt", desc := "(I)I" } : Jvm.MethodName) ({ cls := "StrengthHouse$Voices", name := "bodyAt", desc := "(I)I" } : Jvm.MethodName)),
  (Jvm.Cond.code ({ cls := "StrengthHouse$Voices", name := "bodyAt", desc := "(I)I" } : Jvm.MethodName) prog_12_method_3_code (2 : Nat) (Option.some Jvm.ClassFile.FieldType.int)),
  (Jvm.Cond.methodLink "StrengthHouseLaw" (150 : Nat) ({ cls := "StrengthHouse", name := "sheet", desc := "(III)I" } : Jvm.MethodName)),
  (Jvm.Cond.instanceMethod ({ cls := "StrengthHouse", name := "sheet", desc := "(III)I" } : Jvm.MethodName)),
  (Jvm.Cond.selects "StrengthHouse" ({ cls := "StrengthHouse", name := "sheet", desc := "(III)I" } : Jvm.MethodName) ({ cls := "StrengthHouse", name := "sheet", desc := "(III)I" } : Jvm.MethodName)),
  (Jvm.Cond.code ({ cls := "StrengthHouse", name := "sheet", desc := "(III)I" } : Jvm.MethodName) prog_1_method_34_code (5 : Nat) (Option.some Jvm.ClassFile.FieldType.int)),
  (Jvm.Cond.methodLink "StrengthHouse" (361 : Nat) ({ cls := "StrengthHouse$Sheet", name := "become", desc := "(II)V" } : Jvm.MethodName)),
  (Jvm.Cond.instanceMethod ({ cls := "StrengthHouse$Sheet", name := "become", desc := "(II)V" } : Jvm.MethodName)),
  (Jvm.Cond.selects "StrengthHouse$Sheet" ({ cls := "StrengthHouse$Sheet", name := "become", desc := "(II)V" } : Jvm.MethodName) ({ cls := "StrengthHouse$Sheet", name := "become", desc := "(II)V" } : Jvm.MethodName)),
  (Jvm.Cond.code ({ cls := "StrengthHouse$Sheet", name := "become", desc := "(II)V" } : Jvm.MethodName) prog_9_method_2_code (4 : Nat) (Option.none : Option Jvm.ClassFile.FieldType)),
  (Jvm.Cond.methodLink "StrengthHouse$Sheet" (22 : Nat) ({ cls := "java/lang/Math", name := "min", desc := "(II)I" } : Jvm.MethodName))]
def nd_73 : List Jvm.Cond := [(Jvm.Cond.methodLink "StrengthHouse$Sheet" (28 : Nat) ({ cls := "java/lang/Math", name := "max", desc := "(II)I" } : Jvm.MethodName)),
  (Jvm.Cond.methodLink "StrengthHouseLaw" (154 : Nat) ({ cls := "StrengthHouse", name := "put", desc := "(III)I" } : Jvm.MethodName)),
  (Jvm.Cond.instanceMethod ({ cls := "StrengthHouse", name := "put", desc := "(III)I" } : Jvm.MethodName)),
  (Jvm.Cond.selects "StrengthHouse" ({ cls := "StrengthHouse", name := "put", desc := "(III)I" } : Jvm.MethodName) ({ cls := "StrengthHouse", name := "put", desc := "(III)I" } : Jvm.MethodName)),
  (Jvm.Cond.code ({ cls := "StrengthHouse", name := "put", desc := "(III)I" } : Jvm.MethodName) prog_1_method_35_code (5 : Nat) (Option.some Jvm.ClassFile.FieldType.int)),
  (Jvm.Cond.methodLink "StrengthHouse" (363 : Nat) ({ cls := "StrengthHouse$Sheet", name := "spans", desc := "(II)Z" } : Jvm.MethodName)),
  (Jvm.Cond.methodLink "StrengthHouse" (366 : Nat) ({ cls := "StrengthHouse$Sheet", name := "set", desc := "(II)V" } : Jvm.MethodName)),
  (Jvm.Cond.instanceMethod ({ cls := "StrengthHouse$Sheet", name := "set", desc := "(II)V" } : Jvm.MethodName)),
  (Jvm.Cond.selects "StrengthHouse$Sheet" ({ cls := "StrengthHouse$Sheet", name := "set", desc := "(II)V" } : Jvm.MethodName) ({ cls := "StrengthHouse$Sheet", name := "set", desc := "(II)V" } : Jvm.MethodName)),
  (Jvm.Cond.code ({ cls := "StrengthHouse$Sheet", name := "set", desc := "(II)V" } : Jvm.MethodName) prog_9_method_6_code (3 : Nat) (Option.none : Option Jvm.ClassFile.FieldType)),
  (Jvm.Cond.methodLink "StrengthHouseLaw" (158 : Nat) ({ cls := "StrengthHouse", name := "move", desc := "(IIIII)I" } : Jvm.MethodName)),
  (Jvm.Cond.instanceMethod ({ cls := "StrengthHouse", name := "move", desc := "(IIIII)I" } : Jvm.MethodName)),
  (Jvm.Cond.selects "StrengthHouse" ({ cls := "StrengthHouse", name := "move", desc := "(IIIII)I" } : Jvm.MethodName) ({ cls := "StrengthHouse", name := "move", desc := "(IIIII)I" } : Jvm.MethodName)),
  (Jvm.Cond.code ({ cls := "StrengthHouse", name := "move", desc := "(IIIII)I" } : Jvm.MethodName) prog_1_method_36_code (8 : Nat) (Option.some Jvm.ClassFile.FieldType.int)),
  (Jvm.Cond.methodLink "StrengthHouse" (374 : Nat) ({ cls := "java/lang/System", name := "arraycopy", desc := "(Ljava/lang/Object;ILjava/lang/Object;II)V" } : Jvm.MethodName)),
  (Jvm.Cond.methodLink "StrengthHouseLaw" (162 : Nat) ({ cls := "StrengthHouse", name := "image", desc := "()I" } : Jvm.MethodName))]
def nd_74 : List Jvm.Cond := [(Jvm.Cond.instanceMethod ({ cls := "StrengthHouse", name := "image", desc := "()I" } : Jvm.MethodName)),
  (Jvm.Cond.selects "StrengthHouse" ({ cls := "StrengthHouse", name := "image", desc := "()I" } : Jvm.MethodName) ({ cls := "StrengthHouse", name := "image", desc := "()I" } : Jvm.MethodName)),
  (Jvm.Cond.code ({ cls := "StrengthHouse", name := "image", desc := "()I" } : Jvm.MethodName) prog_1_method_37_code (1 : Nat) (Option.some Jvm.ClassFile.FieldType.int)),
  (Jvm.Cond.methodLink "StrengthHouse" (380 : Nat) ({ cls := "StrengthHouse$State", name := "copyFrom", desc := "(LStrengthHouse$State;)V" } : Jvm.MethodName)),
  (Jvm.Cond.instanceMethod ({ cls := "StrengthHouse$State", name := "copyFrom", desc := "(LStrengthHouse$State;)V" } : Jvm.MethodName)),
  (Jvm.Cond.selects "StrengthHouse$State" ({ cls := "StrengthHouse$State", name := "copyFrom", desc := "(LStrengthHouse$State;)V" } : Jvm.MethodName) ({ cls := "StrengthHouse$State", name := "copyFrom", desc := "(LStrengthHouse$State;)V" } : Jvm.MethodName)),
  (Jvm.Cond.code ({ cls := "StrengthHouse$State", name := "copyFrom", desc := "(LStrengthHouse$State;)V" } : Jvm.MethodName) prog_10_method_16_code (3 : Nat) (Option.none : Option Jvm.ClassFile.FieldType)),
  (Jvm.Cond.methodLink "StrengthHouse$State" (98 : Nat) ({ cls := "StrengthHouse$Piece", name := "copyFrom", desc := "(LStrengthHouse$Piece;)V" } : Jvm.MethodName)),
  (Jvm.Cond.instanceMethod ({ cls := "StrengthHouse$Piece", name := "copyFrom", desc := "(LStrengthHouse$Piece;)V" } : Jvm.MethodName)),
  (Jvm.Cond.selects "StrengthHouse$Piece" ({ cls := "StrengthHouse$Piece", name := "copyFrom", desc := "(LStrengthHouse$Piece;)V" } : Jvm.MethodName) ({ cls := "StrengthHouse$Piece", name := "copyFrom", desc := "(LStrengthHouse$Piece;)V" } : Jvm.MethodName)),
  (Jvm.Cond.code ({ cls := "StrengthHouse$Piece", name := "copyFrom", desc := "(LStrengthHouse$Piece;)V" } : Jvm.MethodName) prog_6_method_9_code (2 : Nat) (Option.none : Option Jvm.ClassFile.FieldType)),
  (Jvm.Cond.methodLink "StrengthHouse$Piece" (66 : Nat) ({ cls := "java/lang/System", name := "arraycopy", desc := "(Ljava/lang/Object;ILjava/lang/Object;II)V" } : Jvm.MethodName)),
  (Jvm.Cond.methodLink "StrengthHouse$Piece" (72 : Nat) ({ cls := "StrengthHouse$Readings", name := "copyFrom", desc := "(LStrengthHouse$Readings;)V" } : Jvm.MethodName)),
  (Jvm.Cond.methodLink "StrengthHouse$State" (102 : Nat) ({ cls := "StrengthHouse$Program", name := "copyFrom", desc := "(LStrengthHouse$Program;)V" } : Jvm.MethodName)),
  (Jvm.Cond.methodLink "StrengthHouse$State" (105 : Nat) ({ cls := "java/lang/System", name := "arraycopy", desc := "(Ljava/lang/Object;ILjava/lang/Object;II)V" } : Jvm.MethodName)),
  (Jvm.Cond.methodLink "StrengthHouse$State" (111 : Nat) ({ cls := "StrengthHouse$Meters", name := "copyFrom", desc := "(LStrengthHouse$Meters;)V" } : Jvm.MethodName))]
def nd_75 : List Jvm.Cond := [(Jvm.Cond.instanceMethod ({ cls := "StrengthHouse$Meters", name := "copyFrom", desc := "(LStrengthHouse$Meters;)V" } : Jvm.MethodName)),
  (Jvm.Cond.selects "StrengthHouse$Meters" ({ cls := "StrengthHouse$Meters", name := "copyFrom", desc := "(LStrengthHouse$Meters;)V" } : Jvm.MethodName) ({ cls := "StrengthHouse$Meters", name := "copyFrom", desc := "(LStrengthHouse$Meters;)V" } : Jvm.MethodName)),
  (Jvm.Cond.code ({ cls := "StrengthHouse$Meters", name := "copyFrom", desc := "(LStrengthHouse$Meters;)V" } : Jvm.MethodName) prog_4_method_8_code (2 : Nat) (Option.none : Option Jvm.ClassFile.FieldType)),
  (Jvm.Cond.methodLink "StrengthHouse$Meters" (48 : Nat) ({ cls := "java/lang/System", name := "arraycopy", desc := "(Ljava/lang/Object;ILjava/lang/Object;II)V" } : Jvm.MethodName)),
  (Jvm.Cond.methodLink "StrengthHouse$State" (114 : Nat) ({ cls := "StrengthHouse$Book", name := "copyFrom", desc := "(LStrengthHouse$Book;)V" } : Jvm.MethodName)),
  (Jvm.Cond.instanceMethod ({ cls := "StrengthHouse$Book", name := "copyFrom", desc := "(LStrengthHouse$Book;)V" } : Jvm.MethodName)),
  (Jvm.Cond.selects "StrengthHouse$Book" ({ cls := "StrengthHouse$Book", name := "copyFrom", desc := "(LStrengthHouse$Book;)V" } : Jvm.MethodName) ({ cls := "StrengthHouse$Book", name := "copyFrom", desc := "(LStrengthHouse$Book;)V" } : Jvm.MethodName)),
  (Jvm.Cond.code ({ cls := "StrengthHouse$Book", name := "copyFrom", desc := "(LStrengthHouse$Book;)V" } : Jvm.MethodName) prog_2_method_9_code (2 : Nat) (Option.none : Option Jvm.ClassFile.FieldType)),
  (Jvm.Cond.methodLink "StrengthHouse$Book" (54 : Nat) ({ cls := "java/lang/System", name := "arraycopy", desc := "(Ljava/lang/Object;ILjava/lang/Object;II)V" } : Jvm.MethodName)),
  (Jvm.Cond.methodLink "StrengthHouseLaw" (167 : Nat) ({ cls := "StrengthHouse", name := "restore", desc := "()I" } : Jvm.MethodName)),
  (Jvm.Cond.instanceMethod ({ cls := "StrengthHouse", name := "restore", desc := "()I" } : Jvm.MethodName)),
  (Jvm.Cond.selects "StrengthHouse" ({ cls := "StrengthHouse", name := "restore", desc := "()I" } : Jvm.MethodName) ({ cls := "StrengthHouse", name := "restore", desc := "()I" } : Jvm.MethodName)),
  (Jvm.Cond.code ({ cls := "StrengthHouse", name := "restore", desc := "()I" } : Jvm.MethodName) prog_1_method_38_code (1 : Nat) (Option.some Jvm.ClassFile.FieldType.int)),
  (Jvm.Cond.methodLink "StrengthHouseLaw" (171 : Nat) ({ cls := "StrengthHouse", name := "tell", desc := "(I)I" } : Jvm.MethodName)),
  (Jvm.Cond.instanceMethod ({ cls := "StrengthHouse", name := "tell", desc := "(I)I" } : Jvm.MethodName)),
  (Jvm.Cond.selects "StrengthHouse" ({ cls := "StrengthHouse", name := "tell", desc := "(I)I" } : Jvm.MethodName) ({ cls := "StrengthHouse", name := "tell", desc := "(I)I" } : Jvm.MethodName))]
def nd_76 : List Jvm.Cond := [(Jvm.Cond.code ({ cls := "StrengthHouse", name := "tell", desc := "(I)I" } : Jvm.MethodName) prog_1_method_39_code (2 : Nat) (Option.some Jvm.ClassFile.FieldType.int)),
  (Jvm.Cond.methodLink "StrengthHouse" (383 : Nat) ({ cls := "StrengthHouse$State", name := "addWaiting", desc := "(I)Z" } : Jvm.MethodName)),
  (Jvm.Cond.instanceMethod ({ cls := "StrengthHouse$State", name := "addWaiting", desc := "(I)Z" } : Jvm.MethodName)),
  (Jvm.Cond.selects "StrengthHouse$State" ({ cls := "StrengthHouse$State", name := "addWaiting", desc := "(I)Z" } : Jvm.MethodName) ({ cls := "StrengthHouse$State", name := "addWaiting", desc := "(I)Z" } : Jvm.MethodName)),
  (Jvm.Cond.code ({ cls := "StrengthHouse$State", name := "addWaiting", desc := "(I)Z" } : Jvm.MethodName) prog_10_method_14_code (2 : Nat) (Option.some Jvm.ClassFile.FieldType.boolean)),
  (Jvm.Cond.methodLink "StrengthHouseLaw" (175 : Nat) ({ cls := "StrengthHouse", name := "check", desc := "(II)I" } : Jvm.MethodName)),
  (Jvm.Cond.instanceMethod ({ cls := "StrengthHouse", name := "check", desc := "(II)I" } : Jvm.MethodName)),
  (Jvm.Cond.selects "StrengthHouse" ({ cls := "StrengthHouse", name := "check", desc := "(II)I" } : Jvm.MethodName) ({ cls := "StrengthHouse", name := "check", desc := "(II)I" } : Jvm.MethodName)),
  (Jvm.Cond.code ({ cls := "StrengthHouse", name := "check", desc := "(II)I" } : Jvm.MethodName) prog_1_method_40_code (6 : Nat) (Option.some Jvm.ClassFile.FieldType.int)),
  (Jvm.Cond.methodLink "StrengthHouse" (389 : Nat) ({ cls := "StrengthHouse", name := "firstUnlike", desc := "(ILStrengthHouse$Readings;)I" } : Jvm.MethodName)),
  (Jvm.Cond.privateMethod ({ cls := "StrengthHouse", name := "firstUnlike", desc := "(ILStrengthHouse$Readings;)I" } : Jvm.MethodName)),
  (Jvm.Cond.instanceMethod ({ cls := "StrengthHouse", name := "firstUnlike", desc := "(ILStrengthHouse$Readings;)I" } : Jvm.MethodName)),
  (Jvm.Cond.code ({ cls := "StrengthHouse", name := "firstUnlike", desc := "(ILStrengthHouse$Readings;)I" } : Jvm.MethodName) prog_1_method_51_code (5 : Nat) (Option.some Jvm.ClassFile.FieldType.int)),
  (Jvm.Cond.methodLink "StrengthHouse" (421 : Nat) ({ cls := "java/lang/Math", name := "max", desc := "(II)I" } : Jvm.MethodName)),
  (Jvm.Cond.methodLink "StrengthHouse" (424 : Nat) ({ cls := "StrengthHouse$State", name := "waitingAt", desc := "(I)I" } : Jvm.MethodName)),
  (Jvm.Cond.instanceMethod ({ cls := "StrengthHouse$State", name := "waitingAt", desc := "(I)I" } : Jvm.MethodName))]
def nd_77 : List Jvm.Cond := [(Jvm.Cond.selects "StrengthHouse$State" ({ cls := "StrengthHouse$State", name := "waitingAt", desc := "(I)I" } : Jvm.MethodName) ({ cls := "StrengthHouse$State", name := "waitingAt", desc := "(I)I" } : Jvm.MethodName)),
  (Jvm.Cond.code ({ cls := "StrengthHouse$State", name := "waitingAt", desc := "(I)I" } : Jvm.MethodName) prog_10_method_15_code (2 : Nat) (Option.some Jvm.ClassFile.FieldType.int)),
  (Jvm.Cond.methodLink "StrengthHouse" (427 : Nat) ({ cls := "StrengthHouse$Readings", name := "flatAt", desc := "(I)I" } : Jvm.MethodName)),
  (Jvm.Cond.instanceMethod ({ cls := "StrengthHouse$Readings", name := "flatAt", desc := "(I)I" } : Jvm.MethodName)),
  (Jvm.Cond.selects "StrengthHouse$Readings" ({ cls := "StrengthHouse$Readings", name := "flatAt", desc := "(I)I" } : Jvm.MethodName) ({ cls := "StrengthHouse$Readings", name := "flatAt", desc := "(I)I" } : Jvm.MethodName)),
  (Jvm.Cond.code ({ cls := "StrengthHouse$Readings", name := "flatAt", desc := "(I)I" } : Jvm.MethodName) prog_8_method_6_code (2 : Nat) (Option.some Jvm.ClassFile.FieldType.int)),
  (Jvm.Cond.methodLink "StrengthHouseLaw" (179 : Nat) ({ cls := "StrengthHouse", name := "count", desc := "(I)I" } : Jvm.MethodName)),
  (Jvm.Cond.instanceMethod ({ cls := "StrengthHouse", name := "count", desc := "(I)I" } : Jvm.MethodName)),
  (Jvm.Cond.selects "StrengthHouse" ({ cls := "StrengthHouse", name := "count", desc := "(I)I" } : Jvm.MethodName) ({ cls := "StrengthHouse", name := "count", desc := "(I)I" } : Jvm.MethodName)),
  (Jvm.Cond.code ({ cls := "StrengthHouse", name := "count", desc := "(I)I" } : Jvm.MethodName) prog_1_method_41_code (2 : Nat) (Option.some Jvm.ClassFile.FieldType.int)),
  (Jvm.Cond.methodLink "StrengthHouse" (393 : Nat) ({ cls := "StrengthHouse$Book", name := "takenBack", desc := "()I" } : Jvm.MethodName)),
  (Jvm.Cond.instanceMethod ({ cls := "StrengthHouse$Book", name := "takenBack", desc := "()I" } : Jvm.MethodName)),
  (Jvm.Cond.selects "StrengthHouse$Book" ({ cls := "StrengthHouse$Book", name := "takenBack", desc := "()I" } : Jvm.MethodName) ({ cls := "StrengthHouse$Book", name := "takenBack", desc := "()I" } : Jvm.MethodName)),
  (Jvm.Cond.code ({ cls := "StrengthHouse$Book", name := "takenBack", desc := "()I" } : Jvm.MethodName) prog_2_method_6_code (3 : Nat) (Option.some Jvm.ClassFile.FieldType.int)),
  (Jvm.Cond.methodLink "StrengthHouse" (396 : Nat) ({ cls := "StrengthHouse$State", name := "programsThere", desc := "()I" } : Jvm.MethodName)),
  (Jvm.Cond.instanceMethod ({ cls := "StrengthHouse$State", name := "programsThere", desc := "()I" } : Jvm.MethodName))]
def nd_78 : List Jvm.Cond := [(Jvm.Cond.selects "StrengthHouse$State" ({ cls := "StrengthHouse$State", name := "programsThere", desc := "()I" } : Jvm.MethodName) ({ cls := "StrengthHouse$State", name := "programsThere", desc := "()I" } : Jvm.MethodName)),
  (Jvm.Cond.code ({ cls := "StrengthHouse$State", name := "programsThere", desc := "()I" } : Jvm.MethodName) prog_10_method_6_code (3 : Nat) (Option.some Jvm.ClassFile.FieldType.int)),
  (Jvm.Cond.methodLink "StrengthHouse" (399 : Nat) ({ cls := "StrengthHouse$State", name := "readingsOfAll", desc := "()I" } : Jvm.MethodName)),
  (Jvm.Cond.instanceMethod ({ cls := "StrengthHouse$State", name := "readingsOfAll", desc := "()I" } : Jvm.MethodName)),
  (Jvm.Cond.selects "StrengthHouse$State" ({ cls := "StrengthHouse$State", name := "readingsOfAll", desc := "()I" } : Jvm.MethodName) ({ cls := "StrengthHouse$State", name := "readingsOfAll", desc := "()I" } : Jvm.MethodName)),
  (Jvm.Cond.code ({ cls := "StrengthHouse$State", name := "readingsOfAll", desc := "()I" } : Jvm.MethodName) prog_10_method_7_code (3 : Nat) (Option.some Jvm.ClassFile.FieldType.int)),
  (Jvm.Cond.methodLink "StrengthHouseLaw" (183 : Nat) ({ cls := "StrengthHouse", name := "told", desc := "(I)I" } : Jvm.MethodName)),
  (Jvm.Cond.instanceMethod ({ cls := "StrengthHouse", name := "told", desc := "(I)I" } : Jvm.MethodName)),
  (Jvm.Cond.selects "StrengthHouse" ({ cls := "StrengthHouse", name := "told", desc := "(I)I" } : Jvm.MethodName) ({ cls := "StrengthHouse", name := "told", desc := "(I)I" } : Jvm.MethodName)),
  (Jvm.Cond.code ({ cls := "StrengthHouse", name := "told", desc := "(I)I" } : Jvm.MethodName) prog_1_method_42_code (2 : Nat) (Option.some Jvm.ClassFile.FieldType.int)),
  (Jvm.Cond.classLink "StrengthHouseLaw" (10 : Nat) "StrengthHouseModel"),
  (Jvm.Cond.instantiable "StrengthHouseModel" (38 : Nat)),
  (Jvm.Cond.methodLink "StrengthHouseLaw" (12 : Nat) ({ cls := "StrengthHouseModel", name := "<init>", desc := "()V" } : Jvm.MethodName)),
  (Jvm.Cond.instanceMethod ({ cls := "StrengthHouseModel", name := "<init>", desc := "()V" } : Jvm.MethodName)),
  (Jvm.Cond.code ({ cls := "StrengthHouseModel", name := "<init>", desc := "()V" } : Jvm.MethodName) prog_14_method_1_code (2 : Nat) (Option.none : Option Jvm.ClassFile.FieldType)),
  (Jvm.Cond.methodLink "StrengthHouseModel" (3 : Nat) ({ cls := "java/lang/Object", name := "<init>", desc := "()V" } : Jvm.MethodName))]
def nd_79 : List Jvm.Cond := [(Jvm.Cond.constant "StrengthHouseModel" (19 : Nat) (99999 : Int32)),
  (Jvm.Cond.classLink "StrengthHouseModel" (23 : Nat) "java/lang/String"),
  (Jvm.Cond.arrayOver (Jvm.ClassFile.FieldType.object "java/lang/String")),
  (Jvm.Cond.stringRef "StrengthHouseModel" (25 : Nat) "go"),
  (Jvm.Cond.stringRef "StrengthHouseModel" (27 : Nat) "load"),
  (Jvm.Cond.stringRef "StrengthHouseModel" (29 : Nat) "hold"),
  (Jvm.Cond.stringRef "StrengthHouseModel" (31 : Nat) "back"),
  (Jvm.Cond.stringRef "StrengthHouseModel" (33 : Nat) "read"),
  (Jvm.Cond.stringRef "StrengthHouseModel" (35 : Nat) "till"),
  (Jvm.Cond.fieldLink "StrengthHouseModel" (9 : Nat) "StrengthHouseModel" "now" "[I"),
  (Jvm.Cond.fieldLink "StrengthHouseModel" (13 : Nat) "StrengthHouseModel" "kept" "[I"),
  (Jvm.Cond.fieldLink "StrengthHouseModel" (351 : Nat) "StrengthHouseModel" "images" "I"),
  (Jvm.Cond.fieldLink "StrengthHouseModel" (16 : Nat) "StrengthHouseModel" "found" "[I"),
  (Jvm.Cond.fieldLink "StrengthHouseModel" (20 : Nat) "StrengthHouseModel" "MOST" "[I"),
  (Jvm.Cond.fieldLink "StrengthHouseModel" (37 : Nat) "StrengthHouseModel" "WORDS" "[Ljava/lang/String;"),
  (Jvm.Cond.fieldLink "StrengthHouseModel" (143 : Nat) "StrengthHouseModel" "from" "I")]
def nd_80 : List Jvm.Cond := [(Jvm.Cond.fieldLink "StrengthHouseModel" (139 : Nat) "StrengthHouseModel" "to" "I"),
  (Jvm.Cond.fieldLink "StrengthHouseModel" (149 : Nat) "StrengthHouseModel" "isWrong" "Z"),
  (Jvm.Cond.fieldLink "StrengthHouseModel" (171 : Nat) "StrengthHouseModel" "parts" "I"),
  (Jvm.Cond.fieldLink "StrengthHouseModel" (41 : Nat) "StrengthHouseModel" "row" "[I"),
  (Jvm.Cond.fieldLink "StrengthHouseModel" (189 : Nat) "StrengthHouseModel" "tried" "I"),
  (Jvm.Cond.fieldLink "StrengthHouseModel" (192 : Nat) "StrengthHouseModel" "x" "I"),
  (Jvm.Cond.fieldLink "StrengthHouseModel" (186 : Nat) "StrengthHouseModel" "isBroken" "Z"),
  (Jvm.Cond.fieldLink "StrengthHouseModel" (201 : Nat) "StrengthHouseModel" "isLastPart" "Z"),
  (Jvm.Cond.fieldLink "StrengthHouseModel" (204 : Nat) "StrengthHouseModel" "why" "I"),
  (Jvm.Cond.fieldLink "StrengthHouseModel" (195 : Nat) "StrengthHouseModel" "ticks" "I"),
  (Jvm.Cond.fieldLink "StrengthHouseModel" (214 : Nat) "StrengthHouseModel" "held" "I"),
  (Jvm.Cond.fieldLink "StrengthHouseModel" (207 : Nat) "StrengthHouseModel" "taken" "I"),
  (Jvm.Cond.fieldLink "StrengthHouseModel" (44 : Nat) "StrengthHouseModel" "behind" "[I"),
  (Jvm.Cond.fieldLink "StrengthHouseModel" (47 : Nat) "StrengthHouseModel" "takenAt" "[I"),
  (Jvm.Cond.fieldLink "StrengthHouseModel" (50 : Nat) "StrengthHouseModel" "takenLoad" "[I"),
  (Jvm.Cond.fieldLink "StrengthHouseModel" (240 : Nat) "StrengthHouseModel" "lineFirst" "I")]
def nd_81 : List Jvm.Cond := [(Jvm.Cond.fieldLink "StrengthHouseModel" (243 : Nat) "StrengthHouseModel" "lineSecond" "I"),
  (Jvm.Cond.fieldLink "StrengthHouseModel" (233 : Nat) "StrengthHouseModel" "onLine" "I"),
  (Jvm.Cond.fieldLink "StrengthHouseModel" (53 : Nat) "StrengthHouseModel" "ordered" "[I"),
  (Jvm.Cond.fieldLink "StrengthHouseModel" (56 : Nat) "StrengthHouseModel" "whose" "[I"),
  (Jvm.Cond.fieldLink "StrengthHouseModel" (276 : Nat) "StrengthHouseModel" "orderedMany" "I"),
  (Jvm.Cond.fieldLink "StrengthHouseModel" (59 : Nat) "StrengthHouseModel" "plates" "[I"),
  (Jvm.Cond.fieldLink "StrengthHouseModel" (62 : Nat) "StrengthHouseModel" "cut" "[I"),
  (Jvm.Cond.fieldLink "StrengthHouseModel" (65 : Nat) "StrengthHouseModel" "trace" "[I"),
  (Jvm.Cond.fieldLink "StrengthHouseModel" (321 : Nat) "StrengthHouseModel" "traced" "I"),
  (Jvm.Cond.fieldLink "StrengthHouseModel" (324 : Nat) "StrengthHouseModel" "speaker" "I"),
  (Jvm.Cond.fieldLink "StrengthHouseModel" (333 : Nat) "StrengthHouseModel" "isParted" "Z"),
  (Jvm.Cond.fieldLink "StrengthHouseModel" (68 : Nat) "StrengthHouseModel" "widths" "[I"),
  (Jvm.Cond.fieldLink "StrengthHouseModel" (71 : Nat) "StrengthHouseModel" "sizes" "[I"),
  (Jvm.Cond.fieldLink "StrengthHouseModel" (74 : Nat) "StrengthHouseModel" "numbers" "[I"),
  (Jvm.Cond.fieldLink "StrengthHouseModel" (77 : Nat) "StrengthHouseModel" "carried" "[I"),
  (Jvm.Cond.laysFinal "StrengthHouseModel" "StrengthHouseModel" "now" "[I")]
def nd_82 : List Jvm.Cond := [(Jvm.Cond.soleField "StrengthHouseModel" "now"),
  (Jvm.Cond.laysFinal "StrengthHouseModel" "StrengthHouseModel" "kept" "[I"),
  (Jvm.Cond.soleField "StrengthHouseModel" "kept"),
  (Jvm.Cond.lays "StrengthHouseModel" "StrengthHouseModel" "images" "I"),
  (Jvm.Cond.soleField "StrengthHouseModel" "images"),
  (Jvm.Cond.laysFinal "StrengthHouseModel" "StrengthHouseModel" "found" "[I"),
  (Jvm.Cond.soleField "StrengthHouseModel" "found"),
  (Jvm.Cond.laysFinal "StrengthHouseModel" "StrengthHouseModel" "MOST" "[I"),
  (Jvm.Cond.soleField "StrengthHouseModel" "MOST"),
  (Jvm.Cond.laysFinal "StrengthHouseModel" "StrengthHouseModel" "WORDS" "[Ljava/lang/String;"),
  (Jvm.Cond.soleField "StrengthHouseModel" "WORDS"),
  (Jvm.Cond.lays "StrengthHouseModel" "StrengthHouseModel" "from" "I"),
  (Jvm.Cond.soleField "StrengthHouseModel" "from"),
  (Jvm.Cond.lays "StrengthHouseModel" "StrengthHouseModel" "to" "I"),
  (Jvm.Cond.soleField "StrengthHouseModel" "to"),
  (Jvm.Cond.lays "StrengthHouseModel" "StrengthHouseModel" "isWrong" "Z")]
def nd_83 : List Jvm.Cond := [(Jvm.Cond.soleField "StrengthHouseModel" "isWrong"),
  (Jvm.Cond.lays "StrengthHouseModel" "StrengthHouseModel" "parts" "I"),
  (Jvm.Cond.soleField "StrengthHouseModel" "parts"),
  (Jvm.Cond.laysFinal "StrengthHouseModel" "StrengthHouseModel" "row" "[I"),
  (Jvm.Cond.soleField "StrengthHouseModel" "row"),
  (Jvm.Cond.lays "StrengthHouseModel" "StrengthHouseModel" "tried" "I"),
  (Jvm.Cond.soleField "StrengthHouseModel" "tried"),
  (Jvm.Cond.lays "StrengthHouseModel" "StrengthHouseModel" "x" "I"),
  (Jvm.Cond.soleField "StrengthHouseModel" "x"),
  (Jvm.Cond.lays "StrengthHouseModel" "StrengthHouseModel" "isBroken" "Z"),
  (Jvm.Cond.soleField "StrengthHouseModel" "isBroken"),
  (Jvm.Cond.lays "StrengthHouseModel" "StrengthHouseModel" "isLastPart" "Z"),
  (Jvm.Cond.soleField "StrengthHouseModel" "isLastPart"),
  (Jvm.Cond.lays "StrengthHouseModel" "StrengthHouseModel" "why" "I"),
  (Jvm.Cond.soleField "StrengthHouseModel" "why"),
  (Jvm.Cond.lays "StrengthHouseModel" "StrengthHouseModel" "ticks" "I")]
def nd_84 : List Jvm.Cond := [(Jvm.Cond.soleField "StrengthHouseModel" "ticks"),
  (Jvm.Cond.lays "StrengthHouseModel" "StrengthHouseModel" "held" "I"),
  (Jvm.Cond.soleField "StrengthHouseModel" "held"),
  (Jvm.Cond.lays "StrengthHouseModel" "StrengthHouseModel" "taken" "I"),
  (Jvm.Cond.soleField "StrengthHouseModel" "taken"),
  (Jvm.Cond.laysFinal "StrengthHouseModel" "StrengthHouseModel" "behind" "[I"),
  (Jvm.Cond.soleField "StrengthHouseModel" "behind"),
  (Jvm.Cond.laysFinal "StrengthHouseModel" "StrengthHouseModel" "takenAt" "[I"),
  (Jvm.Cond.soleField "StrengthHouseModel" "takenAt"),
  (Jvm.Cond.laysFinal "StrengthHouseModel" "StrengthHouseModel" "takenLoad" "[I"),
  (Jvm.Cond.soleField "StrengthHouseModel" "takenLoad"),
  (Jvm.Cond.lays "StrengthHouseModel" "StrengthHouseModel" "lineFirst" "I"),
  (Jvm.Cond.soleField "StrengthHouseModel" "lineFirst"),
  (Jvm.Cond.lays "StrengthHouseModel" "StrengthHouseModel" "lineSecond" "I"),
  (Jvm.Cond.soleField "StrengthHouseModel" "lineSecond"),
  (Jvm.Cond.lays "StrengthHouseModel" "StrengthHouseModel" "onLine" "I")]
def nd_85 : List Jvm.Cond := [(Jvm.Cond.soleField "StrengthHouseModel" "onLine"),
  (Jvm.Cond.laysFinal "StrengthHouseModel" "StrengthHouseModel" "ordered" "[I"),
  (Jvm.Cond.soleField "StrengthHouseModel" "ordered"),
  (Jvm.Cond.laysFinal "StrengthHouseModel" "StrengthHouseModel" "whose" "[I"),
  (Jvm.Cond.soleField "StrengthHouseModel" "whose"),
  (Jvm.Cond.lays "StrengthHouseModel" "StrengthHouseModel" "orderedMany" "I"),
  (Jvm.Cond.soleField "StrengthHouseModel" "orderedMany"),
  (Jvm.Cond.laysFinal "StrengthHouseModel" "StrengthHouseModel" "plates" "[I"),
  (Jvm.Cond.soleField "StrengthHouseModel" "plates"),
  (Jvm.Cond.laysFinal "StrengthHouseModel" "StrengthHouseModel" "cut" "[I"),
  (Jvm.Cond.soleField "StrengthHouseModel" "cut"),
  (Jvm.Cond.laysFinal "StrengthHouseModel" "StrengthHouseModel" "trace" "[I"),
  (Jvm.Cond.soleField "StrengthHouseModel" "trace"),
  (Jvm.Cond.lays "StrengthHouseModel" "StrengthHouseModel" "traced" "I"),
  (Jvm.Cond.soleField "StrengthHouseModel" "traced"),
  (Jvm.Cond.lays "StrengthHouseModel" "StrengthHouseModel" "speaker" "I")]
def nd_86 : List Jvm.Cond := [(Jvm.Cond.soleField "StrengthHouseModel" "speaker"),
  (Jvm.Cond.lays "StrengthHouseModel" "StrengthHouseModel" "isParted" "Z"),
  (Jvm.Cond.soleField "StrengthHouseModel" "isParted"),
  (Jvm.Cond.laysFinal "StrengthHouseModel" "StrengthHouseModel" "widths" "[I"),
  (Jvm.Cond.soleField "StrengthHouseModel" "widths"),
  (Jvm.Cond.laysFinal "StrengthHouseModel" "StrengthHouseModel" "sizes" "[I"),
  (Jvm.Cond.soleField "StrengthHouseModel" "sizes"),
  (Jvm.Cond.laysFinal "StrengthHouseModel" "StrengthHouseModel" "numbers" "[I"),
  (Jvm.Cond.soleField "StrengthHouseModel" "numbers"),
  (Jvm.Cond.laysFinal "StrengthHouseModel" "StrengthHouseModel" "carried" "[I"),
  (Jvm.Cond.soleField "StrengthHouseModel" "carried"),
  (Jvm.Cond.superclass "StrengthHouseModel" "java/lang/Object"),
  (Jvm.Cond.methodLink "StrengthHouseLaw" (17 : Nat) ({ cls := "StrengthHouseModel", name := "piece", desc := "(IIIII)I" } : Jvm.MethodName)),
  (Jvm.Cond.instanceMethod ({ cls := "StrengthHouseModel", name := "piece", desc := "(IIIII)I" } : Jvm.MethodName)),
  (Jvm.Cond.selects "StrengthHouseModel" ({ cls := "StrengthHouseModel", name := "piece", desc := "(IIIII)I" } : Jvm.MethodName) ({ cls := "StrengthHouseModel", name := "piece", desc := "(IIIII)I" } : Jvm.MethodName)),
  (Jvm.Cond.code ({ cls := "StrengthHouseModel", name := "piece", desc := "(IIIII)I" } : Jvm.MethodName) prog_14_method_9_code (10 : Nat) (Option.some Jvm.ClassFile.FieldType.int))]
def nd_87 : List Jvm.Cond := [(Jvm.Cond.methodLink "StrengthHouseModel" (81 : Nat) ({ cls := "StrengthHouseModel", name := "within", desc := "(III)Z" } : Jvm.MethodName)),
  (Jvm.Cond.static ({ cls := "StrengthHouseModel", name := "within", desc := "(III)Z" } : Jvm.MethodName)),
  (Jvm.Cond.code ({ cls := "StrengthHouseModel", name := "within", desc := "(III)Z" } : Jvm.MethodName) prog_14_method_3_code (3 : Nat) (Option.some Jvm.ClassFile.FieldType.boolean)),
  (Jvm.Cond.methodLink "StrengthHouseModel" (85 : Nat) ({ cls := "StrengthHouseModel", name := "isSheet", desc := "(I)Z" } : Jvm.MethodName)),
  (Jvm.Cond.static ({ cls := "StrengthHouseModel", name := "isSheet", desc := "(I)Z" } : Jvm.MethodName)),
  (Jvm.Cond.code ({ cls := "StrengthHouseModel", name := "isSheet", desc := "(I)Z" } : Jvm.MethodName) prog_14_method_85_code (1 : Nat) (Option.some Jvm.ClassFile.FieldType.boolean)),
  (Jvm.Cond.constant "StrengthHouseModel" (89 : Nat) (-1000001 : Int32)),
  (Jvm.Cond.methodLink "StrengthHouseModel" (90 : Nat) ({ cls := "StrengthHouseModel", name := "finding", desc := "(I)I" } : Jvm.MethodName)),
  (Jvm.Cond.privateMethod ({ cls := "StrengthHouseModel", name := "finding", desc := "(I)I" } : Jvm.MethodName)),
  (Jvm.Cond.instanceMethod ({ cls := "StrengthHouseModel", name := "finding", desc := "(I)I" } : Jvm.MethodName)),
  (Jvm.Cond.code ({ cls := "StrengthHouseModel", name := "finding", desc := "(I)I" } : Jvm.MethodName) prog_14_method_2_code (2 : Nat) (Option.some Jvm.ClassFile.FieldType.int)),
  (Jvm.Cond.constant "StrengthHouseModel" (80 : Nat) (-1000000 : Int32)),
  (Jvm.Cond.constant "StrengthHouseModel" (94 : Nat) (-1000002 : Int32)),
  (Jvm.Cond.constant "StrengthHouseModel" (95 : Nat) (-1000004 : Int32)),
  (Jvm.Cond.methodLink "StrengthHouseLaw" (22 : Nat) ({ cls := "StrengthHouseModel", name := "pieceIs", desc := "(II)I" } : Jvm.MethodName)),
  (Jvm.Cond.instanceMethod ({ cls := "StrengthHouseModel", name := "pieceIs", desc := "(II)I" } : Jvm.MethodName))]
def nd_88 : List Jvm.Cond := [(Jvm.Cond.selects "StrengthHouseModel" ({ cls := "StrengthHouseModel", name := "pieceIs", desc := "(II)I" } : Jvm.MethodName) ({ cls := "StrengthHouseModel", name := "pieceIs", desc := "(II)I" } : Jvm.MethodName)),
  (Jvm.Cond.code ({ cls := "StrengthHouseModel", name := "pieceIs", desc := "(II)I" } : Jvm.MethodName) prog_14_method_14_code (5 : Nat) (Option.some Jvm.ClassFile.FieldType.int)),
  (Jvm.Cond.methodLink "StrengthHouseModel" (102 : Nat) ({ cls := "StrengthHouseModel", name := "is", desc := "(II)Z" } : Jvm.MethodName)),
  (Jvm.Cond.privateMethod ({ cls := "StrengthHouseModel", name := "is", desc := "(II)Z" } : Jvm.MethodName)),
  (Jvm.Cond.instanceMethod ({ cls := "StrengthHouseModel", name := "is", desc := "(II)Z" } : Jvm.MethodName)),
  (Jvm.Cond.code ({ cls := "StrengthHouseModel", name := "is", desc := "(II)Z" } : Jvm.MethodName) prog_14_method_4_code (3 : Nat) (Option.some Jvm.ClassFile.FieldType.boolean)),
  (Jvm.Cond.methodLink "StrengthHouseModel" (106 : Nat) ({ cls := "StrengthHouseModel", name := "many", desc := "(I)I" } : Jvm.MethodName)),
  (Jvm.Cond.privateMethod ({ cls := "StrengthHouseModel", name := "many", desc := "(I)I" } : Jvm.MethodName)),
  (Jvm.Cond.instanceMethod ({ cls := "StrengthHouseModel", name := "many", desc := "(I)I" } : Jvm.MethodName)),
  (Jvm.Cond.code ({ cls := "StrengthHouseModel", name := "many", desc := "(I)I" } : Jvm.MethodName) prog_14_method_10_code (2 : Nat) (Option.some Jvm.ClassFile.FieldType.int)),
  (Jvm.Cond.methodLink "StrengthHouseModel" (96 : Nat) ({ cls := "StrengthHouseModel", name := "of", desc := "(II)I" } : Jvm.MethodName)),
  (Jvm.Cond.privateMethod ({ cls := "StrengthHouseModel", name := "of", desc := "(II)I" } : Jvm.MethodName)),
  (Jvm.Cond.instanceMethod ({ cls := "StrengthHouseModel", name := "of", desc := "(II)I" } : Jvm.MethodName)),
  (Jvm.Cond.code ({ cls := "StrengthHouseModel", name := "of", desc := "(II)I" } : Jvm.MethodName) prog_14_method_8_code (3 : Nat) (Option.some Jvm.ClassFile.FieldType.int)),
  (Jvm.Cond.methodLink "StrengthHouseModel" (109 : Nat) ({ cls := "StrengthHouseModel", name := "isGood", desc := "(II)Z" } : Jvm.MethodName)),
  (Jvm.Cond.privateMethod ({ cls := "StrengthHouseModel", name := "isGood", desc := "(II)Z" } : Jvm.MethodName))]
def nd_89 : List Jvm.Cond := [(Jvm.Cond.instanceMethod ({ cls := "StrengthHouseModel", name := "isGood", desc := "(II)Z" } : Jvm.MethodName)),
  (Jvm.Cond.code ({ cls := "StrengthHouseModel", name := "isGood", desc := "(II)Z" } : Jvm.MethodName) prog_14_method_13_code (3 : Nat) (Option.some Jvm.ClassFile.FieldType.boolean)),
  (Jvm.Cond.methodLink "StrengthHouseModel" (100 : Nat) ({ cls := "StrengthHouseModel", name := "load", desc := "(II)I" } : Jvm.MethodName)),
  (Jvm.Cond.privateMethod ({ cls := "StrengthHouseModel", name := "load", desc := "(II)I" } : Jvm.MethodName)),
  (Jvm.Cond.instanceMethod ({ cls := "StrengthHouseModel", name := "load", desc := "(II)I" } : Jvm.MethodName)),
  (Jvm.Cond.code ({ cls := "StrengthHouseModel", name := "load", desc := "(II)I" } : Jvm.MethodName) prog_14_method_12_code (3 : Nat) (Option.some Jvm.ClassFile.FieldType.int)),
  (Jvm.Cond.methodLink "StrengthHouseLaw" (26 : Nat) ({ cls := "StrengthHouseModel", name := "as", desc := "(II)I" } : Jvm.MethodName)),
  (Jvm.Cond.instanceMethod ({ cls := "StrengthHouseModel", name := "as", desc := "(II)I" } : Jvm.MethodName)),
  (Jvm.Cond.selects "StrengthHouseModel" ({ cls := "StrengthHouseModel", name := "as", desc := "(II)I" } : Jvm.MethodName) ({ cls := "StrengthHouseModel", name := "as", desc := "(II)I" } : Jvm.MethodName)),
  (Jvm.Cond.code ({ cls := "StrengthHouseModel", name := "as", desc := "(II)I" } : Jvm.MethodName) prog_14_method_16_code (4 : Nat) (Option.some Jvm.ClassFile.FieldType.int)),
  (Jvm.Cond.methodLink "StrengthHouseModel" (112 : Nat) ({ cls := "StrengthHouseModel", name := "above", desc := "(I)I" } : Jvm.MethodName)),
  (Jvm.Cond.static ({ cls := "StrengthHouseModel", name := "above", desc := "(I)I" } : Jvm.MethodName)),
  (Jvm.Cond.code ({ cls := "StrengthHouseModel", name := "above", desc := "(I)I" } : Jvm.MethodName) prog_14_method_15_code (1 : Nat) (Option.some Jvm.ClassFile.FieldType.int)),
  (Jvm.Cond.constant "StrengthHouseModel" (115 : Nat) (-1000005 : Int32)),
  (Jvm.Cond.methodLink "StrengthHouseLaw" (30 : Nat) ({ cls := "StrengthHouseModel", name := "answer", desc := "(II)I" } : Jvm.MethodName)),
  (Jvm.Cond.instanceMethod ({ cls := "StrengthHouseModel", name := "answer", desc := "(II)I" } : Jvm.MethodName))]
def nd_90 : List Jvm.Cond := [(Jvm.Cond.selects "StrengthHouseModel" ({ cls := "StrengthHouseModel", name := "answer", desc := "(II)I" } : Jvm.MethodName) ({ cls := "StrengthHouseModel", name := "answer", desc := "(II)I" } : Jvm.MethodName)),
  (Jvm.Cond.code ({ cls := "StrengthHouseModel", name := "answer", desc := "(II)I" } : Jvm.MethodName) prog_14_method_19_code (3 : Nat) (Option.some Jvm.ClassFile.FieldType.int)),
  (Jvm.Cond.methodLink "StrengthHouseModel" (124 : Nat) ({ cls := "StrengthHouseModel", name := "answered", desc := "(II)I" } : Jvm.MethodName)),
  (Jvm.Cond.privateMethod ({ cls := "StrengthHouseModel", name := "answered", desc := "(II)I" } : Jvm.MethodName)),
  (Jvm.Cond.instanceMethod ({ cls := "StrengthHouseModel", name := "answered", desc := "(II)I" } : Jvm.MethodName)),
  (Jvm.Cond.code ({ cls := "StrengthHouseModel", name := "answered", desc := "(II)I" } : Jvm.MethodName) prog_14_method_18_code (7 : Nat) (Option.some Jvm.ClassFile.FieldType.int)),
  (Jvm.Cond.methodLink "StrengthHouseModel" (116 : Nat) ({ cls := "StrengthHouseModel", name := "end", desc := "(I)I" } : Jvm.MethodName)),
  (Jvm.Cond.privateMethod ({ cls := "StrengthHouseModel", name := "end", desc := "(I)I" } : Jvm.MethodName)),
  (Jvm.Cond.instanceMethod ({ cls := "StrengthHouseModel", name := "end", desc := "(I)I" } : Jvm.MethodName)),
  (Jvm.Cond.code ({ cls := "StrengthHouseModel", name := "end", desc := "(I)I" } : Jvm.MethodName) prog_14_method_17_code (2 : Nat) (Option.some Jvm.ClassFile.FieldType.int)),
  (Jvm.Cond.methodLink "StrengthHouseModel" (119 : Nat) ({ cls := "java/lang/Math", name := "max", desc := "(II)I" } : Jvm.MethodName)),
  (Jvm.Cond.methodLink "StrengthHouseLaw" (35 : Nat) ({ cls := "StrengthHouseModel", name := "trace", desc := "(III)I" } : Jvm.MethodName)),
  (Jvm.Cond.instanceMethod ({ cls := "StrengthHouseModel", name := "trace", desc := "(III)I" } : Jvm.MethodName)),
  (Jvm.Cond.selects "StrengthHouseModel" ({ cls := "StrengthHouseModel", name := "trace", desc := "(III)I" } : Jvm.MethodName) ({ cls := "StrengthHouseModel", name := "trace", desc := "(III)I" } : Jvm.MethodName)),
  (Jvm.Cond.code ({ cls := "StrengthHouseModel", name := "trace", desc := "(III)I" } : Jvm.MethodName) prog_14_method_21_code (7 : Nat) (Option.some Jvm.ClassFile.FieldType.int)),
  (Jvm.Cond.constant "StrengthHouseModel" (127 : Nat) (-1000003 : Int32))]
def nd_91 : List Jvm.Cond := [(Jvm.Cond.methodLink "StrengthHouseModel" (128 : Nat) ({ cls := "StrengthHouseModel", name := "read", desc := "(IIII)V" } : Jvm.MethodName)),
  (Jvm.Cond.privateMethod ({ cls := "StrengthHouseModel", name := "read", desc := "(IIII)V" } : Jvm.MethodName)),
  (Jvm.Cond.instanceMethod ({ cls := "StrengthHouseModel", name := "read", desc := "(IIII)V" } : Jvm.MethodName)),
  (Jvm.Cond.code ({ cls := "StrengthHouseModel", name := "read", desc := "(IIII)V" } : Jvm.MethodName) prog_14_method_20_code (5 : Nat) (Option.none : Option Jvm.ClassFile.FieldType)),
  (Jvm.Cond.methodLink "StrengthHouseLaw" (39 : Nat) ({ cls := "StrengthHouseModel", name := "reading", desc := "(III)I" } : Jvm.MethodName)),
  (Jvm.Cond.instanceMethod ({ cls := "StrengthHouseModel", name := "reading", desc := "(III)I" } : Jvm.MethodName)),
  (Jvm.Cond.selects "StrengthHouseModel" ({ cls := "StrengthHouseModel", name := "reading", desc := "(III)I" } : Jvm.MethodName) ({ cls := "StrengthHouseModel", name := "reading", desc := "(III)I" } : Jvm.MethodName)),
  (Jvm.Cond.code ({ cls := "StrengthHouseModel", name := "reading", desc := "(III)I" } : Jvm.MethodName) prog_14_method_22_code (4 : Nat) (Option.some Jvm.ClassFile.FieldType.int)),
  (Jvm.Cond.methodLink "StrengthHouseModel" (131 : Nat) ({ cls := "StrengthHouseModel", name := "stretch", desc := "(II)I" } : Jvm.MethodName)),
  (Jvm.Cond.privateMethod ({ cls := "StrengthHouseModel", name := "stretch", desc := "(II)I" } : Jvm.MethodName)),
  (Jvm.Cond.instanceMethod ({ cls := "StrengthHouseModel", name := "stretch", desc := "(II)I" } : Jvm.MethodName)),
  (Jvm.Cond.code ({ cls := "StrengthHouseModel", name := "stretch", desc := "(II)I" } : Jvm.MethodName) prog_14_method_11_code (3 : Nat) (Option.some Jvm.ClassFile.FieldType.int)),
  (Jvm.Cond.methodLink "StrengthHouseLaw" (43 : Nat) ({ cls := "StrengthHouseModel", name := "limit", desc := "(II)I" } : Jvm.MethodName)),
  (Jvm.Cond.instanceMethod ({ cls := "StrengthHouseModel", name := "limit", desc := "(II)I" } : Jvm.MethodName)),
  (Jvm.Cond.selects "StrengthHouseModel" ({ cls := "StrengthHouseModel", name := "limit", desc := "(II)I" } : Jvm.MethodName) ({ cls := "StrengthHouseModel", name := "limit", desc := "(II)I" } : Jvm.MethodName)),
  (Jvm.Cond.code ({ cls := "StrengthHouseModel", name := "limit", desc := "(II)I" } : Jvm.MethodName) prog_14_method_23_code (3 : Nat) (Option.some Jvm.ClassFile.FieldType.int))]
def nd_92 : List Jvm.Cond := [(Jvm.Cond.methodLink "StrengthHouseModel" (134 : Nat) ({ cls := "StrengthHouseModel", name := "become", desc := "(II)I" } : Jvm.MethodName)),
  (Jvm.Cond.privateMethod ({ cls := "StrengthHouseModel", name := "become", desc := "(II)I" } : Jvm.MethodName)),
  (Jvm.Cond.instanceMethod ({ cls := "StrengthHouseModel", name := "become", desc := "(II)I" } : Jvm.MethodName)),
  (Jvm.Cond.code ({ cls := "StrengthHouseModel", name := "become", desc := "(II)I" } : Jvm.MethodName) prog_14_method_7_code (4 : Nat) (Option.some Jvm.ClassFile.FieldType.int)),
  (Jvm.Cond.methodLink "StrengthHouseLaw" (50 : Nat) ({ cls := "StrengthHouseModel", name := "feed", desc := "(JI)I" } : Jvm.MethodName)),
  (Jvm.Cond.instanceMethod ({ cls := "StrengthHouseModel", name := "feed", desc := "(JI)I" } : Jvm.MethodName)),
  (Jvm.Cond.selects "StrengthHouseModel" ({ cls := "StrengthHouseModel", name := "feed", desc := "(JI)I" } : Jvm.MethodName) ({ cls := "StrengthHouseModel", name := "feed", desc := "(JI)I" } : Jvm.MethodName)),
  (Jvm.Cond.code ({ cls := "StrengthHouseModel", name := "feed", desc := "(JI)I" } : Jvm.MethodName) prog_14_method_24_code (5 : Nat) (Option.some Jvm.ClassFile.FieldType.int)),
  (Jvm.Cond.constantLong "StrengthHouseModel" (137 : Nat) (255 : Int64)),
  (Jvm.Cond.methodLink "StrengthHouseLaw" (55 : Nat) ({ cls := "StrengthHouseModel", name := "program", desc := "(I)I" } : Jvm.MethodName)),
  (Jvm.Cond.instanceMethod ({ cls := "StrengthHouseModel", name := "program", desc := "(I)I" } : Jvm.MethodName)),
  (Jvm.Cond.selects "StrengthHouseModel" ({ cls := "StrengthHouseModel", name := "program", desc := "(I)I" } : Jvm.MethodName) ({ cls := "StrengthHouseModel", name := "program", desc := "(I)I" } : Jvm.MethodName)),
  (Jvm.Cond.code ({ cls := "StrengthHouseModel", name := "program", desc := "(I)I" } : Jvm.MethodName) prog_14_method_31_code (5 : Nat) (Option.some Jvm.ClassFile.FieldType.int)),
  (Jvm.Cond.methodLink "StrengthHouseModel" (174 : Nat) ({ cls := "StrengthHouseModel", name := "isProgram", desc := "(I)Z" } : Jvm.MethodName)),
  (Jvm.Cond.privateMethod ({ cls := "StrengthHouseModel", name := "isProgram", desc := "(I)Z" } : Jvm.MethodName)),
  (Jvm.Cond.instanceMethod ({ cls := "StrengthHouseModel", name := "isProgram", desc := "(I)Z" } : Jvm.MethodName))]
def nd_93 : List Jvm.Cond := [(Jvm.Cond.code ({ cls := "StrengthHouseModel", name := "isProgram", desc := "(I)Z" } : Jvm.MethodName) prog_14_method_30_code (2 : Nat) (Option.some Jvm.ClassFile.FieldType.boolean)),
  (Jvm.Cond.methodLink "StrengthHouseModel" (161 : Nat) ({ cls := "StrengthHouseModel", name := "goOn", desc := "()V" } : Jvm.MethodName)),
  (Jvm.Cond.privateMethod ({ cls := "StrengthHouseModel", name := "goOn", desc := "()V" } : Jvm.MethodName)),
  (Jvm.Cond.instanceMethod ({ cls := "StrengthHouseModel", name := "goOn", desc := "()V" } : Jvm.MethodName)),
  (Jvm.Cond.code ({ cls := "StrengthHouseModel", name := "goOn", desc := "()V" } : Jvm.MethodName) prog_14_method_26_code (3 : Nat) (Option.none : Option Jvm.ClassFile.FieldType)),
  (Jvm.Cond.methodLink "StrengthHouseModel" (146 : Nat) ({ cls := "StrengthHouseModel", name := "isByte", desc := "(III)Z" } : Jvm.MethodName)),
  (Jvm.Cond.privateMethod ({ cls := "StrengthHouseModel", name := "isByte", desc := "(III)Z" } : Jvm.MethodName)),
  (Jvm.Cond.instanceMethod ({ cls := "StrengthHouseModel", name := "isByte", desc := "(III)Z" } : Jvm.MethodName)),
  (Jvm.Cond.code ({ cls := "StrengthHouseModel", name := "isByte", desc := "(III)Z" } : Jvm.MethodName) prog_14_method_25_code (4 : Nat) (Option.some Jvm.ClassFile.FieldType.boolean)),
  (Jvm.Cond.methodLink "StrengthHouseModel" (177 : Nat) ({ cls := "StrengthHouseModel", name := "part", desc := "()V" } : Jvm.MethodName)),
  (Jvm.Cond.privateMethod ({ cls := "StrengthHouseModel", name := "part", desc := "()V" } : Jvm.MethodName)),
  (Jvm.Cond.instanceMethod ({ cls := "StrengthHouseModel", name := "part", desc := "()V" } : Jvm.MethodName)),
  (Jvm.Cond.code ({ cls := "StrengthHouseModel", name := "part", desc := "()V" } : Jvm.MethodName) prog_14_method_29_code (3 : Nat) (Option.none : Option Jvm.ClassFile.FieldType)),
  (Jvm.Cond.methodLink "StrengthHouseModel" (164 : Nat) ({ cls := "StrengthHouseModel", name := "takes", desc := "(Ljava/lang/String;)Z" } : Jvm.MethodName)),
  (Jvm.Cond.privateMethod ({ cls := "StrengthHouseModel", name := "takes", desc := "(Ljava/lang/String;)Z" } : Jvm.MethodName)),
  (Jvm.Cond.instanceMethod ({ cls := "StrengthHouseModel", name := "takes", desc := "(Ljava/lang/String;)Z" } : Jvm.MethodName))]
def nd_94 : List Jvm.Cond := [(Jvm.Cond.code ({ cls := "StrengthHouseModel", name := "takes", desc := "(Ljava/lang/String;)Z" } : Jvm.MethodName) prog_14_method_27_code (4 : Nat) (Option.some Jvm.ClassFile.FieldType.boolean)),
  (Jvm.Cond.methodLink "StrengthHouseModel" (153 : Nat) ({ cls := "java/lang/String", name := "length", desc := "()I" } : Jvm.MethodName)),
  (Jvm.Cond.methodLink "StrengthHouseModel" (157 : Nat) ({ cls := "java/lang/String", name := "charAt", desc := "(I)C" } : Jvm.MethodName)),
  (Jvm.Cond.methodLink "StrengthHouseModel" (168 : Nat) ({ cls := "StrengthHouseModel", name := "number", desc := "()I" } : Jvm.MethodName)),
  (Jvm.Cond.privateMethod ({ cls := "StrengthHouseModel", name := "number", desc := "()I" } : Jvm.MethodName)),
  (Jvm.Cond.instanceMethod ({ cls := "StrengthHouseModel", name := "number", desc := "()I" } : Jvm.MethodName)),
  (Jvm.Cond.code ({ cls := "StrengthHouseModel", name := "number", desc := "()I" } : Jvm.MethodName) prog_14_method_28_code (3 : Nat) (Option.some Jvm.ClassFile.FieldType.int)),
  (Jvm.Cond.stringRef "StrengthHouseModel" (180 : Nat) ","),
  (Jvm.Cond.stringRef "StrengthHouseModel" (182 : Nat) ";"),
  (Jvm.Cond.stringRef "StrengthHouseModel" (184 : Nat) "last"),
  (Jvm.Cond.methodLink "StrengthHouseLaw" (59 : Nat) ({ cls := "StrengthHouseModel", name := "run", desc := "(II)I" } : Jvm.MethodName)),
  (Jvm.Cond.instanceMethod ({ cls := "StrengthHouseModel", name := "run", desc := "(II)I" } : Jvm.MethodName)),
  (Jvm.Cond.selects "StrengthHouseModel" ({ cls := "StrengthHouseModel", name := "run", desc := "(II)I" } : Jvm.MethodName) ({ cls := "StrengthHouseModel", name := "run", desc := "(II)I" } : Jvm.MethodName)),
  (Jvm.Cond.code ({ cls := "StrengthHouseModel", name := "run", desc := "(II)I" } : Jvm.MethodName) prog_14_method_39_code (5 : Nat) (Option.some Jvm.ClassFile.FieldType.int)),
  (Jvm.Cond.methodLink "StrengthHouseModel" (227 : Nat) ({ cls := "StrengthHouseModel", name := "hasProgram", desc := "(I)Z" } : Jvm.MethodName)),
  (Jvm.Cond.privateMethod ({ cls := "StrengthHouseModel", name := "hasProgram", desc := "(I)Z" } : Jvm.MethodName))]
def nd_95 : List Jvm.Cond := [(Jvm.Cond.instanceMethod ({ cls := "StrengthHouseModel", name := "hasProgram", desc := "(I)Z" } : Jvm.MethodName)),
  (Jvm.Cond.code ({ cls := "StrengthHouseModel", name := "hasProgram", desc := "(I)Z" } : Jvm.MethodName) prog_14_method_32_code (2 : Nat) (Option.some Jvm.ClassFile.FieldType.boolean)),
  (Jvm.Cond.methodLink "StrengthHouseModel" (230 : Nat) ({ cls := "StrengthHouseModel", name := "goThrough", desc := "(II)I" } : Jvm.MethodName)),
  (Jvm.Cond.privateMethod ({ cls := "StrengthHouseModel", name := "goThrough", desc := "(II)I" } : Jvm.MethodName)),
  (Jvm.Cond.instanceMethod ({ cls := "StrengthHouseModel", name := "goThrough", desc := "(II)I" } : Jvm.MethodName)),
  (Jvm.Cond.code ({ cls := "StrengthHouseModel", name := "goThrough", desc := "(II)I" } : Jvm.MethodName) prog_14_method_38_code (6 : Nat) (Option.some Jvm.ClassFile.FieldType.int)),
  (Jvm.Cond.methodLink "StrengthHouseModel" (223 : Nat) ({ cls := "StrengthHouseModel", name := "does", desc := "(II)V" } : Jvm.MethodName)),
  (Jvm.Cond.privateMethod ({ cls := "StrengthHouseModel", name := "does", desc := "(II)V" } : Jvm.MethodName)),
  (Jvm.Cond.instanceMethod ({ cls := "StrengthHouseModel", name := "does", desc := "(II)V" } : Jvm.MethodName)),
  (Jvm.Cond.code ({ cls := "StrengthHouseModel", name := "does", desc := "(II)V" } : Jvm.MethodName) prog_14_method_37_code (5 : Nat) (Option.none : Option Jvm.ClassFile.FieldType)),
  (Jvm.Cond.methodLink "StrengthHouseModel" (210 : Nat) ({ cls := "StrengthHouseModel", name := "goesOn", desc := "()Z" } : Jvm.MethodName)),
  (Jvm.Cond.privateMethod ({ cls := "StrengthHouseModel", name := "goesOn", desc := "()Z" } : Jvm.MethodName)),
  (Jvm.Cond.instanceMethod ({ cls := "StrengthHouseModel", name := "goesOn", desc := "()Z" } : Jvm.MethodName)),
  (Jvm.Cond.code ({ cls := "StrengthHouseModel", name := "goesOn", desc := "()Z" } : Jvm.MethodName) prog_14_method_35_code (1 : Nat) (Option.some Jvm.ClassFile.FieldType.boolean)),
  (Jvm.Cond.methodLink "StrengthHouseModel" (198 : Nat) ({ cls := "StrengthHouseModel", name := "loadNow", desc := "()I" } : Jvm.MethodName)),
  (Jvm.Cond.privateMethod ({ cls := "StrengthHouseModel", name := "loadNow", desc := "()I" } : Jvm.MethodName))]
def nd_96 : List Jvm.Cond := [(Jvm.Cond.instanceMethod ({ cls := "StrengthHouseModel", name := "loadNow", desc := "()I" } : Jvm.MethodName)),
  (Jvm.Cond.code ({ cls := "StrengthHouseModel", name := "loadNow", desc := "()I" } : Jvm.MethodName) prog_14_method_33_code (1 : Nat) (Option.some Jvm.ClassFile.FieldType.int)),
  (Jvm.Cond.methodLink "StrengthHouseModel" (217 : Nat) ({ cls := "StrengthHouseModel", name := "takeReading", desc := "()V" } : Jvm.MethodName)),
  (Jvm.Cond.privateMethod ({ cls := "StrengthHouseModel", name := "takeReading", desc := "()V" } : Jvm.MethodName)),
  (Jvm.Cond.instanceMethod ({ cls := "StrengthHouseModel", name := "takeReading", desc := "()V" } : Jvm.MethodName)),
  (Jvm.Cond.code ({ cls := "StrengthHouseModel", name := "takeReading", desc := "()V" } : Jvm.MethodName) prog_14_method_36_code (4 : Nat) (Option.none : Option Jvm.ClassFile.FieldType)),
  (Jvm.Cond.methodLink "StrengthHouseModel" (220 : Nat) ({ cls := "StrengthHouseModel", name := "tick", desc := "()V" } : Jvm.MethodName)),
  (Jvm.Cond.privateMethod ({ cls := "StrengthHouseModel", name := "tick", desc := "()V" } : Jvm.MethodName)),
  (Jvm.Cond.instanceMethod ({ cls := "StrengthHouseModel", name := "tick", desc := "()V" } : Jvm.MethodName)),
  (Jvm.Cond.code ({ cls := "StrengthHouseModel", name := "tick", desc := "()V" } : Jvm.MethodName) prog_14_method_34_code (1 : Nat) (Option.none : Option Jvm.ClassFile.FieldType)),
  (Jvm.Cond.methodLink "StrengthHouseLaw" (63 : Nat) ({ cls := "StrengthHouseModel", name := "ran", desc := "(I)I" } : Jvm.MethodName)),
  (Jvm.Cond.instanceMethod ({ cls := "StrengthHouseModel", name := "ran", desc := "(I)I" } : Jvm.MethodName)),
  (Jvm.Cond.selects "StrengthHouseModel" ({ cls := "StrengthHouseModel", name := "ran", desc := "(I)I" } : Jvm.MethodName) ({ cls := "StrengthHouseModel", name := "ran", desc := "(I)I" } : Jvm.MethodName)),
  (Jvm.Cond.code ({ cls := "StrengthHouseModel", name := "ran", desc := "(I)I" } : Jvm.MethodName) prog_14_method_40_code (2 : Nat) (Option.some Jvm.ClassFile.FieldType.int)),
  (Jvm.Cond.methodLink "StrengthHouseLaw" (67 : Nat) ({ cls := "StrengthHouseModel", name := "line", desc := "(II)I" } : Jvm.MethodName)),
  (Jvm.Cond.instanceMethod ({ cls := "StrengthHouseModel", name := "line", desc := "(II)I" } : Jvm.MethodName))]
def nd_97 : List Jvm.Cond := [(Jvm.Cond.selects "StrengthHouseModel" ({ cls := "StrengthHouseModel", name := "line", desc := "(II)I" } : Jvm.MethodName) ({ cls := "StrengthHouseModel", name := "line", desc := "(II)I" } : Jvm.MethodName)),
  (Jvm.Cond.code ({ cls := "StrengthHouseModel", name := "line", desc := "(II)I" } : Jvm.MethodName) prog_14_method_43_code (3 : Nat) (Option.some Jvm.ClassFile.FieldType.int)),
  (Jvm.Cond.methodLink "StrengthHouseModel" (246 : Nat) ({ cls := "StrengthHouseModel", name := "findLine", desc := "(I)Z" } : Jvm.MethodName)),
  (Jvm.Cond.privateMethod ({ cls := "StrengthHouseModel", name := "findLine", desc := "(I)Z" } : Jvm.MethodName)),
  (Jvm.Cond.instanceMethod ({ cls := "StrengthHouseModel", name := "findLine", desc := "(I)Z" } : Jvm.MethodName)),
  (Jvm.Cond.code ({ cls := "StrengthHouseModel", name := "findLine", desc := "(I)Z" } : Jvm.MethodName) prog_14_method_42_code (6 : Nat) (Option.some Jvm.ClassFile.FieldType.boolean)),
  (Jvm.Cond.methodLink "StrengthHouseModel" (236 : Nat) ({ cls := "StrengthHouseModel", name := "isOn", desc := "(IIII)Z" } : Jvm.MethodName)),
  (Jvm.Cond.privateMethod ({ cls := "StrengthHouseModel", name := "isOn", desc := "(IIII)Z" } : Jvm.MethodName)),
  (Jvm.Cond.instanceMethod ({ cls := "StrengthHouseModel", name := "isOn", desc := "(IIII)Z" } : Jvm.MethodName)),
  (Jvm.Cond.code ({ cls := "StrengthHouseModel", name := "isOn", desc := "(IIII)Z" } : Jvm.MethodName) prog_14_method_41_code (9 : Nat) (Option.some Jvm.ClassFile.FieldType.boolean)),
  (Jvm.Cond.methodLink "StrengthHouseLaw" (71 : Nat) ({ cls := "StrengthHouseModel", name := "yields", desc := "(II)I" } : Jvm.MethodName)),
  (Jvm.Cond.instanceMethod ({ cls := "StrengthHouseModel", name := "yields", desc := "(II)I" } : Jvm.MethodName)),
  (Jvm.Cond.selects "StrengthHouseModel" ({ cls := "StrengthHouseModel", name := "yields", desc := "(II)I" } : Jvm.MethodName) ({ cls := "StrengthHouseModel", name := "yields", desc := "(II)I" } : Jvm.MethodName)),
  (Jvm.Cond.code ({ cls := "StrengthHouseModel", name := "yields", desc := "(II)I" } : Jvm.MethodName) prog_14_method_45_code (4 : Nat) (Option.some Jvm.ClassFile.FieldType.int)),
  (Jvm.Cond.methodLink "StrengthHouseModel" (249 : Nat) ({ cls := "StrengthHouseModel", name := "yieldOf", desc := "(II)I" } : Jvm.MethodName)),
  (Jvm.Cond.privateMethod ({ cls := "StrengthHouseModel", name := "yieldOf", desc := "(II)I" } : Jvm.MethodName))]
def nd_98 : List Jvm.Cond := [(Jvm.Cond.instanceMethod ({ cls := "StrengthHouseModel", name := "yieldOf", desc := "(II)I" } : Jvm.MethodName)),
  (Jvm.Cond.code ({ cls := "StrengthHouseModel", name := "yieldOf", desc := "(II)I" } : Jvm.MethodName) prog_14_method_44_code (10 : Nat) (Option.some Jvm.ClassFile.FieldType.int)),
  (Jvm.Cond.methodLink "StrengthHouseLaw" (75 : Nat) ({ cls := "StrengthHouseModel", name := "top", desc := "(I)I" } : Jvm.MethodName)),
  (Jvm.Cond.instanceMethod ({ cls := "StrengthHouseModel", name := "top", desc := "(I)I" } : Jvm.MethodName)),
  (Jvm.Cond.selects "StrengthHouseModel" ({ cls := "StrengthHouseModel", name := "top", desc := "(I)I" } : Jvm.MethodName) ({ cls := "StrengthHouseModel", name := "top", desc := "(I)I" } : Jvm.MethodName)),
  (Jvm.Cond.code ({ cls := "StrengthHouseModel", name := "top", desc := "(I)I" } : Jvm.MethodName) prog_14_method_47_code (3 : Nat) (Option.some Jvm.ClassFile.FieldType.int)),
  (Jvm.Cond.methodLink "StrengthHouseModel" (252 : Nat) ({ cls := "StrengthHouseModel", name := "topOf", desc := "(I)I" } : Jvm.MethodName)),
  (Jvm.Cond.privateMethod ({ cls := "StrengthHouseModel", name := "topOf", desc := "(I)I" } : Jvm.MethodName)),
  (Jvm.Cond.instanceMethod ({ cls := "StrengthHouseModel", name := "topOf", desc := "(I)I" } : Jvm.MethodName)),
  (Jvm.Cond.code ({ cls := "StrengthHouseModel", name := "topOf", desc := "(I)I" } : Jvm.MethodName) prog_14_method_46_code (4 : Nat) (Option.some Jvm.ClassFile.FieldType.int)),
  (Jvm.Cond.methodLink "StrengthHouseLaw" (79 : Nat) ({ cls := "StrengthHouseModel", name := "breaks", desc := "(II)I" } : Jvm.MethodName)),
  (Jvm.Cond.instanceMethod ({ cls := "StrengthHouseModel", name := "breaks", desc := "(II)I" } : Jvm.MethodName)),
  (Jvm.Cond.selects "StrengthHouseModel" ({ cls := "StrengthHouseModel", name := "breaks", desc := "(II)I" } : Jvm.MethodName) ({ cls := "StrengthHouseModel", name := "breaks", desc := "(II)I" } : Jvm.MethodName)),
  (Jvm.Cond.code ({ cls := "StrengthHouseModel", name := "breaks", desc := "(II)I" } : Jvm.MethodName) prog_14_method_49_code (4 : Nat) (Option.some Jvm.ClassFile.FieldType.int)),
  (Jvm.Cond.methodLink "StrengthHouseModel" (257 : Nat) ({ cls := "StrengthHouseModel", name := "breakOf", desc := "(II)I" } : Jvm.MethodName)),
  (Jvm.Cond.privateMethod ({ cls := "StrengthHouseModel", name := "breakOf", desc := "(II)I" } : Jvm.MethodName))]
def nd_99 : List Jvm.Cond := [(Jvm.Cond.instanceMethod ({ cls := "StrengthHouseModel", name := "breakOf", desc := "(II)I" } : Jvm.MethodName)),
  (Jvm.Cond.code ({ cls := "StrengthHouseModel", name := "breakOf", desc := "(II)I" } : Jvm.MethodName) prog_14_method_48_code (5 : Nat) (Option.some Jvm.ClassFile.FieldType.int)),
  (Jvm.Cond.constantLong "StrengthHouseModel" (255 : Nat) (100 : Int64)),
  (Jvm.Cond.methodLink "StrengthHouseLaw" (84 : Nat) ({ cls := "StrengthHouseModel", name := "spent", desc := "(II)J" } : Jvm.MethodName)),
  (Jvm.Cond.instanceMethod ({ cls := "StrengthHouseModel", name := "spent", desc := "(II)J" } : Jvm.MethodName)),
  (Jvm.Cond.selects "StrengthHouseModel" ({ cls := "StrengthHouseModel", name := "spent", desc := "(II)J" } : Jvm.MethodName) ({ cls := "StrengthHouseModel", name := "spent", desc := "(II)J" } : Jvm.MethodName)),
  (Jvm.Cond.code ({ cls := "StrengthHouseModel", name := "spent", desc := "(II)J" } : Jvm.MethodName) prog_14_method_51_code (3 : Nat) (Option.some Jvm.ClassFile.FieldType.long)),
  (Jvm.Cond.methodLink "StrengthHouseModel" (260 : Nat) ({ cls := "StrengthHouseModel", name := "spentOf", desc := "(II)J" } : Jvm.MethodName)),
  (Jvm.Cond.privateMethod ({ cls := "StrengthHouseModel", name := "spentOf", desc := "(II)J" } : Jvm.MethodName)),
  (Jvm.Cond.instanceMethod ({ cls := "StrengthHouseModel", name := "spentOf", desc := "(II)J" } : Jvm.MethodName)),
  (Jvm.Cond.code ({ cls := "StrengthHouseModel", name := "spentOf", desc := "(II)J" } : Jvm.MethodName) prog_14_method_50_code (7 : Nat) (Option.some Jvm.ClassFile.FieldType.long)),
  (Jvm.Cond.methodLink "StrengthHouseLaw" (88 : Nat) ({ cls := "StrengthHouseModel", name := "number", desc := "(II)I" } : Jvm.MethodName)),
  (Jvm.Cond.instanceMethod ({ cls := "StrengthHouseModel", name := "number", desc := "(II)I" } : Jvm.MethodName)),
  (Jvm.Cond.selects "StrengthHouseModel" ({ cls := "StrengthHouseModel", name := "number", desc := "(II)I" } : Jvm.MethodName) ({ cls := "StrengthHouseModel", name := "number", desc := "(II)I" } : Jvm.MethodName)),
  (Jvm.Cond.code ({ cls := "StrengthHouseModel", name := "number", desc := "(II)I" } : Jvm.MethodName) prog_14_method_54_code (4 : Nat) (Option.some Jvm.ClassFile.FieldType.int)),
  (Jvm.Cond.methodLink "StrengthHouseModel" (270 : Nat) ({ cls := "StrengthHouseModel", name := "isLaw", desc := "(I)Z" } : Jvm.MethodName))]
def nd_100 : List Jvm.Cond := [(Jvm.Cond.static ({ cls := "StrengthHouseModel", name := "isLaw", desc := "(I)Z" } : Jvm.MethodName)),
  (Jvm.Cond.code ({ cls := "StrengthHouseModel", name := "isLaw", desc := "(I)Z" } : Jvm.MethodName) prog_14_method_53_code (1 : Nat) (Option.some Jvm.ClassFile.FieldType.boolean)),
  (Jvm.Cond.methodLink "StrengthHouseModel" (273 : Nat) ({ cls := "StrengthHouseModel", name := "numberOf", desc := "(II)I" } : Jvm.MethodName)),
  (Jvm.Cond.privateMethod ({ cls := "StrengthHouseModel", name := "numberOf", desc := "(II)I" } : Jvm.MethodName)),
  (Jvm.Cond.instanceMethod ({ cls := "StrengthHouseModel", name := "numberOf", desc := "(II)I" } : Jvm.MethodName)),
  (Jvm.Cond.code ({ cls := "StrengthHouseModel", name := "numberOf", desc := "(II)I" } : Jvm.MethodName) prog_14_method_52_code (5 : Nat) (Option.some Jvm.ClassFile.FieldType.int)),
  (Jvm.Cond.constantLong "StrengthHouseModel" (264 : Nat) (2000000000 : Int64)),
  (Jvm.Cond.methodLink "StrengthHouseModel" (266 : Nat) ({ cls := "java/lang/Math", name := "min", desc := "(JJ)J" } : Jvm.MethodName)),
  (Jvm.Cond.methodLink "StrengthHouseLaw" (92 : Nat) ({ cls := "StrengthHouseModel", name := "curve", desc := "(III)I" } : Jvm.MethodName)),
  (Jvm.Cond.instanceMethod ({ cls := "StrengthHouseModel", name := "curve", desc := "(III)I" } : Jvm.MethodName)),
  (Jvm.Cond.selects "StrengthHouseModel" ({ cls := "StrengthHouseModel", name := "curve", desc := "(III)I" } : Jvm.MethodName) ({ cls := "StrengthHouseModel", name := "curve", desc := "(III)I" } : Jvm.MethodName)),
  (Jvm.Cond.code ({ cls := "StrengthHouseModel", name := "curve", desc := "(III)I" } : Jvm.MethodName) prog_14_method_58_code (6 : Nat) (Option.some Jvm.ClassFile.FieldType.int)),
  (Jvm.Cond.methodLink "StrengthHouseModel" (279 : Nat) ({ cls := "StrengthHouseModel", name := "isLot", desc := "(I)Z" } : Jvm.MethodName)),
  (Jvm.Cond.static ({ cls := "StrengthHouseModel", name := "isLot", desc := "(I)Z" } : Jvm.MethodName)),
  (Jvm.Cond.code ({ cls := "StrengthHouseModel", name := "isLot", desc := "(I)Z" } : Jvm.MethodName) prog_14_method_57_code (1 : Nat) (Option.some Jvm.ClassFile.FieldType.boolean)),
  (Jvm.Cond.methodLink "StrengthHouseModel" (282 : Nat) ({ cls := "StrengthHouseModel", name := "curveOf", desc := "(II)I" } : Jvm.MethodName))]
def nd_101 : List Jvm.Cond := [(Jvm.Cond.privateMethod ({ cls := "StrengthHouseModel", name := "curveOf", desc := "(II)I" } : Jvm.MethodName)),
  (Jvm.Cond.instanceMethod ({ cls := "StrengthHouseModel", name := "curveOf", desc := "(II)I" } : Jvm.MethodName)),
  (Jvm.Cond.code ({ cls := "StrengthHouseModel", name := "curveOf", desc := "(II)I" } : Jvm.MethodName) prog_14_method_56_code (8 : Nat) (Option.some Jvm.ClassFile.FieldType.int)),
  (Jvm.Cond.methodLink "StrengthHouseModel" (285 : Nat) ({ cls := "StrengthHouseModel", name := "adds", desc := "(II)V" } : Jvm.MethodName)),
  (Jvm.Cond.privateMethod ({ cls := "StrengthHouseModel", name := "adds", desc := "(II)V" } : Jvm.MethodName)),
  (Jvm.Cond.instanceMethod ({ cls := "StrengthHouseModel", name := "adds", desc := "(II)V" } : Jvm.MethodName)),
  (Jvm.Cond.code ({ cls := "StrengthHouseModel", name := "adds", desc := "(II)V" } : Jvm.MethodName) prog_14_method_55_code (4 : Nat) (Option.none : Option Jvm.ClassFile.FieldType)),
  (Jvm.Cond.methodLink "StrengthHouseLaw" (96 : Nat) ({ cls := "StrengthHouseModel", name := "odd", desc := "(III)I" } : Jvm.MethodName)),
  (Jvm.Cond.instanceMethod ({ cls := "StrengthHouseModel", name := "odd", desc := "(III)I" } : Jvm.MethodName)),
  (Jvm.Cond.selects "StrengthHouseModel" ({ cls := "StrengthHouseModel", name := "odd", desc := "(III)I" } : Jvm.MethodName) ({ cls := "StrengthHouseModel", name := "odd", desc := "(III)I" } : Jvm.MethodName)),
  (Jvm.Cond.code ({ cls := "StrengthHouseModel", name := "odd", desc := "(III)I" } : Jvm.MethodName) prog_14_method_60_code (7 : Nat) (Option.some Jvm.ClassFile.FieldType.int)),
  (Jvm.Cond.methodLink "StrengthHouseModel" (288 : Nat) ({ cls := "StrengthHouseModel", name := "findNumbers", desc := "(II)V" } : Jvm.MethodName)),
  (Jvm.Cond.privateMethod ({ cls := "StrengthHouseModel", name := "findNumbers", desc := "(II)V" } : Jvm.MethodName)),
  (Jvm.Cond.instanceMethod ({ cls := "StrengthHouseModel", name := "findNumbers", desc := "(II)V" } : Jvm.MethodName)),
  (Jvm.Cond.code ({ cls := "StrengthHouseModel", name := "findNumbers", desc := "(II)V" } : Jvm.MethodName) prog_14_method_59_code (5 : Nat) (Option.none : Option Jvm.ClassFile.FieldType)),
  (Jvm.Cond.methodLink "StrengthHouseLaw" (101 : Nat) ({ cls := "StrengthHouseModel", name := "sure", desc := "(IIII)I" } : Jvm.MethodName))]
def nd_102 : List Jvm.Cond := [(Jvm.Cond.instanceMethod ({ cls := "StrengthHouseModel", name := "sure", desc := "(IIII)I" } : Jvm.MethodName)),
  (Jvm.Cond.selects "StrengthHouseModel" ({ cls := "StrengthHouseModel", name := "sure", desc := "(IIII)I" } : Jvm.MethodName) ({ cls := "StrengthHouseModel", name := "sure", desc := "(IIII)I" } : Jvm.MethodName)),
  (Jvm.Cond.code ({ cls := "StrengthHouseModel", name := "sure", desc := "(IIII)I" } : Jvm.MethodName) prog_14_method_63_code (6 : Nat) (Option.some Jvm.ClassFile.FieldType.int)),
  (Jvm.Cond.methodLink "StrengthHouseModel" (293 : Nat) ({ cls := "StrengthHouseModel", name := "areTenths", desc := "(II)Z" } : Jvm.MethodName)),
  (Jvm.Cond.static ({ cls := "StrengthHouseModel", name := "areTenths", desc := "(II)Z" } : Jvm.MethodName)),
  (Jvm.Cond.code ({ cls := "StrengthHouseModel", name := "areTenths", desc := "(II)Z" } : Jvm.MethodName) prog_14_method_62_code (2 : Nat) (Option.some Jvm.ClassFile.FieldType.boolean)),
  (Jvm.Cond.methodLink "StrengthHouseModel" (296 : Nat) ({ cls := "StrengthHouseModel", name := "rankOf", desc := "(III)I" } : Jvm.MethodName)),
  (Jvm.Cond.static ({ cls := "StrengthHouseModel", name := "rankOf", desc := "(III)I" } : Jvm.MethodName)),
  (Jvm.Cond.code ({ cls := "StrengthHouseModel", name := "rankOf", desc := "(III)I" } : Jvm.MethodName) prog_14_method_61_code (12 : Nat) (Option.some Jvm.ClassFile.FieldType.int)),
  (Jvm.Cond.constantLong "StrengthHouseModel" (291 : Nat) (10 : Int64)),
  (Jvm.Cond.methodLink "StrengthHouseLaw" (105 : Nat) ({ cls := "StrengthHouseModel", name := "few", desc := "(II)I" } : Jvm.MethodName)),
  (Jvm.Cond.instanceMethod ({ cls := "StrengthHouseModel", name := "few", desc := "(II)I" } : Jvm.MethodName)),
  (Jvm.Cond.selects "StrengthHouseModel" ({ cls := "StrengthHouseModel", name := "few", desc := "(II)I" } : Jvm.MethodName) ({ cls := "StrengthHouseModel", name := "few", desc := "(II)I" } : Jvm.MethodName)),
  (Jvm.Cond.code ({ cls := "StrengthHouseModel", name := "few", desc := "(II)I" } : Jvm.MethodName) prog_14_method_64_code (4 : Nat) (Option.some Jvm.ClassFile.FieldType.int)),
  (Jvm.Cond.methodLink "StrengthHouseLaw" (109 : Nat) ({ cls := "StrengthHouseModel", name := "prove", desc := "(IIII)I" } : Jvm.MethodName)),
  (Jvm.Cond.instanceMethod ({ cls := "StrengthHouseModel", name := "prove", desc := "(IIII)I" } : Jvm.MethodName))]
def nd_103 : List Jvm.Cond := [(Jvm.Cond.selects "StrengthHouseModel" ({ cls := "StrengthHouseModel", name := "prove", desc := "(IIII)I" } : Jvm.MethodName) ({ cls := "StrengthHouseModel", name := "prove", desc := "(IIII)I" } : Jvm.MethodName)),
  (Jvm.Cond.code ({ cls := "StrengthHouseModel", name := "prove", desc := "(IIII)I" } : Jvm.MethodName) prog_14_method_67_code (6 : Nat) (Option.some Jvm.ClassFile.FieldType.int)),
  (Jvm.Cond.methodLink "StrengthHouseModel" (300 : Nat) ({ cls := "StrengthHouseModel", name := "isMeter", desc := "(I)Z" } : Jvm.MethodName)),
  (Jvm.Cond.static ({ cls := "StrengthHouseModel", name := "isMeter", desc := "(I)Z" } : Jvm.MethodName)),
  (Jvm.Cond.code ({ cls := "StrengthHouseModel", name := "isMeter", desc := "(I)Z" } : Jvm.MethodName) prog_14_method_65_code (1 : Nat) (Option.some Jvm.ClassFile.FieldType.boolean)),
  (Jvm.Cond.methodLink "StrengthHouseLaw" (113 : Nat) ({ cls := "StrengthHouseModel", name := "led", desc := "(III)I" } : Jvm.MethodName)),
  (Jvm.Cond.instanceMethod ({ cls := "StrengthHouseModel", name := "led", desc := "(III)I" } : Jvm.MethodName)),
  (Jvm.Cond.selects "StrengthHouseModel" ({ cls := "StrengthHouseModel", name := "led", desc := "(III)I" } : Jvm.MethodName) ({ cls := "StrengthHouseModel", name := "led", desc := "(III)I" } : Jvm.MethodName)),
  (Jvm.Cond.code ({ cls := "StrengthHouseModel", name := "led", desc := "(III)I" } : Jvm.MethodName) prog_14_method_69_code (7 : Nat) (Option.some Jvm.ClassFile.FieldType.int)),
  (Jvm.Cond.methodLink "StrengthHouseModel" (303 : Nat) ({ cls := "StrengthHouseModel", name := "meter", desc := "(II)I" } : Jvm.MethodName)),
  (Jvm.Cond.privateMethod ({ cls := "StrengthHouseModel", name := "meter", desc := "(II)I" } : Jvm.MethodName)),
  (Jvm.Cond.instanceMethod ({ cls := "StrengthHouseModel", name := "meter", desc := "(II)I" } : Jvm.MethodName)),
  (Jvm.Cond.code ({ cls := "StrengthHouseModel", name := "meter", desc := "(II)I" } : Jvm.MethodName) prog_14_method_66_code (3 : Nat) (Option.some Jvm.ClassFile.FieldType.int)),
  (Jvm.Cond.methodLink "StrengthHouseModel" (306 : Nat) ({ cls := "StrengthHouseModel", name := "ledOf", desc := "(II)I" } : Jvm.MethodName)),
  (Jvm.Cond.privateMethod ({ cls := "StrengthHouseModel", name := "ledOf", desc := "(II)I" } : Jvm.MethodName)),
  (Jvm.Cond.instanceMethod ({ cls := "StrengthHouseModel", name := "ledOf", desc := "(II)I" } : Jvm.MethodName))]
def nd_104 : List Jvm.Cond := [(Jvm.Cond.code ({ cls := "StrengthHouseModel", name := "ledOf", desc := "(II)I" } : Jvm.MethodName) prog_14_method_68_code (6 : Nat) (Option.some Jvm.ClassFile.FieldType.int)),
  (Jvm.Cond.methodLink "StrengthHouseLaw" (117 : Nat) ({ cls := "StrengthHouseModel", name := "enter", desc := "(III)I" } : Jvm.MethodName)),
  (Jvm.Cond.instanceMethod ({ cls := "StrengthHouseModel", name := "enter", desc := "(III)I" } : Jvm.MethodName)),
  (Jvm.Cond.selects "StrengthHouseModel" ({ cls := "StrengthHouseModel", name := "enter", desc := "(III)I" } : Jvm.MethodName) ({ cls := "StrengthHouseModel", name := "enter", desc := "(III)I" } : Jvm.MethodName)),
  (Jvm.Cond.code ({ cls := "StrengthHouseModel", name := "enter", desc := "(III)I" } : Jvm.MethodName) prog_14_method_71_code (7 : Nat) (Option.some Jvm.ClassFile.FieldType.int)),
  (Jvm.Cond.methodLink "StrengthHouseLaw" (121 : Nat) ({ cls := "StrengthHouseModel", name := "entryIs", desc := "(II)I" } : Jvm.MethodName)),
  (Jvm.Cond.instanceMethod ({ cls := "StrengthHouseModel", name := "entryIs", desc := "(II)I" } : Jvm.MethodName)),
  (Jvm.Cond.selects "StrengthHouseModel" ({ cls := "StrengthHouseModel", name := "entryIs", desc := "(II)I" } : Jvm.MethodName) ({ cls := "StrengthHouseModel", name := "entryIs", desc := "(II)I" } : Jvm.MethodName)),
  (Jvm.Cond.code ({ cls := "StrengthHouseModel", name := "entryIs", desc := "(II)I" } : Jvm.MethodName) prog_14_method_72_code (4 : Nat) (Option.some Jvm.ClassFile.FieldType.int)),
  (Jvm.Cond.methodLink "StrengthHouseModel" (309 : Nat) ({ cls := "StrengthHouseModel", name := "entry", desc := "(II)I" } : Jvm.MethodName)),
  (Jvm.Cond.privateMethod ({ cls := "StrengthHouseModel", name := "entry", desc := "(II)I" } : Jvm.MethodName)),
  (Jvm.Cond.instanceMethod ({ cls := "StrengthHouseModel", name := "entry", desc := "(II)I" } : Jvm.MethodName)),
  (Jvm.Cond.code ({ cls := "StrengthHouseModel", name := "entry", desc := "(II)I" } : Jvm.MethodName) prog_14_method_70_code (3 : Nat) (Option.some Jvm.ClassFile.FieldType.int)),
  (Jvm.Cond.methodLink "StrengthHouseLaw" (125 : Nat) ({ cls := "StrengthHouseModel", name := "back", desc := "(II)I" } : Jvm.MethodName)),
  (Jvm.Cond.instanceMethod ({ cls := "StrengthHouseModel", name := "back", desc := "(II)I" } : Jvm.MethodName)),
  (Jvm.Cond.selects "StrengthHouseModel" ({ cls := "StrengthHouseModel", name := "back", desc := "(II)I" } : Jvm.MethodName) ({ cls := "StrengthHouseModel", name := "back", desc := "(II)I" } : Jvm.MethodName))]
def nd_105 : List Jvm.Cond := [(Jvm.Cond.code ({ cls := "StrengthHouseModel", name := "back", desc := "(II)I" } : Jvm.MethodName) prog_14_method_73_code (4 : Nat) (Option.some Jvm.ClassFile.FieldType.int)),
  (Jvm.Cond.methodLink "StrengthHouseLaw" (129 : Nat) ({ cls := "StrengthHouseModel", name := "book", desc := "(II)I" } : Jvm.MethodName)),
  (Jvm.Cond.instanceMethod ({ cls := "StrengthHouseModel", name := "book", desc := "(II)I" } : Jvm.MethodName)),
  (Jvm.Cond.selects "StrengthHouseModel" ({ cls := "StrengthHouseModel", name := "book", desc := "(II)I" } : Jvm.MethodName) ({ cls := "StrengthHouseModel", name := "book", desc := "(II)I" } : Jvm.MethodName)),
  (Jvm.Cond.code ({ cls := "StrengthHouseModel", name := "book", desc := "(II)I" } : Jvm.MethodName) prog_14_method_74_code (5 : Nat) (Option.some Jvm.ClassFile.FieldType.int)),
  (Jvm.Cond.methodLink "StrengthHouseLaw" (133 : Nat) ({ cls := "StrengthHouseModel", name := "hangs", desc := "(I)I" } : Jvm.MethodName)),
  (Jvm.Cond.instanceMethod ({ cls := "StrengthHouseModel", name := "hangs", desc := "(I)I" } : Jvm.MethodName)),
  (Jvm.Cond.selects "StrengthHouseModel" ({ cls := "StrengthHouseModel", name := "hangs", desc := "(I)I" } : Jvm.MethodName) ({ cls := "StrengthHouseModel", name := "hangs", desc := "(I)I" } : Jvm.MethodName)),
  (Jvm.Cond.code ({ cls := "StrengthHouseModel", name := "hangs", desc := "(I)I" } : Jvm.MethodName) prog_14_method_75_code (5 : Nat) (Option.some Jvm.ClassFile.FieldType.int)),
  (Jvm.Cond.methodLink "StrengthHouseLaw" (137 : Nat) ({ cls := "StrengthHouseModel", name := "plates", desc := "(III)I" } : Jvm.MethodName)),
  (Jvm.Cond.instanceMethod ({ cls := "StrengthHouseModel", name := "plates", desc := "(III)I" } : Jvm.MethodName)),
  (Jvm.Cond.selects "StrengthHouseModel" ({ cls := "StrengthHouseModel", name := "plates", desc := "(III)I" } : Jvm.MethodName) ({ cls := "StrengthHouseModel", name := "plates", desc := "(III)I" } : Jvm.MethodName)),
  (Jvm.Cond.code ({ cls := "StrengthHouseModel", name := "plates", desc := "(III)I" } : Jvm.MethodName) prog_14_method_76_code (13 : Nat) (Option.some Jvm.ClassFile.FieldType.int)),
  (Jvm.Cond.methodLink "StrengthHouseModel" (312 : Nat) ({ cls := "StrengthHouseModel", name := "has", desc := "(II)Z" } : Jvm.MethodName)),
  (Jvm.Cond.static ({ cls := "StrengthHouseModel", name := "has", desc := "(II)Z" } : Jvm.MethodName)),
  (Jvm.Cond.code ({ cls := "StrengthHouseModel", name := "has", desc := "(II)Z" } : Jvm.MethodName) prog_14_method_5_code (2 : Nat) (Option.some Jvm.ClassFile.FieldType.boolean))]
def nd_106 : List Jvm.Cond := [(Jvm.Cond.methodLink "StrengthHouseLaw" (141 : Nat) ({ cls := "StrengthHouseModel", name := "drift", desc := "(I)I" } : Jvm.MethodName)),
  (Jvm.Cond.instanceMethod ({ cls := "StrengthHouseModel", name := "drift", desc := "(I)I" } : Jvm.MethodName)),
  (Jvm.Cond.selects "StrengthHouseModel" ({ cls := "StrengthHouseModel", name := "drift", desc := "(I)I" } : Jvm.MethodName) ({ cls := "StrengthHouseModel", name := "drift", desc := "(I)I" } : Jvm.MethodName)),
  (Jvm.Cond.code ({ cls := "StrengthHouseModel", name := "drift", desc := "(I)I" } : Jvm.MethodName) prog_14_method_77_code (7 : Nat) (Option.some Jvm.ClassFile.FieldType.int)),
  (Jvm.Cond.methodLink "StrengthHouseModel" (315 : Nat) ({ cls := "StrengthHouseModel", name := "bits", desc := "(I)I" } : Jvm.MethodName)),
  (Jvm.Cond.static ({ cls := "StrengthHouseModel", name := "bits", desc := "(I)I" } : Jvm.MethodName)),
  (Jvm.Cond.code ({ cls := "StrengthHouseModel", name := "bits", desc := "(I)I" } : Jvm.MethodName) prog_14_method_6_code (3 : Nat) (Option.some Jvm.ClassFile.FieldType.int)),
  (Jvm.Cond.methodLink "StrengthHouseModel" (318 : Nat) ({ cls := "java/lang/Math", name := "abs", desc := "(I)I" } : Jvm.MethodName)),
  (Jvm.Cond.methodLink "StrengthHouseLaw" (145 : Nat) ({ cls := "StrengthHouseModel", name := "voice", desc := "(III)I" } : Jvm.MethodName)),
  (Jvm.Cond.instanceMethod ({ cls := "StrengthHouseModel", name := "voice", desc := "(III)I" } : Jvm.MethodName)),
  (Jvm.Cond.selects "StrengthHouseModel" ({ cls := "StrengthHouseModel", name := "voice", desc := "(III)I" } : Jvm.MethodName) ({ cls := "StrengthHouseModel", name := "voice", desc := "(III)I" } : Jvm.MethodName)),
  (Jvm.Cond.code ({ cls := "StrengthHouseModel", name := "voice", desc := "(III)I" } : Jvm.MethodName) prog_14_method_83_code (5 : Nat) (Option.some Jvm.ClassFile.FieldType.int)),
  (Jvm.Cond.methodLink "StrengthHouseModel" (343 : Nat) ({ cls := "StrengthHouseModel", name := "voiced", desc := "(II)I" } : Jvm.MethodName)),
  (Jvm.Cond.privateMethod ({ cls := "StrengthHouseModel", name := "voiced", desc := "(II)I" } : Jvm.MethodName)),
  (Jvm.Cond.instanceMethod ({ cls := "StrengthHouseModel", name := "voiced", desc := "(II)I" } : Jvm.MethodName)),
  (Jvm.Cond.code ({ cls := "StrengthHouseModel", name := "voiced", desc := "(II)I" } : Jvm.MethodName) prog_14_method_80_code (3 : Nat) (Option.some Jvm.ClassFile.FieldType.int))]
def nd_107 : List Jvm.Cond := [(Jvm.Cond.methodLink "StrengthHouseModel" (327 : Nat) ({ cls := "StrengthHouseModel", name := "bodyFrom", desc := "(III)I" } : Jvm.MethodName)),
  (Jvm.Cond.privateMethod ({ cls := "StrengthHouseModel", name := "bodyFrom", desc := "(III)I" } : Jvm.MethodName)),
  (Jvm.Cond.instanceMethod ({ cls := "StrengthHouseModel", name := "bodyFrom", desc := "(III)I" } : Jvm.MethodName)),
  (Jvm.Cond.code ({ cls := "StrengthHouseModel", name := "bodyFrom", desc := "(III)I" } : Jvm.MethodName) prog_14_method_81_code (5 : Nat) (Option.some Jvm.ClassFile.FieldType.int)),
  (Jvm.Cond.methodLink "StrengthHouseModel" (330 : Nat) ({ cls := "StrengthHouseModel", name := "hasOwn", desc := "(II)Z" } : Jvm.MethodName)),
  (Jvm.Cond.static ({ cls := "StrengthHouseModel", name := "hasOwn", desc := "(II)Z" } : Jvm.MethodName)),
  (Jvm.Cond.code ({ cls := "StrengthHouseModel", name := "hasOwn", desc := "(II)Z" } : Jvm.MethodName) prog_14_method_79_code (2 : Nat) (Option.some Jvm.ClassFile.FieldType.boolean)),
  (Jvm.Cond.methodLink "StrengthHouseModel" (336 : Nat) ({ cls := "StrengthHouseModel", name := "body", desc := "(III)I" } : Jvm.MethodName)),
  (Jvm.Cond.privateMethod ({ cls := "StrengthHouseModel", name := "body", desc := "(III)I" } : Jvm.MethodName)),
  (Jvm.Cond.instanceMethod ({ cls := "StrengthHouseModel", name := "body", desc := "(III)I" } : Jvm.MethodName)),
  (Jvm.Cond.code ({ cls := "StrengthHouseModel", name := "body", desc := "(III)I" } : Jvm.MethodName) prog_14_method_82_code (6 : Nat) (Option.some Jvm.ClassFile.FieldType.int)),
  (Jvm.Cond.methodLink "StrengthHouseModel" (339 : Nat) ({ cls := "StrengthHouseModel", name := "began", desc := "(I)V" } : Jvm.MethodName)),
  (Jvm.Cond.privateMethod ({ cls := "StrengthHouseModel", name := "began", desc := "(I)V" } : Jvm.MethodName)),
  (Jvm.Cond.instanceMethod ({ cls := "StrengthHouseModel", name := "began", desc := "(I)V" } : Jvm.MethodName)),
  (Jvm.Cond.code ({ cls := "StrengthHouseModel", name := "began", desc := "(I)V" } : Jvm.MethodName) prog_14_method_78_code (2 : Nat) (Option.none : Option Jvm.ClassFile.FieldType)),
  (Jvm.Cond.constant "StrengthHouseModel" (346 : Nat) (-1000006 : Int32))]
def nd_108 : List Jvm.Cond := [(Jvm.Cond.methodLink "StrengthHouseLaw" (149 : Nat) ({ cls := "StrengthHouseModel", name := "body", desc := "(I)I" } : Jvm.MethodName)),
  (Jvm.Cond.instanceMethod ({ cls := "StrengthHouseModel", name := "body", desc := "(I)I" } : Jvm.MethodName)),
  (Jvm.Cond.selects "StrengthHouseModel" ({ cls := "StrengthHouseModel", name := "body", desc := "(I)I" } : Jvm.MethodName) ({ cls := "StrengthHouseModel", name := "body", desc := "(I)I" } : Jvm.MethodName)),
  (Jvm.Cond.code ({ cls := "StrengthHouseModel", name := "body", desc := "(I)I" } : Jvm.MethodName) prog_14_method_84_code (2 : Nat) (Option.some Jvm.ClassFile.FieldType.int)),
  (Jvm.Cond.methodLink "StrengthHouseLaw" (153 : Nat) ({ cls := "StrengthHouseModel", name := "sheet", desc := "(III)I" } : Jvm.MethodName)),
  (Jvm.Cond.instanceMethod ({ cls := "StrengthHouseModel", name := "sheet", desc := "(III)I" } : Jvm.MethodName)),
  (Jvm.Cond.selects "StrengthHouseModel" ({ cls := "StrengthHouseModel", name := "sheet", desc := "(III)I" } : Jvm.MethodName) ({ cls := "StrengthHouseModel", name := "sheet", desc := "(III)I" } : Jvm.MethodName)),
  (Jvm.Cond.code ({ cls := "StrengthHouseModel", name := "sheet", desc := "(III)I" } : Jvm.MethodName) prog_14_method_86_code (5 : Nat) (Option.some Jvm.ClassFile.FieldType.int)),
  (Jvm.Cond.methodLink "StrengthHouseLaw" (157 : Nat) ({ cls := "StrengthHouseModel", name := "put", desc := "(III)I" } : Jvm.MethodName)),
  (Jvm.Cond.instanceMethod ({ cls := "StrengthHouseModel", name := "put", desc := "(III)I" } : Jvm.MethodName)),
  (Jvm.Cond.selects "StrengthHouseModel" ({ cls := "StrengthHouseModel", name := "put", desc := "(III)I" } : Jvm.MethodName) ({ cls := "StrengthHouseModel", name := "put", desc := "(III)I" } : Jvm.MethodName)),
  (Jvm.Cond.code ({ cls := "StrengthHouseModel", name := "put", desc := "(III)I" } : Jvm.MethodName) prog_14_method_87_code (4 : Nat) (Option.some Jvm.ClassFile.FieldType.int)),
  (Jvm.Cond.methodLink "StrengthHouseLaw" (161 : Nat) ({ cls := "StrengthHouseModel", name := "move", desc := "(IIIII)I" } : Jvm.MethodName)),
  (Jvm.Cond.instanceMethod ({ cls := "StrengthHouseModel", name := "move", desc := "(IIIII)I" } : Jvm.MethodName)),
  (Jvm.Cond.selects "StrengthHouseModel" ({ cls := "StrengthHouseModel", name := "move", desc := "(IIIII)I" } : Jvm.MethodName) ({ cls := "StrengthHouseModel", name := "move", desc := "(IIIII)I" } : Jvm.MethodName)),
  (Jvm.Cond.code ({ cls := "StrengthHouseModel", name := "move", desc := "(IIIII)I" } : Jvm.MethodName) prog_14_method_88_code (7 : Nat) (Option.some Jvm.ClassFile.FieldType.int))]
def nd_109 : List Jvm.Cond := [(Jvm.Cond.methodLink "StrengthHouseLaw" (166 : Nat) ({ cls := "StrengthHouseModel", name := "image", desc := "()I" } : Jvm.MethodName)),
  (Jvm.Cond.instanceMethod ({ cls := "StrengthHouseModel", name := "image", desc := "()I" } : Jvm.MethodName)),
  (Jvm.Cond.selects "StrengthHouseModel" ({ cls := "StrengthHouseModel", name := "image", desc := "()I" } : Jvm.MethodName) ({ cls := "StrengthHouseModel", name := "image", desc := "()I" } : Jvm.MethodName)),
  (Jvm.Cond.code ({ cls := "StrengthHouseModel", name := "image", desc := "()I" } : Jvm.MethodName) prog_14_method_90_code (1 : Nat) (Option.some Jvm.ClassFile.FieldType.int)),
  (Jvm.Cond.methodLink "StrengthHouseModel" (347 : Nat) ({ cls := "StrengthHouseModel", name := "copy", desc := "([I[I)V" } : Jvm.MethodName)),
  (Jvm.Cond.static ({ cls := "StrengthHouseModel", name := "copy", desc := "([I[I)V" } : Jvm.MethodName)),
  (Jvm.Cond.code ({ cls := "StrengthHouseModel", name := "copy", desc := "([I[I)V" } : Jvm.MethodName) prog_14_method_89_code (3 : Nat) (Option.none : Option Jvm.ClassFile.FieldType)),
  (Jvm.Cond.methodLink "StrengthHouseLaw" (170 : Nat) ({ cls := "StrengthHouseModel", name := "restore", desc := "()I" } : Jvm.MethodName)),
  (Jvm.Cond.instanceMethod ({ cls := "StrengthHouseModel", name := "restore", desc := "()I" } : Jvm.MethodName)),
  (Jvm.Cond.selects "StrengthHouseModel" ({ cls := "StrengthHouseModel", name := "restore", desc := "()I" } : Jvm.MethodName) ({ cls := "StrengthHouseModel", name := "restore", desc := "()I" } : Jvm.MethodName)),
  (Jvm.Cond.code ({ cls := "StrengthHouseModel", name := "restore", desc := "()I" } : Jvm.MethodName) prog_14_method_91_code (1 : Nat) (Option.some Jvm.ClassFile.FieldType.int)),
  (Jvm.Cond.methodLink "StrengthHouseLaw" (174 : Nat) ({ cls := "StrengthHouseModel", name := "tell", desc := "(I)I" } : Jvm.MethodName)),
  (Jvm.Cond.instanceMethod ({ cls := "StrengthHouseModel", name := "tell", desc := "(I)I" } : Jvm.MethodName)),
  (Jvm.Cond.selects "StrengthHouseModel" ({ cls := "StrengthHouseModel", name := "tell", desc := "(I)I" } : Jvm.MethodName) ({ cls := "StrengthHouseModel", name := "tell", desc := "(I)I" } : Jvm.MethodName)),
  (Jvm.Cond.code ({ cls := "StrengthHouseModel", name := "tell", desc := "(I)I" } : Jvm.MethodName) prog_14_method_92_code (2 : Nat) (Option.some Jvm.ClassFile.FieldType.int)),
  (Jvm.Cond.methodLink "StrengthHouseLaw" (178 : Nat) ({ cls := "StrengthHouseModel", name := "check", desc := "(II)I" } : Jvm.MethodName))]
def nd_110 : List Jvm.Cond := [(Jvm.Cond.instanceMethod ({ cls := "StrengthHouseModel", name := "check", desc := "(II)I" } : Jvm.MethodName)),
  (Jvm.Cond.selects "StrengthHouseModel" ({ cls := "StrengthHouseModel", name := "check", desc := "(II)I" } : Jvm.MethodName) ({ cls := "StrengthHouseModel", name := "check", desc := "(II)I" } : Jvm.MethodName)),
  (Jvm.Cond.code ({ cls := "StrengthHouseModel", name := "check", desc := "(II)I" } : Jvm.MethodName) prog_14_method_93_code (6 : Nat) (Option.some Jvm.ClassFile.FieldType.int)),
  (Jvm.Cond.methodLink "StrengthHouseLaw" (182 : Nat) ({ cls := "StrengthHouseModel", name := "count", desc := "(I)I" } : Jvm.MethodName)),
  (Jvm.Cond.instanceMethod ({ cls := "StrengthHouseModel", name := "count", desc := "(I)I" } : Jvm.MethodName)),
  (Jvm.Cond.selects "StrengthHouseModel" ({ cls := "StrengthHouseModel", name := "count", desc := "(I)I" } : Jvm.MethodName) ({ cls := "StrengthHouseModel", name := "count", desc := "(I)I" } : Jvm.MethodName)),
  (Jvm.Cond.code ({ cls := "StrengthHouseModel", name := "count", desc := "(I)I" } : Jvm.MethodName) prog_14_method_94_code (4 : Nat) (Option.some Jvm.ClassFile.FieldType.int)),
  (Jvm.Cond.methodLink "StrengthHouseLaw" (186 : Nat) ({ cls := "StrengthHouseModel", name := "told", desc := "(I)I" } : Jvm.MethodName)),
  (Jvm.Cond.instanceMethod ({ cls := "StrengthHouseModel", name := "told", desc := "(I)I" } : Jvm.MethodName)),
  (Jvm.Cond.selects "StrengthHouseModel" ({ cls := "StrengthHouseModel", name := "told", desc := "(I)I" } : Jvm.MethodName) ({ cls := "StrengthHouseModel", name := "told", desc := "(I)I" } : Jvm.MethodName)),
  (Jvm.Cond.code ({ cls := "StrengthHouseModel", name := "told", desc := "(I)I" } : Jvm.MethodName) prog_14_method_95_code (2 : Nat) (Option.some Jvm.ClassFile.FieldType.int)),
  (Jvm.Cond.constantLong "StrengthHouseLaw" (44 : Nat) (4294967295 : Int64)),
  (Jvm.Cond.fieldLink "java/lang/String" (9 : Nat) "java/lang/String" "value" "[B"),
  (Jvm.Cond.fieldLink "java/lang/String" (15 : Nat) "java/lang/String" "coder" "B")]
def ndT : List (List Jvm.Cond) := [nd_0, nd_1, nd_2, nd_3, nd_4, nd_5, nd_6, nd_7, nd_8, nd_9, nd_10, nd_11, nd_12, nd_13, nd_14, nd_15, nd_16, nd_17, nd_18, nd_19, nd_20, nd_21, nd_22, nd_23, nd_24, nd_25, nd_26, nd_27, nd_28, nd_29, nd_30, nd_31, nd_32, nd_33, nd_34, nd_35, nd_36, nd_37, nd_38, nd_39, nd_40, nd_41, nd_42, nd_43, nd_44, nd_45, nd_46, nd_47, nd_48, nd_49, nd_50, nd_51, nd_52, nd_53, nd_54, nd_55, nd_56, nd_57, nd_58, nd_59, nd_60, nd_61, nd_62, nd_63, nd_64, nd_65, nd_66, nd_67, nd_68, nd_69, nd_70, nd_71, nd_72, nd_73, nd_74, nd_75, nd_76, nd_77, nd_78, nd_79, nd_80, nd_81, nd_82, nd_83, nd_84, nd_85, nd_86, nd_87, nd_88, nd_89, nd_90, nd_91, nd_92, nd_93, nd_94, nd_95, nd_96, nd_97, nd_98, nd_99, nd_100, nd_101, nd_102, nd_103, nd_104, nd_105, nd_106, nd_107, nd_108, nd_109, nd_110]
set_option maxRecDepth 100000 in
theorem ndS_0 : k2_sels lw_privs = nd_0 ++ (nd_1 ++ (nd_2 ++ (nd_3 ++ (nd_4)))) := rfl
set_option maxRecDepth 100000 in
theorem ndS_1 : tables_1_1 = nd_5 ++ (nd_6 ++ (nd_7 ++ (nd_8 ++ (nd_9 ++ (nd_10 ++ (nd_11 ++ (nd_12 ++ (nd_13 ++ (nd_14 ++ (nd_15 ++ (nd_16 ++ (nd_17 ++ (nd_18 ++ (nd_19)))))))))))))) := rfl
set_option maxRecDepth 100000 in
theorem ndS_2 : tables_1_2 = nd_20 ++ (nd_21 ++ (nd_22 ++ (nd_23 ++ (nd_24 ++ (nd_25 ++ (nd_26 ++ (nd_27 ++ (nd_28 ++ (nd_29 ++ (nd_30 ++ (nd_31 ++ (nd_32 ++ (nd_33 ++ (nd_34)))))))))))))) := rfl
set_option maxRecDepth 100000 in
theorem ndS_3 : tables_1_3 = nd_35 ++ (nd_36 ++ (nd_37 ++ (nd_38 ++ (nd_39 ++ (nd_40 ++ (nd_41 ++ (nd_42 ++ (nd_43 ++ (nd_44 ++ (nd_45 ++ (nd_46 ++ (nd_47 ++ (nd_48 ++ (nd_49)))))))))))))) := rfl
set_option maxRecDepth 100000 in
theorem ndS_4 : tables_1_4 = nd_50 ++ (nd_51 ++ (nd_52 ++ (nd_53 ++ (nd_54 ++ (nd_55 ++ (nd_56 ++ (nd_57 ++ (nd_58 ++ (nd_59 ++ (nd_60 ++ (nd_61 ++ (nd_62 ++ (nd_63 ++ (nd_64)))))))))))))) := rfl
set_option maxRecDepth 100000 in
theorem ndS_5 : tables_1_5 = nd_65 ++ (nd_66 ++ (nd_67 ++ (nd_68 ++ (nd_69 ++ (nd_70 ++ (nd_71 ++ (nd_72 ++ (nd_73 ++ (nd_74 ++ (nd_75 ++ (nd_76 ++ (nd_77 ++ (nd_78 ++ (nd_79)))))))))))))) := rfl
set_option maxRecDepth 100000 in
theorem ndS_6 : tables_1_6 = nd_80 ++ (nd_81 ++ (nd_82 ++ (nd_83 ++ (nd_84 ++ (nd_85 ++ (nd_86 ++ (nd_87 ++ (nd_88 ++ (nd_89 ++ (nd_90 ++ (nd_91 ++ (nd_92 ++ (nd_93 ++ (nd_94)))))))))))))) := rfl
set_option maxRecDepth 100000 in
theorem ndS_7 : tables_1_7 = nd_95 ++ (nd_96 ++ (nd_97 ++ (nd_98 ++ (nd_99 ++ (nd_100 ++ (nd_101 ++ (nd_102 ++ (nd_103 ++ (nd_104 ++ (nd_105 ++ (nd_106 ++ (nd_107 ++ (nd_108 ++ (nd_109)))))))))))))) := rfl
set_option maxRecDepth 100000 in
theorem ndS_8 : tables_1_8 = nd_110 := rfl
theorem ndM_0 : ∀ w, w ∈ k2_sels lw_privs → w ∈ lw_tbl := fun w h => List.mem_append_left _ h
theorem ndM_1 : ∀ w, w ∈ tables_1_1 → w ∈ lw_tbl := fun w h => List.mem_append_right _ (show w ∈ tables_1 from List.mem_append_left _ h)
theorem ndM_2 : ∀ w, w ∈ tables_1_2 → w ∈ lw_tbl := fun w h => List.mem_append_right _ (show w ∈ tables_1 from List.mem_append_right _ (List.mem_append_left _ h))
theorem ndM_3 : ∀ w, w ∈ tables_1_3 → w ∈ lw_tbl := fun w h => List.mem_append_right _ (show w ∈ tables_1 from List.mem_append_right _ (List.mem_append_right _ (List.mem_append_left _ h)))
theorem ndM_4 : ∀ w, w ∈ tables_1_4 → w ∈ lw_tbl := fun w h => List.mem_append_right _ (show w ∈ tables_1 from List.mem_append_right _ (List.mem_append_right _ (List.mem_append_right _ (List.mem_append_left _ h))))
theorem ndM_5 : ∀ w, w ∈ tables_1_5 → w ∈ lw_tbl := fun w h => List.mem_append_right _ (show w ∈ tables_1 from List.mem_append_right _ (List.mem_append_right _ (List.mem_append_right _ (List.mem_append_right _ (List.mem_append_left _ h)))))
theorem ndM_6 : ∀ w, w ∈ tables_1_6 → w ∈ lw_tbl := fun w h => List.mem_append_right _ (show w ∈ tables_1 from List.mem_append_right _ (List.mem_append_right _ (List.mem_append_right _ (List.mem_append_right _ (List.mem_append_right _ (List.mem_append_left _ h))))))
theorem ndM_7 : ∀ w, w ∈ tables_1_7 → w ∈ lw_tbl := fun w h => List.mem_append_right _ (show w ∈ tables_1 from List.mem_append_right _ (List.mem_append_right _ (List.mem_append_right _ (List.mem_append_right _ (List.mem_append_right _ (List.mem_append_right _ (List.mem_append_left _ h)))))))
theorem ndM_8 : ∀ w, w ∈ tables_1_8 → w ∈ lw_tbl := fun w h => List.mem_append_right _ (show w ∈ tables_1 from List.mem_append_right _ (List.mem_append_right _ (List.mem_append_right _ (List.mem_append_right _ (List.mem_append_right _ (List.mem_append_right _ (List.mem_append_right _ (h))))))))
theorem ndK_0 : ∀ w, w ∈ nd_0 → w ∈ lw_tbl := fun w h => ndM_0 w (by rw [ndS_0]; exact List.mem_append_left _ h)
theorem ndK_1 : ∀ w, w ∈ nd_1 → w ∈ lw_tbl := fun w h => ndM_0 w (by rw [ndS_0]; exact List.mem_append_right _ (List.mem_append_left _ h))
theorem ndK_2 : ∀ w, w ∈ nd_2 → w ∈ lw_tbl := fun w h => ndM_0 w (by rw [ndS_0]; exact List.mem_append_right _ (List.mem_append_right _ (List.mem_append_left _ h)))
theorem ndK_3 : ∀ w, w ∈ nd_3 → w ∈ lw_tbl := fun w h => ndM_0 w (by rw [ndS_0]; exact List.mem_append_right _ (List.mem_append_right _ (List.mem_append_right _ (List.mem_append_left _ h))))
theorem ndK_4 : ∀ w, w ∈ nd_4 → w ∈ lw_tbl := fun w h => ndM_0 w (by rw [ndS_0]; exact List.mem_append_right _ (List.mem_append_right _ (List.mem_append_right _ (List.mem_append_right _ (h)))))
theorem ndK_5 : ∀ w, w ∈ nd_5 → w ∈ lw_tbl := fun w h => ndM_1 w (by rw [ndS_1]; exact List.mem_append_left _ h)
theorem ndK_6 : ∀ w, w ∈ nd_6 → w ∈ lw_tbl := fun w h => ndM_1 w (by rw [ndS_1]; exact List.mem_append_right _ (List.mem_append_left _ h))
theorem ndK_7 : ∀ w, w ∈ nd_7 → w ∈ lw_tbl := fun w h => ndM_1 w (by rw [ndS_1]; exact List.mem_append_right _ (List.mem_append_right _ (List.mem_append_left _ h)))
theorem ndK_8 : ∀ w, w ∈ nd_8 → w ∈ lw_tbl := fun w h => ndM_1 w (by rw [ndS_1]; exact List.mem_append_right _ (List.mem_append_right _ (List.mem_append_right _ (List.mem_append_left _ h))))
theorem ndK_9 : ∀ w, w ∈ nd_9 → w ∈ lw_tbl := fun w h => ndM_1 w (by rw [ndS_1]; exact List.mem_append_right _ (List.mem_append_right _ (List.mem_append_right _ (List.mem_append_right _ (List.mem_append_left _ h)))))
theorem ndK_10 : ∀ w, w ∈ nd_10 → w ∈ lw_tbl := fun w h => ndM_1 w (by rw [ndS_1]; exact List.mem_append_right _ (List.mem_append_right _ (List.mem_append_right _ (List.mem_append_right _ (List.mem_append_right _ (List.mem_append_left _ h))))))
theorem ndK_11 : ∀ w, w ∈ nd_11 → w ∈ lw_tbl := fun w h => ndM_1 w (by rw [ndS_1]; exact List.mem_append_right _ (List.mem_append_right _ (List.mem_append_right _ (List.mem_append_right _ (List.mem_append_right _ (List.mem_append_right _ (List.mem_append_left _ h)))))))
theorem ndK_12 : ∀ w, w ∈ nd_12 → w ∈ lw_tbl := fun w h => ndM_1 w (by rw [ndS_1]; exact List.mem_append_right _ (List.mem_append_right _ (List.mem_append_right _ (List.mem_append_right _ (List.mem_append_right _ (List.mem_append_right _ (List.mem_append_right _ (List.mem_append_left _ h))))))))
theorem ndK_13 : ∀ w, w ∈ nd_13 → w ∈ lw_tbl := fun w h => ndM_1 w (by rw [ndS_1]; exact List.mem_append_right _ (List.mem_append_right _ (List.mem_append_right _ (List.mem_append_right _ (List.mem_append_right _ (List.mem_append_right _ (List.mem_append_right _ (List.mem_append_right _ (List.mem_append_left _ h)))))))))
theorem ndK_14 : ∀ w, w ∈ nd_14 → w ∈ lw_tbl := fun w h => ndM_1 w (by rw [ndS_1]; exact List.mem_append_right _ (List.mem_append_right _ (List.mem_append_right _ (List.mem_append_right _ (List.mem_append_right _ (List.mem_append_right _ (List.mem_append_right _ (List.mem_append_right _ (List.mem_append_right _ (List.mem_append_left _ h))))))))))
theorem ndK_15 : ∀ w, w ∈ nd_15 → w ∈ lw_tbl := fun w h => ndM_1 w (by rw [ndS_1]; exact List.mem_append_right _ (List.mem_append_right _ (List.mem_append_right _ (List.mem_append_right _ (List.mem_append_right _ (List.mem_append_right _ (List.mem_append_right _ (List.mem_append_right _ (List.mem_append_right _ (List.mem_append_right _ (List.mem_append_left _ h)))))))))))
theorem ndK_16 : ∀ w, w ∈ nd_16 → w ∈ lw_tbl := fun w h => ndM_1 w (by rw [ndS_1]; exact List.mem_append_right _ (List.mem_append_right _ (List.mem_append_right _ (List.mem_append_right _ (List.mem_append_right _ (List.mem_append_right _ (List.mem_append_right _ (List.mem_append_right _ (List.mem_append_right _ (List.mem_append_right _ (List.mem_append_right _ (List.mem_append_left _ h))))))))))))
theorem ndK_17 : ∀ w, w ∈ nd_17 → w ∈ lw_tbl := fun w h => ndM_1 w (by rw [ndS_1]; exact List.mem_append_right _ (List.mem_append_right _ (List.mem_append_right _ (List.mem_append_right _ (List.mem_append_right _ (List.mem_append_right _ (List.mem_append_right _ (List.mem_append_right _ (List.mem_append_right _ (List.mem_append_right _ (List.mem_append_right _ (List.mem_append_right _ (List.mem_append_left _ h)))))))))))))
theorem ndK_18 : ∀ w, w ∈ nd_18 → w ∈ lw_tbl := fun w h => ndM_1 w (by rw [ndS_1]; exact List.mem_append_right _ (List.mem_append_right _ (List.mem_append_right _ (List.mem_append_right _ (List.mem_append_right _ (List.mem_append_right _ (List.mem_append_right _ (List.mem_append_right _ (List.mem_append_right _ (List.mem_append_right _ (List.mem_append_right _ (List.mem_append_right _ (List.mem_append_right _ (List.mem_append_left _ h))))))))))))))
theorem ndK_19 : ∀ w, w ∈ nd_19 → w ∈ lw_tbl := fun w h => ndM_1 w (by rw [ndS_1]; exact List.mem_append_right _ (List.mem_append_right _ (List.mem_append_right _ (List.mem_append_right _ (List.mem_append_right _ (List.mem_append_right _ (List.mem_append_right _ (List.mem_append_right _ (List.mem_append_right _ (List.mem_append_right _ (List.mem_append_right _ (List.mem_append_right _ (List.mem_append_right _ (List.mem_append_right _ (h)))))))))))))))
theorem ndK_20 : ∀ w, w ∈ nd_20 → w ∈ lw_tbl := fun w h => ndM_2 w (by rw [ndS_2]; exact List.mem_append_left _ h)
theorem ndK_21 : ∀ w, w ∈ nd_21 → w ∈ lw_tbl := fun w h => ndM_2 w (by rw [ndS_2]; exact List.mem_append_right _ (List.mem_append_left _ h))
theorem ndK_22 : ∀ w, w ∈ nd_22 → w ∈ lw_tbl := fun w h => ndM_2 w (by rw [ndS_2]; exact List.mem_append_right _ (List.mem_append_right _ (List.mem_append_left _ h)))
theorem ndK_23 : ∀ w, w ∈ nd_23 → w ∈ lw_tbl := fun w h => ndM_2 w (by rw [ndS_2]; exact List.mem_append_right _ (List.mem_append_right _ (List.mem_append_right _ (List.mem_append_left _ h))))
theorem ndK_24 : ∀ w, w ∈ nd_24 → w ∈ lw_tbl := fun w h => ndM_2 w (by rw [ndS_2]; exact List.mem_append_right _ (List.mem_append_right _ (List.mem_append_right _ (List.mem_append_right _ (List.mem_append_left _ h)))))
theorem ndK_25 : ∀ w, w ∈ nd_25 → w ∈ lw_tbl := fun w h => ndM_2 w (by rw [ndS_2]; exact List.mem_append_right _ (List.mem_append_right _ (List.mem_append_right _ (List.mem_append_right _ (List.mem_append_right _ (List.mem_append_left _ h))))))
theorem ndK_26 : ∀ w, w ∈ nd_26 → w ∈ lw_tbl := fun w h => ndM_2 w (by rw [ndS_2]; exact List.mem_append_right _ (List.mem_append_right _ (List.mem_append_right _ (List.mem_append_right _ (List.mem_append_right _ (List.mem_append_right _ (List.mem_append_left _ h)))))))
theorem ndK_27 : ∀ w, w ∈ nd_27 → w ∈ lw_tbl := fun w h => ndM_2 w (by rw [ndS_2]; exact List.mem_append_right _ (List.mem_append_right _ (List.mem_append_right _ (List.mem_append_right _ (List.mem_append_right _ (List.mem_append_right _ (List.mem_append_right _ (List.mem_append_left _ h))))))))
theorem ndK_28 : ∀ w, w ∈ nd_28 → w ∈ lw_tbl := fun w h => ndM_2 w (by rw [ndS_2]; exact List.mem_append_right _ (List.mem_append_right _ (List.mem_append_right _ (List.mem_append_right _ (List.mem_append_right _ (List.mem_append_right _ (List.mem_append_right _ (List.mem_append_right _ (List.mem_append_left _ h)))))))))
theorem ndK_29 : ∀ w, w ∈ nd_29 → w ∈ lw_tbl := fun w h => ndM_2 w (by rw [ndS_2]; exact List.mem_append_right _ (List.mem_append_right _ (List.mem_append_right _ (List.mem_append_right _ (List.mem_append_right _ (List.mem_append_right _ (List.mem_append_right _ (List.mem_append_right _ (List.mem_append_right _ (List.mem_append_left _ h))))))))))
theorem ndK_30 : ∀ w, w ∈ nd_30 → w ∈ lw_tbl := fun w h => ndM_2 w (by rw [ndS_2]; exact List.mem_append_right _ (List.mem_append_right _ (List.mem_append_right _ (List.mem_append_right _ (List.mem_append_right _ (List.mem_append_right _ (List.mem_append_right _ (List.mem_append_right _ (List.mem_append_right _ (List.mem_append_right _ (List.mem_append_left _ h)))))))))))
theorem ndK_31 : ∀ w, w ∈ nd_31 → w ∈ lw_tbl := fun w h => ndM_2 w (by rw [ndS_2]; exact List.mem_append_right _ (List.mem_append_right _ (List.mem_append_right _ (List.mem_append_right _ (List.mem_append_right _ (List.mem_append_right _ (List.mem_append_right _ (List.mem_append_right _ (List.mem_append_right _ (List.mem_append_right _ (List.mem_append_right _ (List.mem_append_left _ h))))))))))))
theorem ndK_32 : ∀ w, w ∈ nd_32 → w ∈ lw_tbl := fun w h => ndM_2 w (by rw [ndS_2]; exact List.mem_append_right _ (List.mem_append_right _ (List.mem_append_right _ (List.mem_append_right _ (List.mem_append_right _ (List.mem_append_right _ (List.mem_append_right _ (List.mem_append_right _ (List.mem_append_right _ (List.mem_append_right _ (List.mem_append_right _ (List.mem_append_right _ (List.mem_append_left _ h)))))))))))))
theorem ndK_33 : ∀ w, w ∈ nd_33 → w ∈ lw_tbl := fun w h => ndM_2 w (by rw [ndS_2]; exact List.mem_append_right _ (List.mem_append_right _ (List.mem_append_right _ (List.mem_append_right _ (List.mem_append_right _ (List.mem_append_right _ (List.mem_append_right _ (List.mem_append_right _ (List.mem_append_right _ (List.mem_append_right _ (List.mem_append_right _ (List.mem_append_right _ (List.mem_append_right _ (List.mem_append_left _ h))))))))))))))
theorem ndK_34 : ∀ w, w ∈ nd_34 → w ∈ lw_tbl := fun w h => ndM_2 w (by rw [ndS_2]; exact List.mem_append_right _ (List.mem_append_right _ (List.mem_append_right _ (List.mem_append_right _ (List.mem_append_right _ (List.mem_append_right _ (List.mem_append_right _ (List.mem_append_right _ (List.mem_append_right _ (List.mem_append_right _ (List.mem_append_right _ (List.mem_append_right _ (List.mem_append_right _ (List.mem_append_right _ (h)))))))))))))))
theorem ndK_35 : ∀ w, w ∈ nd_35 → w ∈ lw_tbl := fun w h => ndM_3 w (by rw [ndS_3]; exact List.mem_append_left _ h)
theorem ndK_36 : ∀ w, w ∈ nd_36 → w ∈ lw_tbl := fun w h => ndM_3 w (by rw [ndS_3]; exact List.mem_append_right _ (List.mem_append_left _ h))
theorem ndK_37 : ∀ w, w ∈ nd_37 → w ∈ lw_tbl := fun w h => ndM_3 w (by rw [ndS_3]; exact List.mem_append_right _ (List.mem_append_right _ (List.mem_append_left _ h)))
theorem ndK_38 : ∀ w, w ∈ nd_38 → w ∈ lw_tbl := fun w h => ndM_3 w (by rw [ndS_3]; exact List.mem_append_right _ (List.mem_append_right _ (List.mem_append_right _ (List.mem_append_left _ h))))
theorem ndK_39 : ∀ w, w ∈ nd_39 → w ∈ lw_tbl := fun w h => ndM_3 w (by rw [ndS_3]; exact List.mem_append_right _ (List.mem_append_right _ (List.mem_append_right _ (List.mem_append_right _ (List.mem_append_left _ h)))))
theorem ndK_40 : ∀ w, w ∈ nd_40 → w ∈ lw_tbl := fun w h => ndM_3 w (by rw [ndS_3]; exact List.mem_append_right _ (List.mem_append_right _ (List.mem_append_right _ (List.mem_append_right _ (List.mem_append_right _ (List.mem_append_left _ h))))))
theorem ndK_41 : ∀ w, w ∈ nd_41 → w ∈ lw_tbl := fun w h => ndM_3 w (by rw [ndS_3]; exact List.mem_append_right _ (List.mem_append_right _ (List.mem_append_right _ (List.mem_append_right _ (List.mem_append_right _ (List.mem_append_right _ (List.mem_append_left _ h)))))))
theorem ndK_42 : ∀ w, w ∈ nd_42 → w ∈ lw_tbl := fun w h => ndM_3 w (by rw [ndS_3]; exact List.mem_append_right _ (List.mem_append_right _ (List.mem_append_right _ (List.mem_append_right _ (List.mem_append_right _ (List.mem_append_right _ (List.mem_append_right _ (List.mem_append_left _ h))))))))
theorem ndK_43 : ∀ w, w ∈ nd_43 → w ∈ lw_tbl := fun w h => ndM_3 w (by rw [ndS_3]; exact List.mem_append_right _ (List.mem_append_right _ (List.mem_append_right _ (List.mem_append_right _ (List.mem_append_right _ (List.mem_append_right _ (List.mem_append_right _ (List.mem_append_right _ (List.mem_append_left _ h)))))))))
theorem ndK_44 : ∀ w, w ∈ nd_44 → w ∈ lw_tbl := fun w h => ndM_3 w (by rw [ndS_3]; exact List.mem_append_right _ (List.mem_append_right _ (List.mem_append_right _ (List.mem_append_right _ (List.mem_append_right _ (List.mem_append_right _ (List.mem_append_right _ (List.mem_append_right _ (List.mem_append_right _ (List.mem_append_left _ h))))))))))
theorem ndK_45 : ∀ w, w ∈ nd_45 → w ∈ lw_tbl := fun w h => ndM_3 w (by rw [ndS_3]; exact List.mem_append_right _ (List.mem_append_right _ (List.mem_append_right _ (List.mem_append_right _ (List.mem_append_right _ (List.mem_append_right _ (List.mem_append_right _ (List.mem_append_right _ (List.mem_append_right _ (List.mem_append_right _ (List.mem_append_left _ h)))))))))))
theorem ndK_46 : ∀ w, w ∈ nd_46 → w ∈ lw_tbl := fun w h => ndM_3 w (by rw [ndS_3]; exact List.mem_append_right _ (List.mem_append_right _ (List.mem_append_right _ (List.mem_append_right _ (List.mem_append_right _ (List.mem_append_right _ (List.mem_append_right _ (List.mem_append_right _ (List.mem_append_right _ (List.mem_append_right _ (List.mem_append_right _ (List.mem_append_left _ h))))))))))))
theorem ndK_47 : ∀ w, w ∈ nd_47 → w ∈ lw_tbl := fun w h => ndM_3 w (by rw [ndS_3]; exact List.mem_append_right _ (List.mem_append_right _ (List.mem_append_right _ (List.mem_append_right _ (List.mem_append_right _ (List.mem_append_right _ (List.mem_append_right _ (List.mem_append_right _ (List.mem_append_right _ (List.mem_append_right _ (List.mem_append_right _ (List.mem_append_right _ (List.mem_append_left _ h)))))))))))))
theorem ndK_48 : ∀ w, w ∈ nd_48 → w ∈ lw_tbl := fun w h => ndM_3 w (by rw [ndS_3]; exact List.mem_append_right _ (List.mem_append_right _ (List.mem_append_right _ (List.mem_append_right _ (List.mem_append_right _ (List.mem_append_right _ (List.mem_append_right _ (List.mem_append_right _ (List.mem_append_right _ (List.mem_append_right _ (List.mem_append_right _ (List.mem_append_right _ (List.mem_append_right _ (List.mem_append_left _ h))))))))))))))
theorem ndK_49 : ∀ w, w ∈ nd_49 → w ∈ lw_tbl := fun w h => ndM_3 w (by rw [ndS_3]; exact List.mem_append_right _ (List.mem_append_right _ (List.mem_append_right _ (List.mem_append_right _ (List.mem_append_right _ (List.mem_append_right _ (List.mem_append_right _ (List.mem_append_right _ (List.mem_append_right _ (List.mem_append_right _ (List.mem_append_right _ (List.mem_append_right _ (List.mem_append_right _ (List.mem_append_right _ (h)))))))))))))))
theorem ndK_50 : ∀ w, w ∈ nd_50 → w ∈ lw_tbl := fun w h => ndM_4 w (by rw [ndS_4]; exact List.mem_append_left _ h)
theorem ndK_51 : ∀ w, w ∈ nd_51 → w ∈ lw_tbl := fun w h => ndM_4 w (by rw [ndS_4]; exact List.mem_append_right _ (List.mem_append_left _ h))
theorem ndK_52 : ∀ w, w ∈ nd_52 → w ∈ lw_tbl := fun w h => ndM_4 w (by rw [ndS_4]; exact List.mem_append_right _ (List.mem_append_right _ (List.mem_append_left _ h)))
theorem ndK_53 : ∀ w, w ∈ nd_53 → w ∈ lw_tbl := fun w h => ndM_4 w (by rw [ndS_4]; exact List.mem_append_right _ (List.mem_append_right _ (List.mem_append_right _ (List.mem_append_left _ h))))
theorem ndK_54 : ∀ w, w ∈ nd_54 → w ∈ lw_tbl := fun w h => ndM_4 w (by rw [ndS_4]; exact List.mem_append_right _ (List.mem_append_right _ (List.mem_append_right _ (List.mem_append_right _ (List.mem_append_left _ h)))))
theorem ndK_55 : ∀ w, w ∈ nd_55 → w ∈ lw_tbl := fun w h => ndM_4 w (by rw [ndS_4]; exact List.mem_append_right _ (List.mem_append_right _ (List.mem_append_right _ (List.mem_append_right _ (List.mem_append_right _ (List.mem_append_left _ h))))))
theorem ndK_56 : ∀ w, w ∈ nd_56 → w ∈ lw_tbl := fun w h => ndM_4 w (by rw [ndS_4]; exact List.mem_append_right _ (List.mem_append_right _ (List.mem_append_right _ (List.mem_append_right _ (List.mem_append_right _ (List.mem_append_right _ (List.mem_append_left _ h)))))))
theorem ndK_57 : ∀ w, w ∈ nd_57 → w ∈ lw_tbl := fun w h => ndM_4 w (by rw [ndS_4]; exact List.mem_append_right _ (List.mem_append_right _ (List.mem_append_right _ (List.mem_append_right _ (List.mem_append_right _ (List.mem_append_right _ (List.mem_append_right _ (List.mem_append_left _ h))))))))
theorem ndK_58 : ∀ w, w ∈ nd_58 → w ∈ lw_tbl := fun w h => ndM_4 w (by rw [ndS_4]; exact List.mem_append_right _ (List.mem_append_right _ (List.mem_append_right _ (List.mem_append_right _ (List.mem_append_right _ (List.mem_append_right _ (List.mem_append_right _ (List.mem_append_right _ (List.mem_append_left _ h)))))))))
theorem ndK_59 : ∀ w, w ∈ nd_59 → w ∈ lw_tbl := fun w h => ndM_4 w (by rw [ndS_4]; exact List.mem_append_right _ (List.mem_append_right _ (List.mem_append_right _ (List.mem_append_right _ (List.mem_append_right _ (List.mem_append_right _ (List.mem_append_right _ (List.mem_append_right _ (List.mem_append_right _ (List.mem_append_left _ h))))))))))
theorem ndK_60 : ∀ w, w ∈ nd_60 → w ∈ lw_tbl := fun w h => ndM_4 w (by rw [ndS_4]; exact List.mem_append_right _ (List.mem_append_right _ (List.mem_append_right _ (List.mem_append_right _ (List.mem_append_right _ (List.mem_append_right _ (List.mem_append_right _ (List.mem_append_right _ (List.mem_append_right _ (List.mem_append_right _ (List.mem_append_left _ h)))))))))))
theorem ndK_61 : ∀ w, w ∈ nd_61 → w ∈ lw_tbl := fun w h => ndM_4 w (by rw [ndS_4]; exact List.mem_append_right _ (List.mem_append_right _ (List.mem_append_right _ (List.mem_append_right _ (List.mem_append_right _ (List.mem_append_right _ (List.mem_append_right _ (List.mem_append_right _ (List.mem_append_right _ (List.mem_append_right _ (List.mem_append_right _ (List.mem_append_left _ h))))))))))))
theorem ndK_62 : ∀ w, w ∈ nd_62 → w ∈ lw_tbl := fun w h => ndM_4 w (by rw [ndS_4]; exact List.mem_append_right _ (List.mem_append_right _ (List.mem_append_right _ (List.mem_append_right _ (List.mem_append_right _ (List.mem_append_right _ (List.mem_append_right _ (List.mem_append_right _ (List.mem_append_right _ (List.mem_append_right _ (List.mem_append_right _ (List.mem_append_right _ (List.mem_append_left _ h)))))))))))))
theorem ndK_63 : ∀ w, w ∈ nd_63 → w ∈ lw_tbl := fun w h => ndM_4 w (by rw [ndS_4]; exact List.mem_append_right _ (List.mem_append_right _ (List.mem_append_right _ (List.mem_append_right _ (List.mem_append_right _ (List.mem_append_right _ (List.mem_append_right _ (List.mem_append_right _ (List.mem_append_right _ (List.mem_append_right _ (List.mem_append_right _ (List.mem_append_right _ (List.mem_append_right _ (List.mem_append_left _ h))))))))))))))
theorem ndK_64 : ∀ w, w ∈ nd_64 → w ∈ lw_tbl := fun w h => ndM_4 w (by rw [ndS_4]; exact List.mem_append_right _ (List.mem_append_right _ (List.mem_append_right _ (List.mem_append_right _ (List.mem_append_right _ (List.mem_append_right _ (List.mem_append_right _ (List.mem_append_right _ (List.mem_append_right _ (List.mem_append_right _ (List.mem_append_right _ (List.mem_append_right _ (List.mem_append_right _ (List.mem_append_right _ (h)))))))))))))))
theorem ndK_65 : ∀ w, w ∈ nd_65 → w ∈ lw_tbl := fun w h => ndM_5 w (by rw [ndS_5]; exact List.mem_append_left _ h)
theorem ndK_66 : ∀ w, w ∈ nd_66 → w ∈ lw_tbl := fun w h => ndM_5 w (by rw [ndS_5]; exact List.mem_append_right _ (List.mem_append_left _ h))
theorem ndK_67 : ∀ w, w ∈ nd_67 → w ∈ lw_tbl := fun w h => ndM_5 w (by rw [ndS_5]; exact List.mem_append_right _ (List.mem_append_right _ (List.mem_append_left _ h)))
theorem ndK_68 : ∀ w, w ∈ nd_68 → w ∈ lw_tbl := fun w h => ndM_5 w (by rw [ndS_5]; exact List.mem_append_right _ (List.mem_append_right _ (List.mem_append_right _ (List.mem_append_left _ h))))
theorem ndK_69 : ∀ w, w ∈ nd_69 → w ∈ lw_tbl := fun w h => ndM_5 w (by rw [ndS_5]; exact List.mem_append_right _ (List.mem_append_right _ (List.mem_append_right _ (List.mem_append_right _ (List.mem_append_left _ h)))))
theorem ndK_70 : ∀ w, w ∈ nd_70 → w ∈ lw_tbl := fun w h => ndM_5 w (by rw [ndS_5]; exact List.mem_append_right _ (List.mem_append_right _ (List.mem_append_right _ (List.mem_append_right _ (List.mem_append_right _ (List.mem_append_left _ h))))))
theorem ndK_71 : ∀ w, w ∈ nd_71 → w ∈ lw_tbl := fun w h => ndM_5 w (by rw [ndS_5]; exact List.mem_append_right _ (List.mem_append_right _ (List.mem_append_right _ (List.mem_append_right _ (List.mem_append_right _ (List.mem_append_right _ (List.mem_append_left _ h)))))))
theorem ndK_72 : ∀ w, w ∈ nd_72 → w ∈ lw_tbl := fun w h => ndM_5 w (by rw [ndS_5]; exact List.mem_append_right _ (List.mem_append_right _ (List.mem_append_right _ (List.mem_append_right _ (List.mem_append_right _ (List.mem_append_right _ (List.mem_append_right _ (List.mem_append_left _ h))))))))
theorem ndK_73 : ∀ w, w ∈ nd_73 → w ∈ lw_tbl := fun w h => ndM_5 w (by rw [ndS_5]; exact List.mem_append_right _ (List.mem_append_right _ (List.mem_append_right _ (List.mem_append_right _ (List.mem_append_right _ (List.mem_append_right _ (List.mem_append_right _ (List.mem_append_right _ (List.mem_append_left _ h)))))))))
theorem ndK_74 : ∀ w, w ∈ nd_74 → w ∈ lw_tbl := fun w h => ndM_5 w (by rw [ndS_5]; exact List.mem_append_right _ (List.mem_append_right _ (List.mem_append_right _ (List.mem_append_right _ (List.mem_append_right _ (List.mem_append_right _ (List.mem_append_right _ (List.mem_append_right _ (List.mem_append_right _ (List.mem_append_left _ h))))))))))
theorem ndK_75 : ∀ w, w ∈ nd_75 → w ∈ lw_tbl := fun w h => ndM_5 w (by rw [ndS_5]; exact List.mem_append_right _ (List.mem_append_right _ (List.mem_append_right _ (List.mem_append_right _ (List.mem_append_right _ (List.mem_append_right _ (List.mem_append_right _ (List.mem_append_right _ (List.mem_append_right _ (List.mem_append_right _ (List.mem_append_left _ h)))))))))))
theorem ndK_76 : ∀ w, w ∈ nd_76 → w ∈ lw_tbl := fun w h => ndM_5 w (by rw [ndS_5]; exact List.mem_append_right _ (List.mem_append_right _ (List.mem_append_right _ (List.mem_append_right _ (List.mem_append_right _ (List.mem_append_right _ (List.mem_append_right _ (List.mem_append_right _ (List.mem_append_right _ (List.mem_append_right _ (List.mem_append_right _ (List.mem_append_left _ h))))))))))))
theorem ndK_77 : ∀ w, w ∈ nd_77 → w ∈ lw_tbl := fun w h => ndM_5 w (by rw [ndS_5]; exact List.mem_append_right _ (List.mem_append_right _ (List.mem_append_right _ (List.mem_append_right _ (List.mem_append_right _ (List.mem_append_right _ (List.mem_append_right _ (List.mem_append_right _ (List.mem_append_right _ (List.mem_append_right _ (List.mem_append_right _ (List.mem_append_right _ (List.mem_append_left _ h)))))))))))))
theorem ndK_78 : ∀ w, w ∈ nd_78 → w ∈ lw_tbl := fun w h => ndM_5 w (by rw [ndS_5]; exact List.mem_append_right _ (List.mem_append_right _ (List.mem_append_right _ (List.mem_append_right _ (List.mem_append_right _ (List.mem_append_right _ (List.mem_append_right _ (List.mem_append_right _ (List.mem_append_right _ (List.mem_append_right _ (List.mem_append_right _ (List.mem_append_right _ (List.mem_append_right _ (List.mem_append_left _ h))))))))))))))
theorem ndK_79 : ∀ w, w ∈ nd_79 → w ∈ lw_tbl := fun w h => ndM_5 w (by rw [ndS_5]; exact List.mem_append_right _ (List.mem_append_right _ (List.mem_append_right _ (List.mem_append_right _ (List.mem_append_right _ (List.mem_append_right _ (List.mem_append_right _ (List.mem_append_right _ (List.mem_append_right _ (List.mem_append_right _ (List.mem_append_right _ (List.mem_append_right _ (List.mem_append_right _ (List.mem_append_right _ (h)))))))))))))))
theorem ndK_80 : ∀ w, w ∈ nd_80 → w ∈ lw_tbl := fun w h => ndM_6 w (by rw [ndS_6]; exact List.mem_append_left _ h)
theorem ndK_81 : ∀ w, w ∈ nd_81 → w ∈ lw_tbl := fun w h => ndM_6 w (by rw [ndS_6]; exact List.mem_append_right _ (List.mem_append_left _ h))
theorem ndK_82 : ∀ w, w ∈ nd_82 → w ∈ lw_tbl := fun w h => ndM_6 w (by rw [ndS_6]; exact List.mem_append_right _ (List.mem_append_right _ (List.mem_append_left _ h)))
theorem ndK_83 : ∀ w, w ∈ nd_83 → w ∈ lw_tbl := fun w h => ndM_6 w (by rw [ndS_6]; exact List.mem_append_right _ (List.mem_append_right _ (List.mem_append_right _ (List.mem_append_left _ h))))
theorem ndK_84 : ∀ w, w ∈ nd_84 → w ∈ lw_tbl := fun w h => ndM_6 w (by rw [ndS_6]; exact List.mem_append_right _ (List.mem_append_right _ (List.mem_append_right _ (List.mem_append_right _ (List.mem_append_left _ h)))))
theorem ndK_85 : ∀ w, w ∈ nd_85 → w ∈ lw_tbl := fun w h => ndM_6 w (by rw [ndS_6]; exact List.mem_append_right _ (List.mem_append_right _ (List.mem_append_right _ (List.mem_append_right _ (List.mem_append_right _ (List.mem_append_left _ h))))))
theorem ndK_86 : ∀ w, w ∈ nd_86 → w ∈ lw_tbl := fun w h => ndM_6 w (by rw [ndS_6]; exact List.mem_append_right _ (List.mem_append_right _ (List.mem_append_right _ (List.mem_append_right _ (List.mem_append_right _ (List.mem_append_right _ (List.mem_append_left _ h)))))))
theorem ndK_87 : ∀ w, w ∈ nd_87 → w ∈ lw_tbl := fun w h => ndM_6 w (by rw [ndS_6]; exact List.mem_append_right _ (List.mem_append_right _ (List.mem_append_right _ (List.mem_append_right _ (List.mem_append_right _ (List.mem_append_right _ (List.mem_append_right _ (List.mem_append_left _ h))))))))
theorem ndK_88 : ∀ w, w ∈ nd_88 → w ∈ lw_tbl := fun w h => ndM_6 w (by rw [ndS_6]; exact List.mem_append_right _ (List.mem_append_right _ (List.mem_append_right _ (List.mem_append_right _ (List.mem_append_right _ (List.mem_append_right _ (List.mem_append_right _ (List.mem_append_right _ (List.mem_append_left _ h)))))))))
theorem ndK_89 : ∀ w, w ∈ nd_89 → w ∈ lw_tbl := fun w h => ndM_6 w (by rw [ndS_6]; exact List.mem_append_right _ (List.mem_append_right _ (List.mem_append_right _ (List.mem_append_right _ (List.mem_append_right _ (List.mem_append_right _ (List.mem_append_right _ (List.mem_append_right _ (List.mem_append_right _ (List.mem_append_left _ h))))))))))
theorem ndK_90 : ∀ w, w ∈ nd_90 → w ∈ lw_tbl := fun w h => ndM_6 w (by rw [ndS_6]; exact List.mem_append_right _ (List.mem_append_right _ (List.mem_append_right _ (List.mem_append_right _ (List.mem_append_right _ (List.mem_append_right _ (List.mem_append_right _ (List.mem_append_right _ (List.mem_append_right _ (List.mem_append_right _ (List.mem_append_left _ h)))))))))))
theorem ndK_91 : ∀ w, w ∈ nd_91 → w ∈ lw_tbl := fun w h => ndM_6 w (by rw [ndS_6]; exact List.mem_append_right _ (List.mem_append_right _ (List.mem_append_right _ (List.mem_append_right _ (List.mem_append_right _ (List.mem_append_right _ (List.mem_append_right _ (List.mem_append_right _ (List.mem_append_right _ (List.mem_append_right _ (List.mem_append_right _ (List.mem_append_left _ h))))))))))))
theorem ndK_92 : ∀ w, w ∈ nd_92 → w ∈ lw_tbl := fun w h => ndM_6 w (by rw [ndS_6]; exact List.mem_append_right _ (List.mem_append_right _ (List.mem_append_right _ (List.mem_append_right _ (List.mem_append_right _ (List.mem_append_right _ (List.mem_append_right _ (List.mem_append_right _ (List.mem_append_right _ (List.mem_append_right _ (List.mem_append_right _ (List.mem_append_right _ (List.mem_append_left _ h)))))))))))))
theorem ndK_93 : ∀ w, w ∈ nd_93 → w ∈ lw_tbl := fun w h => ndM_6 w (by rw [ndS_6]; exact List.mem_append_right _ (List.mem_append_right _ (List.mem_append_right _ (List.mem_append_right _ (List.mem_append_right _ (List.mem_append_right _ (List.mem_append_right _ (List.mem_append_right _ (List.mem_append_right _ (List.mem_append_right _ (List.mem_append_right _ (List.mem_append_right _ (List.mem_append_right _ (List.mem_append_left _ h))))))))))))))
theorem ndK_94 : ∀ w, w ∈ nd_94 → w ∈ lw_tbl := fun w h => ndM_6 w (by rw [ndS_6]; exact List.mem_append_right _ (List.mem_append_right _ (List.mem_append_right _ (List.mem_append_right _ (List.mem_append_right _ (List.mem_append_right _ (List.mem_append_right _ (List.mem_append_right _ (List.mem_append_right _ (List.mem_append_right _ (List.mem_append_right _ (List.mem_append_right _ (List.mem_append_right _ (List.mem_append_right _ (h)))))))))))))))
theorem ndK_95 : ∀ w, w ∈ nd_95 → w ∈ lw_tbl := fun w h => ndM_7 w (by rw [ndS_7]; exact List.mem_append_left _ h)
theorem ndK_96 : ∀ w, w ∈ nd_96 → w ∈ lw_tbl := fun w h => ndM_7 w (by rw [ndS_7]; exact List.mem_append_right _ (List.mem_append_left _ h))
theorem ndK_97 : ∀ w, w ∈ nd_97 → w ∈ lw_tbl := fun w h => ndM_7 w (by rw [ndS_7]; exact List.mem_append_right _ (List.mem_append_right _ (List.mem_append_left _ h)))
theorem ndK_98 : ∀ w, w ∈ nd_98 → w ∈ lw_tbl := fun w h => ndM_7 w (by rw [ndS_7]; exact List.mem_append_right _ (List.mem_append_right _ (List.mem_append_right _ (List.mem_append_left _ h))))
theorem ndK_99 : ∀ w, w ∈ nd_99 → w ∈ lw_tbl := fun w h => ndM_7 w (by rw [ndS_7]; exact List.mem_append_right _ (List.mem_append_right _ (List.mem_append_right _ (List.mem_append_right _ (List.mem_append_left _ h)))))
theorem ndK_100 : ∀ w, w ∈ nd_100 → w ∈ lw_tbl := fun w h => ndM_7 w (by rw [ndS_7]; exact List.mem_append_right _ (List.mem_append_right _ (List.mem_append_right _ (List.mem_append_right _ (List.mem_append_right _ (List.mem_append_left _ h))))))
theorem ndK_101 : ∀ w, w ∈ nd_101 → w ∈ lw_tbl := fun w h => ndM_7 w (by rw [ndS_7]; exact List.mem_append_right _ (List.mem_append_right _ (List.mem_append_right _ (List.mem_append_right _ (List.mem_append_right _ (List.mem_append_right _ (List.mem_append_left _ h)))))))
theorem ndK_102 : ∀ w, w ∈ nd_102 → w ∈ lw_tbl := fun w h => ndM_7 w (by rw [ndS_7]; exact List.mem_append_right _ (List.mem_append_right _ (List.mem_append_right _ (List.mem_append_right _ (List.mem_append_right _ (List.mem_append_right _ (List.mem_append_right _ (List.mem_append_left _ h))))))))
theorem ndK_103 : ∀ w, w ∈ nd_103 → w ∈ lw_tbl := fun w h => ndM_7 w (by rw [ndS_7]; exact List.mem_append_right _ (List.mem_append_right _ (List.mem_append_right _ (List.mem_append_right _ (List.mem_append_right _ (List.mem_append_right _ (List.mem_append_right _ (List.mem_append_right _ (List.mem_append_left _ h)))))))))
theorem ndK_104 : ∀ w, w ∈ nd_104 → w ∈ lw_tbl := fun w h => ndM_7 w (by rw [ndS_7]; exact List.mem_append_right _ (List.mem_append_right _ (List.mem_append_right _ (List.mem_append_right _ (List.mem_append_right _ (List.mem_append_right _ (List.mem_append_right _ (List.mem_append_right _ (List.mem_append_right _ (List.mem_append_left _ h))))))))))
theorem ndK_105 : ∀ w, w ∈ nd_105 → w ∈ lw_tbl := fun w h => ndM_7 w (by rw [ndS_7]; exact List.mem_append_right _ (List.mem_append_right _ (List.mem_append_right _ (List.mem_append_right _ (List.mem_append_right _ (List.mem_append_right _ (List.mem_append_right _ (List.mem_append_right _ (List.mem_append_right _ (List.mem_append_right _ (List.mem_append_left _ h)))))))))))
theorem ndK_106 : ∀ w, w ∈ nd_106 → w ∈ lw_tbl := fun w h => ndM_7 w (by rw [ndS_7]; exact List.mem_append_right _ (List.mem_append_right _ (List.mem_append_right _ (List.mem_append_right _ (List.mem_append_right _ (List.mem_append_right _ (List.mem_append_right _ (List.mem_append_right _ (List.mem_append_right _ (List.mem_append_right _ (List.mem_append_right _ (List.mem_append_left _ h))))))))))))
theorem ndK_107 : ∀ w, w ∈ nd_107 → w ∈ lw_tbl := fun w h => ndM_7 w (by rw [ndS_7]; exact List.mem_append_right _ (List.mem_append_right _ (List.mem_append_right _ (List.mem_append_right _ (List.mem_append_right _ (List.mem_append_right _ (List.mem_append_right _ (List.mem_append_right _ (List.mem_append_right _ (List.mem_append_right _ (List.mem_append_right _ (List.mem_append_right _ (List.mem_append_left _ h)))))))))))))
theorem ndK_108 : ∀ w, w ∈ nd_108 → w ∈ lw_tbl := fun w h => ndM_7 w (by rw [ndS_7]; exact List.mem_append_right _ (List.mem_append_right _ (List.mem_append_right _ (List.mem_append_right _ (List.mem_append_right _ (List.mem_append_right _ (List.mem_append_right _ (List.mem_append_right _ (List.mem_append_right _ (List.mem_append_right _ (List.mem_append_right _ (List.mem_append_right _ (List.mem_append_right _ (List.mem_append_left _ h))))))))))))))
theorem ndK_109 : ∀ w, w ∈ nd_109 → w ∈ lw_tbl := fun w h => ndM_7 w (by rw [ndS_7]; exact List.mem_append_right _ (List.mem_append_right _ (List.mem_append_right _ (List.mem_append_right _ (List.mem_append_right _ (List.mem_append_right _ (List.mem_append_right _ (List.mem_append_right _ (List.mem_append_right _ (List.mem_append_right _ (List.mem_append_right _ (List.mem_append_right _ (List.mem_append_right _ (List.mem_append_right _ (h)))))))))))))))
theorem ndK_110 : ∀ w, w ∈ nd_110 → w ∈ lw_tbl := fun w h => ndM_8 w (by rw [ndS_8]; exact h)
theorem ndT_in : ∀ ch, ch ∈ ndT → ∀ w, w ∈ ch → w ∈ lw_tbl := by
  intro ch h
  unfold ndT at h
  rcases List.mem_cons.mp h with rfl | h
  · exact ndK_0
  rcases List.mem_cons.mp h with rfl | h
  · exact ndK_1
  rcases List.mem_cons.mp h with rfl | h
  · exact ndK_2
  rcases List.mem_cons.mp h with rfl | h
  · exact ndK_3
  rcases List.mem_cons.mp h with rfl | h
  · exact ndK_4
  rcases List.mem_cons.mp h with rfl | h
  · exact ndK_5
  rcases List.mem_cons.mp h with rfl | h
  · exact ndK_6
  rcases List.mem_cons.mp h with rfl | h
  · exact ndK_7
  rcases List.mem_cons.mp h with rfl | h
  · exact ndK_8
  rcases List.mem_cons.mp h with rfl | h
  · exact ndK_9
  rcases List.mem_cons.mp h with rfl | h
  · exact ndK_10
  rcases List.mem_cons.mp h with rfl | h
  · exact ndK_11
  rcases List.mem_cons.mp h with rfl | h
  · exact ndK_12
  rcases List.mem_cons.mp h with rfl | h
  · exact ndK_13
  rcases List.mem_cons.mp h with rfl | h
  · exact ndK_14
  rcases List.mem_cons.mp h with rfl | h
  · exact ndK_15
  rcases List.mem_cons.mp h with rfl | h
  · exact ndK_16
  rcases List.mem_cons.mp h with rfl | h
  · exact ndK_17
  rcases List.mem_cons.mp h with rfl | h
  · exact ndK_18
  rcases List.mem_cons.mp h with rfl | h
  · exact ndK_19
  rcases List.mem_cons.mp h with rfl | h
  · exact ndK_20
  rcases List.mem_cons.mp h with rfl | h
  · exact ndK_21
  rcases List.mem_cons.mp h with rfl | h
  · exact ndK_22
  rcases List.mem_cons.mp h with rfl | h
  · exact ndK_23
  rcases List.mem_cons.mp h with rfl | h
  · exact ndK_24
  rcases List.mem_cons.mp h with rfl | h
  · exact ndK_25
  rcases List.mem_cons.mp h with rfl | h
  · exact ndK_26
  rcases List.mem_cons.mp h with rfl | h
  · exact ndK_27
  rcases List.mem_cons.mp h with rfl | h
  · exact ndK_28
  rcases List.mem_cons.mp h with rfl | h
  · exact ndK_29
  rcases List.mem_cons.mp h with rfl | h
  · exact ndK_30
  rcases List.mem_cons.mp h with rfl | h
  · exact ndK_31
  rcases List.mem_cons.mp h with rfl | h
  · exact ndK_32
  rcases List.mem_cons.mp h with rfl | h
  · exact ndK_33
  rcases List.mem_cons.mp h with rfl | h
  · exact ndK_34
  rcases List.mem_cons.mp h with rfl | h
  · exact ndK_35
  rcases List.mem_cons.mp h with rfl | h
  · exact ndK_36
  rcases List.mem_cons.mp h with rfl | h
  · exact ndK_37
  rcases List.mem_cons.mp h with rfl | h
  · exact ndK_38
  rcases List.mem_cons.mp h with rfl | h
  · exact ndK_39
  rcases List.mem_cons.mp h with rfl | h
  · exact ndK_40
  rcases List.mem_cons.mp h with rfl | h
  · exact ndK_41
  rcases List.mem_cons.mp h with rfl | h
  · exact ndK_42
  rcases List.mem_cons.mp h with rfl | h
  · exact ndK_43
  rcases List.mem_cons.mp h with rfl | h
  · exact ndK_44
  rcases List.mem_cons.mp h with rfl | h
  · exact ndK_45
  rcases List.mem_cons.mp h with rfl | h
  · exact ndK_46
  rcases List.mem_cons.mp h with rfl | h
  · exact ndK_47
  rcases List.mem_cons.mp h with rfl | h
  · exact ndK_48
  rcases List.mem_cons.mp h with rfl | h
  · exact ndK_49
  rcases List.mem_cons.mp h with rfl | h
  · exact ndK_50
  rcases List.mem_cons.mp h with rfl | h
  · exact ndK_51
  rcases List.mem_cons.mp h with rfl | h
  · exact ndK_52
  rcases List.mem_cons.mp h with rfl | h
  · exact ndK_53
  rcases List.mem_cons.mp h with rfl | h
  · exact ndK_54
  rcases List.mem_cons.mp h with rfl | h
  · exact ndK_55
  rcases List.mem_cons.mp h with rfl | h
  · exact ndK_56
  rcases List.mem_cons.mp h with rfl | h
  · exact ndK_57
  rcases List.mem_cons.mp h with rfl | h
  · exact ndK_58
  rcases List.mem_cons.mp h with rfl | h
  · exact ndK_59
  rcases List.mem_cons.mp h with rfl | h
  · exact ndK_60
  rcases List.mem_cons.mp h with rfl | h
  · exact ndK_61
  rcases List.mem_cons.mp h with rfl | h
  · exact ndK_62
  rcases List.mem_cons.mp h with rfl | h
  · exact ndK_63
  rcases List.mem_cons.mp h with rfl | h
  · exact ndK_64
  rcases List.mem_cons.mp h with rfl | h
  · exact ndK_65
  rcases List.mem_cons.mp h with rfl | h
  · exact ndK_66
  rcases List.mem_cons.mp h with rfl | h
  · exact ndK_67
  rcases List.mem_cons.mp h with rfl | h
  · exact ndK_68
  rcases List.mem_cons.mp h with rfl | h
  · exact ndK_69
  rcases List.mem_cons.mp h with rfl | h
  · exact ndK_70
  rcases List.mem_cons.mp h with rfl | h
  · exact ndK_71
  rcases List.mem_cons.mp h with rfl | h
  · exact ndK_72
  rcases List.mem_cons.mp h with rfl | h
  · exact ndK_73
  rcases List.mem_cons.mp h with rfl | h
  · exact ndK_74
  rcases List.mem_cons.mp h with rfl | h
  · exact ndK_75
  rcases List.mem_cons.mp h with rfl | h
  · exact ndK_76
  rcases List.mem_cons.mp h with rfl | h
  · exact ndK_77
  rcases List.mem_cons.mp h with rfl | h
  · exact ndK_78
  rcases List.mem_cons.mp h with rfl | h
  · exact ndK_79
  rcases List.mem_cons.mp h with rfl | h
  · exact ndK_80
  rcases List.mem_cons.mp h with rfl | h
  · exact ndK_81
  rcases List.mem_cons.mp h with rfl | h
  · exact ndK_82
  rcases List.mem_cons.mp h with rfl | h
  · exact ndK_83
  rcases List.mem_cons.mp h with rfl | h
  · exact ndK_84
  rcases List.mem_cons.mp h with rfl | h
  · exact ndK_85
  rcases List.mem_cons.mp h with rfl | h
  · exact ndK_86
  rcases List.mem_cons.mp h with rfl | h
  · exact ndK_87
  rcases List.mem_cons.mp h with rfl | h
  · exact ndK_88
  rcases List.mem_cons.mp h with rfl | h
  · exact ndK_89
  rcases List.mem_cons.mp h with rfl | h
  · exact ndK_90
  rcases List.mem_cons.mp h with rfl | h
  · exact ndK_91
  rcases List.mem_cons.mp h with rfl | h
  · exact ndK_92
  rcases List.mem_cons.mp h with rfl | h
  · exact ndK_93
  rcases List.mem_cons.mp h with rfl | h
  · exact ndK_94
  rcases List.mem_cons.mp h with rfl | h
  · exact ndK_95
  rcases List.mem_cons.mp h with rfl | h
  · exact ndK_96
  rcases List.mem_cons.mp h with rfl | h
  · exact ndK_97
  rcases List.mem_cons.mp h with rfl | h
  · exact ndK_98
  rcases List.mem_cons.mp h with rfl | h
  · exact ndK_99
  rcases List.mem_cons.mp h with rfl | h
  · exact ndK_100
  rcases List.mem_cons.mp h with rfl | h
  · exact ndK_101
  rcases List.mem_cons.mp h with rfl | h
  · exact ndK_102
  rcases List.mem_cons.mp h with rfl | h
  · exact ndK_103
  rcases List.mem_cons.mp h with rfl | h
  · exact ndK_104
  rcases List.mem_cons.mp h with rfl | h
  · exact ndK_105
  rcases List.mem_cons.mp h with rfl | h
  · exact ndK_106
  rcases List.mem_cons.mp h with rfl | h
  · exact ndK_107
  rcases List.mem_cons.mp h with rfl | h
  · exact ndK_108
  rcases List.mem_cons.mp h with rfl | h
  · exact ndK_109
  rcases List.mem_cons.mp h with rfl | h
  · exact ndK_110
  cases h
def ndG : List (List Jvm.Cond) → Nat → List Jvm.Cond
  | [], _ => []
  | c :: _, 0 => c
  | _ :: t, i + 1 => ndG t i
def ndH : List Jvm.Cond → Nat → Option Jvm.Cond
  | [], _ => none
  | c :: _, 0 => some c
  | _ :: t, i + 1 => ndH t i
def ndA (h : Nat) : Option Jvm.Cond := ndH (ndG ndT (h / 16)) (h % 16)
theorem ndG_mem : ∀ {l : List (List Jvm.Cond)} {i : Nat} {w : Jvm.Cond}, w ∈ ndG l i → ∃ ch ∈ l, w ∈ ch
  | [], _, _, h => by simp [ndG] at h
  | c :: _, 0, _, h => ⟨c, List.mem_cons_self, h⟩
  | c :: t, i + 1, _, h => by
    obtain ⟨ch, h1, h2⟩ := ndG_mem (l := t) (i := i) h
    exact ⟨ch, List.mem_cons_of_mem _ h1, h2⟩
theorem ndH_mem : ∀ {l : List Jvm.Cond} {i : Nat} {w : Jvm.Cond}, ndH l i = some w → w ∈ l
  | [], _, _, h => by simp [ndH] at h
  | c :: _, 0, _, h => by simp [ndH] at h; simp [h]
  | c :: t, i + 1, _, h => List.mem_cons_of_mem _ (ndH_mem (l := t) (i := i) h)
theorem ndA_in {h : Nat} {w : Jvm.Cond} (hh : ndA h = some w) : w ∈ lw_tbl := by
  obtain ⟨ch, h1, h2⟩ := ndG_mem (ndH_mem hh)
  exact ndT_in ch h1 w h2
end
section
/-! which words of the tables the walk asks for, by numbers (by program: wip/pm/gen10.py) -/
def dG {α : Type} : List (List α) → Nat → List α
  | [], _ => []
  | c :: _, 0 => c
  | _ :: t, i + 1 => dG t i
def dH {α : Type} : List α → Nat → Option α
  | [], _ => none
  | c :: _, 0 => some c
  | _ :: t, i + 1 => dH t i
def dA {α : Type} (t : List (List α)) (h : Nat) : Option α := dH (dG t (h / 16)) (h % 16)
theorem dG_mem {α : Type} : ∀ {l : List (List α)} {i : Nat} {w : α}, w ∈ dG l i → ∃ ch ∈ l, w ∈ ch
  | [], _, _, h => by simp [dG] at h
  | c :: _, 0, _, h => ⟨c, List.mem_cons_self, h⟩
  | c :: t, i + 1, _, h => by
    obtain ⟨ch, h1, h2⟩ := dG_mem (l := t) (i := i) h
    exact ⟨ch, List.mem_cons_of_mem _ h1, h2⟩
theorem dH_mem {α : Type} : ∀ {l : List α} {i : Nat} {w : α}, dH l i = some w → w ∈ l
  | [], _, _, h => by simp [dH] at h
  | c :: _, 0, _, h => by simp [dH] at h; simp [h]
  | c :: t, i + 1, _, h => List.mem_cons_of_mem _ (dH_mem (l := t) (i := i) h)
theorem dA_all {α : Type} {P : α → Prop} {t : List (List α)} (ht : ∀ ch ∈ t, ∀ d ∈ ch, P d) {h : Nat} {d : α} (hh : dA t h = some d) : P d := by
  obtain ⟨ch, h1, h2⟩ := dG_mem (dH_mem hh)
  exact ht ch h1 d h2
def goods : List Jvm.Cond := lw_tbl.filter goodWord
theorem mem_goods {w : Jvm.Cond} (h : w ∈ lw_tbl) (hg : goodWord w = true) : w ∈ goods := List.mem_filter.mpr ⟨h, hg⟩
theorem in_g (h : Nat) {w : Jvm.Cond} (hh : ndA h = some w) (hg : goodWord w = true) : w ∈ goods := mem_goods (ndA_in hh) hg
def clQ (c : Nat) : vw_C := vwCl.getD c (RX0, TX0, 7)
def clC (c : Nat) : String := (clQ c).1
def clT (c : Nat) : u_T := (clQ c).2.1
def clN (c : Nat) : Nat := (clQ c).2.2
def clA (a : Nat) : String := if a < 13 then clC a else if a = 204 then RX4 else if a = 205 then RX5 else if a = 207 then RX7 else RJ0
def fW (d : Nat × Nat × Nat × Nat) : Jvm.Cond := .fieldLink (oC d.1) d.2.1 (clT d.2.2.1 d.2.2.2).1 (clT d.2.2.1 d.2.2.2).2.1 (clT d.2.2.1 d.2.2.2).2.2.1
def fN (d : Nat × Nat × Nat × Nat) : Jvm.Cond := .fieldLinkNest (oC d.1) d.2.1 (clT d.2.2.1 d.2.2.2).1 (clT d.2.2.1 d.2.2.2).2.1 (clT d.2.2.1 d.2.2.2).2.2.1 "StrengthHouse"
def mWd (d : Nat × Nat × Nat) : Jvm.Cond := .methodLink (oC d.1) d.2.1 (mY d.2.2)
def mNd (d : Nat × Nat × Nat) : Jvm.Cond := .methodLinkNest (oC d.1) d.2.1 (mY d.2.2) "StrengthHouse"
def cWd (d : Nat × Nat × Int) : Jvm.Cond := .constant (oC d.1) d.2.1 (Int32.ofInt d.2.2)
def lWd (d : Nat × Nat × Int) : Jvm.Cond := .constantLong (oC d.1) d.2.1 (Int64.ofInt d.2.2)
def kWd (d : Nat × Nat × Nat) : Jvm.Cond := .classLink (oC d.1) d.2.1 (clA d.2.2)
def sWd (d : Nat × Nat × Nat) : Jvm.Cond := match d.2.2 with
  | 1 => .fieldLink (oC d.1) d.2.1 "StrengthHouse$Piece" "ABOVE" "[I"
  | 2 => .fieldLink (oC d.1) d.2.1 "StrengthHouse$Voices" "BODIES" "[I"
  | 3 => .fieldLink (oC d.1) d.2.1 "java/lang/String" "COMPACT_STRINGS" "Z"
  | 4 => .fieldLink (oC d.1) d.2.1 "jdk/internal/util/Preconditions" "SIOOBE_FORMATTER" "Ljava/util/function/BiFunction;"
  | 5 => .fieldLink (oC d.1) d.2.1 "java/lang/String" "value" "[B"
  | 6 => .fieldLink (oC d.1) d.2.1 "java/lang/String" "coder" "B"
  | 7 => .methodLink (oC d.1) d.2.1 arraycopyName
  | _ => .methodLink (oC d.1) d.2.1 objectInit
def FD_0 : List (Nat × Nat × Nat × Nat) := [(2, 9, 2, 0), (2, 15, 2, 1), (2, 18, 2, 2), (2, 21, 2, 3), (0, 9, 0, 0), (0, 15, 0, 1), (0, 18, 0, 2), (0, 21, 0, 3), (0, 24, 0, 4), (0, 27, 0, 5), (0, 30, 0, 6), (6, 9, 6, 0), (6, 15, 6, 1), (6, 18, 6, 2), (6, 22, 6, 3), (6, 25, 6, 4)]
def FD_1 : List (Nat × Nat × Nat × Nat) := [(6, 28, 6, 5), (4, 9, 4, 0), (4, 15, 4, 1), (4, 18, 4, 2), (4, 21, 4, 3), (4, 25, 4, 4), (4, 31, 4, 5), (5, 9, 5, 0), (5, 15, 5, 1), (5, 19, 5, 2), (5, 22, 5, 3), (5, 26, 5, 4), (8, 11, 8, 0), (8, 17, 8, 1), (8, 23, 8, 2), (8, 28, 8, 3)]
def FD_2 : List (Nat × Nat × Nat × Nat) := [(8, 32, 8, 4), (8, 36, 8, 5), (8, 39, 8, 6), (8, 42, 8, 7), (8, 49, 8, 8), (8, 56, 8, 9), (8, 60, 8, 10), (8, 63, 8, 11), (10, 11, 10, 0), (10, 15, 10, 1), (10, 19, 10, 2), (10, 22, 10, 3), (10, 25, 10, 4), (10, 28, 10, 5), (10, 31, 10, 6), (10, 34, 10, 7)]
def FD_3 : List (Nat × Nat × Nat × Nat) := [(1, 11, 1, 0), (1, 18, 1, 1), (1, 25, 1, 2), (1, 29, 1, 3), (1, 33, 1, 4), (1, 36, 1, 5), (1, 39, 1, 6), (1, 42, 1, 7), (1, 45, 1, 8), (1, 48, 1, 9), (1, 51, 1, 10), (1, 54, 1, 11), (1, 57, 1, 12), (1, 60, 1, 13), (1, 64, 1, 14), (9, 9, 9, 0)]
def FD_4 : List (Nat × Nat × Nat × Nat) := [(9, 15, 9, 1), (9, 19, 9, 2), (9, 22, 9, 3), (3, 9, 3, 0), (3, 15, 3, 1), (3, 18, 3, 2), (7, 9, 7, 0), (7, 15, 7, 1), (7, 18, 7, 2), (11, 10, 11, 0), (11, 16, 11, 1), (11, 19, 11, 2), (11, 23, 11, 3), (11, 29, 11, 4), (11, 36, 11, 5), (11, 43, 11, 6)]
def FD_5 : List (Nat × Nat × Nat × Nat) := [(11, 50, 11, 7), (11, 57, 11, 8), (11, 64, 11, 9), (11, 68, 11, 10), (12, 9, 12, 0), (12, 13, 12, 1), (12, 351, 12, 2), (12, 16, 12, 3), (12, 20, 12, 4), (12, 37, 12, 5), (12, 143, 12, 6), (12, 139, 12, 7), (12, 149, 12, 8), (12, 171, 12, 9), (12, 41, 12, 10), (12, 189, 12, 11)]
def FD_6 : List (Nat × Nat × Nat × Nat) := [(12, 192, 12, 12), (12, 186, 12, 13), (12, 201, 12, 14), (12, 204, 12, 15), (12, 195, 12, 16), (12, 214, 12, 17), (12, 207, 12, 18), (12, 44, 12, 19), (12, 47, 12, 20), (12, 50, 12, 21), (12, 240, 12, 22), (12, 243, 12, 23), (12, 233, 12, 24), (12, 53, 12, 25), (12, 56, 12, 26), (12, 276, 12, 27)]
def FD_7 : List (Nat × Nat × Nat × Nat) := [(12, 59, 12, 28), (12, 62, 12, 29), (12, 65, 12, 30), (12, 321, 12, 31), (12, 324, 12, 32), (12, 333, 12, 33), (12, 68, 12, 34), (12, 71, 12, 35), (12, 74, 12, 36), (12, 77, 12, 37)]
def FDT : List (List (Nat × Nat × Nat × Nat)) := [FD_0, FD_1, FD_2, FD_3, FD_4, FD_5, FD_6, FD_7]
set_option maxRecDepth 100000 in
theorem FD_ok0 : ∀ d ∈ FD_0, fW d ∈ goods := List.forall_mem_cons.mpr ⟨in_g 126 rfl rfl, List.forall_mem_cons.mpr ⟨in_g 127 rfl rfl, List.forall_mem_cons.mpr ⟨in_g 128 rfl rfl, List.forall_mem_cons.mpr ⟨in_g 129 rfl rfl, List.forall_mem_cons.mpr ⟨in_g 147 rfl rfl, List.forall_mem_cons.mpr ⟨in_g 148 rfl rfl, List.forall_mem_cons.mpr ⟨in_g 149 rfl rfl, List.forall_mem_cons.mpr ⟨in_g 151 rfl rfl, List.forall_mem_cons.mpr ⟨in_g 153 rfl rfl, List.forall_mem_cons.mpr ⟨in_g 155 rfl rfl, List.forall_mem_cons.mpr ⟨in_g 157 rfl rfl, List.forall_mem_cons.mpr ⟨in_g 185 rfl rfl, List.forall_mem_cons.mpr ⟨in_g 186 rfl rfl, List.forall_mem_cons.mpr ⟨in_g 187 rfl rfl, List.forall_mem_cons.mpr ⟨in_g 191 rfl rfl, List.forall_mem_cons.mpr ⟨in_g 193 rfl rfl, fun _ h => by (cases h)⟩⟩⟩⟩⟩⟩⟩⟩⟩⟩⟩⟩⟩⟩⟩⟩
set_option maxRecDepth 100000 in
theorem FD_ok1 : ∀ d ∈ FD_1, fW d ∈ goods := List.forall_mem_cons.mpr ⟨in_g 195 rfl rfl, List.forall_mem_cons.mpr ⟨in_g 210 rfl rfl, List.forall_mem_cons.mpr ⟨in_g 213 rfl rfl, List.forall_mem_cons.mpr ⟨in_g 215 rfl rfl, List.forall_mem_cons.mpr ⟨in_g 218 rfl rfl, List.forall_mem_cons.mpr ⟨in_g 219 rfl rfl, List.forall_mem_cons.mpr ⟨in_g 221 rfl rfl, List.forall_mem_cons.mpr ⟨in_g 242 rfl rfl, List.forall_mem_cons.mpr ⟨in_g 245 rfl rfl, List.forall_mem_cons.mpr ⟨in_g 246 rfl rfl, List.forall_mem_cons.mpr ⟨in_g 247 rfl rfl, List.forall_mem_cons.mpr ⟨in_g 249 rfl rfl, List.forall_mem_cons.mpr ⟨in_g 263 rfl rfl, List.forall_mem_cons.mpr ⟨in_g 264 rfl rfl, List.forall_mem_cons.mpr ⟨in_g 265 rfl rfl, List.forall_mem_cons.mpr ⟨in_g 266 rfl rfl, fun _ h => by (cases h)⟩⟩⟩⟩⟩⟩⟩⟩⟩⟩⟩⟩⟩⟩⟩⟩
set_option maxRecDepth 100000 in
theorem FD_ok2 : ∀ d ∈ FD_2, fW d ∈ goods := List.forall_mem_cons.mpr ⟨in_g 267 rfl rfl, List.forall_mem_cons.mpr ⟨in_g 269 rfl rfl, List.forall_mem_cons.mpr ⟨in_g 271 rfl rfl, List.forall_mem_cons.mpr ⟨in_g 272 rfl rfl, List.forall_mem_cons.mpr ⟨in_g 274 rfl rfl, List.forall_mem_cons.mpr ⟨in_g 276 rfl rfl, List.forall_mem_cons.mpr ⟨in_g 278 rfl rfl, List.forall_mem_cons.mpr ⟨in_g 279 rfl rfl, List.forall_mem_cons.mpr ⟨in_g 314 rfl rfl, List.forall_mem_cons.mpr ⟨in_g 315 rfl rfl, List.forall_mem_cons.mpr ⟨in_g 316 rfl rfl, List.forall_mem_cons.mpr ⟨in_g 317 rfl rfl, List.forall_mem_cons.mpr ⟨in_g 319 rfl rfl, List.forall_mem_cons.mpr ⟨in_g 320 rfl rfl, List.forall_mem_cons.mpr ⟨in_g 321 rfl rfl, List.forall_mem_cons.mpr ⟨in_g 322 rfl rfl, fun _ h => by (cases h)⟩⟩⟩⟩⟩⟩⟩⟩⟩⟩⟩⟩⟩⟩⟩⟩
set_option maxRecDepth 100000 in
theorem FD_ok3 : ∀ d ∈ FD_3, fW d ∈ goods := List.forall_mem_cons.mpr ⟨in_g 351 rfl rfl, List.forall_mem_cons.mpr ⟨in_g 352 rfl rfl, List.forall_mem_cons.mpr ⟨in_g 354 rfl rfl, List.forall_mem_cons.mpr ⟨in_g 355 rfl rfl, List.forall_mem_cons.mpr ⟨in_g 356 rfl rfl, List.forall_mem_cons.mpr ⟨in_g 357 rfl rfl, List.forall_mem_cons.mpr ⟨in_g 358 rfl rfl, List.forall_mem_cons.mpr ⟨in_g 359 rfl rfl, List.forall_mem_cons.mpr ⟨in_g 360 rfl rfl, List.forall_mem_cons.mpr ⟨in_g 362 rfl rfl, List.forall_mem_cons.mpr ⟨in_g 363 rfl rfl, List.forall_mem_cons.mpr ⟨in_g 365 rfl rfl, List.forall_mem_cons.mpr ⟨in_g 368 rfl rfl, List.forall_mem_cons.mpr ⟨in_g 370 rfl rfl, List.forall_mem_cons.mpr ⟨in_g 371 rfl rfl, List.forall_mem_cons.mpr ⟨in_g 409 rfl rfl, fun _ h => by (cases h)⟩⟩⟩⟩⟩⟩⟩⟩⟩⟩⟩⟩⟩⟩⟩⟩
set_option maxRecDepth 100000 in
theorem FD_ok4 : ∀ d ∈ FD_4, fW d ∈ goods := List.forall_mem_cons.mpr ⟨in_g 410 rfl rfl, List.forall_mem_cons.mpr ⟨in_g 411 rfl rfl, List.forall_mem_cons.mpr ⟨in_g 412 rfl rfl, List.forall_mem_cons.mpr ⟨in_g 430 rfl rfl, List.forall_mem_cons.mpr ⟨in_g 431 rfl rfl, List.forall_mem_cons.mpr ⟨in_g 432 rfl rfl, List.forall_mem_cons.mpr ⟨in_g 447 rfl rfl, List.forall_mem_cons.mpr ⟨in_g 449 rfl rfl, List.forall_mem_cons.mpr ⟨in_g 450 rfl rfl, List.forall_mem_cons.mpr ⟨in_g 459 rfl rfl, List.forall_mem_cons.mpr ⟨in_g 460 rfl rfl, List.forall_mem_cons.mpr ⟨in_g 461 rfl rfl, List.forall_mem_cons.mpr ⟨in_g 462 rfl rfl, List.forall_mem_cons.mpr ⟨in_g 463 rfl rfl, List.forall_mem_cons.mpr ⟨in_g 464 rfl rfl, List.forall_mem_cons.mpr ⟨in_g 465 rfl rfl, fun _ h => by (cases h)⟩⟩⟩⟩⟩⟩⟩⟩⟩⟩⟩⟩⟩⟩⟩⟩
set_option maxRecDepth 100000 in
theorem FD_ok5 : ∀ d ∈ FD_5, fW d ∈ goods := List.forall_mem_cons.mpr ⟨in_g 466 rfl rfl, List.forall_mem_cons.mpr ⟨in_g 467 rfl rfl, List.forall_mem_cons.mpr ⟨in_g 468 rfl rfl, List.forall_mem_cons.mpr ⟨in_g 469 rfl rfl, List.forall_mem_cons.mpr ⟨in_g 1273 rfl rfl, List.forall_mem_cons.mpr ⟨in_g 1274 rfl rfl, List.forall_mem_cons.mpr ⟨in_g 1275 rfl rfl, List.forall_mem_cons.mpr ⟨in_g 1276 rfl rfl, List.forall_mem_cons.mpr ⟨in_g 1277 rfl rfl, List.forall_mem_cons.mpr ⟨in_g 1278 rfl rfl, List.forall_mem_cons.mpr ⟨in_g 1279 rfl rfl, List.forall_mem_cons.mpr ⟨in_g 1280 rfl rfl, List.forall_mem_cons.mpr ⟨in_g 1281 rfl rfl, List.forall_mem_cons.mpr ⟨in_g 1282 rfl rfl, List.forall_mem_cons.mpr ⟨in_g 1283 rfl rfl, List.forall_mem_cons.mpr ⟨in_g 1284 rfl rfl, fun _ h => by (cases h)⟩⟩⟩⟩⟩⟩⟩⟩⟩⟩⟩⟩⟩⟩⟩⟩
set_option maxRecDepth 100000 in
theorem FD_ok6 : ∀ d ∈ FD_6, fW d ∈ goods := List.forall_mem_cons.mpr ⟨in_g 1285 rfl rfl, List.forall_mem_cons.mpr ⟨in_g 1286 rfl rfl, List.forall_mem_cons.mpr ⟨in_g 1287 rfl rfl, List.forall_mem_cons.mpr ⟨in_g 1288 rfl rfl, List.forall_mem_cons.mpr ⟨in_g 1289 rfl rfl, List.forall_mem_cons.mpr ⟨in_g 1290 rfl rfl, List.forall_mem_cons.mpr ⟨in_g 1291 rfl rfl, List.forall_mem_cons.mpr ⟨in_g 1292 rfl rfl, List.forall_mem_cons.mpr ⟨in_g 1293 rfl rfl, List.forall_mem_cons.mpr ⟨in_g 1294 rfl rfl, List.forall_mem_cons.mpr ⟨in_g 1295 rfl rfl, List.forall_mem_cons.mpr ⟨in_g 1296 rfl rfl, List.forall_mem_cons.mpr ⟨in_g 1297 rfl rfl, List.forall_mem_cons.mpr ⟨in_g 1298 rfl rfl, List.forall_mem_cons.mpr ⟨in_g 1299 rfl rfl, List.forall_mem_cons.mpr ⟨in_g 1300 rfl rfl, fun _ h => by (cases h)⟩⟩⟩⟩⟩⟩⟩⟩⟩⟩⟩⟩⟩⟩⟩⟩
set_option maxRecDepth 100000 in
theorem FD_ok7 : ∀ d ∈ FD_7, fW d ∈ goods := List.forall_mem_cons.mpr ⟨in_g 1301 rfl rfl, List.forall_mem_cons.mpr ⟨in_g 1302 rfl rfl, List.forall_mem_cons.mpr ⟨in_g 1303 rfl rfl, List.forall_mem_cons.mpr ⟨in_g 1304 rfl rfl, List.forall_mem_cons.mpr ⟨in_g 1305 rfl rfl, List.forall_mem_cons.mpr ⟨in_g 1306 rfl rfl, List.forall_mem_cons.mpr ⟨in_g 1307 rfl rfl, List.forall_mem_cons.mpr ⟨in_g 1308 rfl rfl, List.forall_mem_cons.mpr ⟨in_g 1309 rfl rfl, List.forall_mem_cons.mpr ⟨in_g 1310 rfl rfl, fun _ h => by (cases h)⟩⟩⟩⟩⟩⟩⟩⟩⟩⟩
theorem FD_all : ∀ ch ∈ FDT, ∀ d ∈ ch, fW d ∈ goods := List.forall_mem_cons.mpr ⟨FD_ok0, List.forall_mem_cons.mpr ⟨FD_ok1, List.forall_mem_cons.mpr ⟨FD_ok2, List.forall_mem_cons.mpr ⟨FD_ok3, List.forall_mem_cons.mpr ⟨FD_ok4, List.forall_mem_cons.mpr ⟨FD_ok5, List.forall_mem_cons.mpr ⟨FD_ok6, List.forall_mem_cons.mpr ⟨FD_ok7, fun _ h => by (cases h)⟩⟩⟩⟩⟩⟩⟩⟩
def FN_0 : List (Nat × Nat × Nat × Nat) := [(11, 319, 0, 2), (11, 313, 0, 3), (11, 316, 0, 4), (11, 321, 0, 5), (11, 304, 0, 6), (11, 136, 6, 2), (8, 75, 6, 2), (1, 145, 6, 2), (11, 234, 6, 3), (11, 237, 6, 4), (11, 231, 6, 5), (10, 38, 4, 0), (11, 120, 4, 0), (11, 123, 4, 1), (10, 41, 4, 2), (11, 126, 4, 2)]
def FN_1 : List (Nat × Nat × Nat × Nat) := [(11, 129, 4, 4), (11, 132, 4, 5), (8, 71, 4, 5), (8, 68, 5, 0), (11, 198, 5, 0), (1, 71, 5, 3), (1, 87, 5, 4), (11, 202, 5, 4), (11, 186, 8, 4), (11, 175, 8, 5), (11, 222, 8, 7), (11, 282, 8, 8), (11, 300, 8, 9), (11, 386, 8, 11), (11, 357, 10, 3), (11, 354, 10, 7)]
def FN_2 : List (Nat × Nat × Nat × Nat) := [(11, 209, 1, 1), (8, 92, 1, 8), (8, 89, 1, 10), (11, 219, 1, 11), (8, 86, 1, 11), (8, 95, 1, 12), (0, 34, 3, 2), (11, 262, 3, 2), (11, 368, 7, 0), (11, 371, 7, 2)]
def FNT : List (List (Nat × Nat × Nat × Nat)) := [FN_0, FN_1, FN_2]
set_option maxRecDepth 100000 in
theorem FN_ok0 : ∀ d ∈ FN_0, fN d ∈ lw_tbl := List.forall_mem_cons.mpr ⟨ndA_in (h := 150) rfl, List.forall_mem_cons.mpr ⟨ndA_in (h := 152) rfl, List.forall_mem_cons.mpr ⟨ndA_in (h := 154) rfl, List.forall_mem_cons.mpr ⟨ndA_in (h := 156) rfl, List.forall_mem_cons.mpr ⟨ndA_in (h := 158) rfl, List.forall_mem_cons.mpr ⟨ndA_in (h := 188) rfl, List.forall_mem_cons.mpr ⟨ndA_in (h := 189) rfl, List.forall_mem_cons.mpr ⟨ndA_in (h := 190) rfl, List.forall_mem_cons.mpr ⟨ndA_in (h := 192) rfl, List.forall_mem_cons.mpr ⟨ndA_in (h := 194) rfl, List.forall_mem_cons.mpr ⟨ndA_in (h := 196) rfl, List.forall_mem_cons.mpr ⟨ndA_in (h := 211) rfl, List.forall_mem_cons.mpr ⟨ndA_in (h := 212) rfl, List.forall_mem_cons.mpr ⟨ndA_in (h := 214) rfl, List.forall_mem_cons.mpr ⟨ndA_in (h := 216) rfl, List.forall_mem_cons.mpr ⟨ndA_in (h := 217) rfl, fun _ h => by (cases h)⟩⟩⟩⟩⟩⟩⟩⟩⟩⟩⟩⟩⟩⟩⟩⟩
set_option maxRecDepth 100000 in
theorem FN_ok1 : ∀ d ∈ FN_1, fN d ∈ lw_tbl := List.forall_mem_cons.mpr ⟨ndA_in (h := 220) rfl, List.forall_mem_cons.mpr ⟨ndA_in (h := 222) rfl, List.forall_mem_cons.mpr ⟨ndA_in (h := 223) rfl, List.forall_mem_cons.mpr ⟨ndA_in (h := 243) rfl, List.forall_mem_cons.mpr ⟨ndA_in (h := 244) rfl, List.forall_mem_cons.mpr ⟨ndA_in (h := 248) rfl, List.forall_mem_cons.mpr ⟨ndA_in (h := 250) rfl, List.forall_mem_cons.mpr ⟨ndA_in (h := 251) rfl, List.forall_mem_cons.mpr ⟨ndA_in (h := 268) rfl, List.forall_mem_cons.mpr ⟨ndA_in (h := 270) rfl, List.forall_mem_cons.mpr ⟨ndA_in (h := 273) rfl, List.forall_mem_cons.mpr ⟨ndA_in (h := 275) rfl, List.forall_mem_cons.mpr ⟨ndA_in (h := 277) rfl, List.forall_mem_cons.mpr ⟨ndA_in (h := 280) rfl, List.forall_mem_cons.mpr ⟨ndA_in (h := 318) rfl, List.forall_mem_cons.mpr ⟨ndA_in (h := 323) rfl, fun _ h => by (cases h)⟩⟩⟩⟩⟩⟩⟩⟩⟩⟩⟩⟩⟩⟩⟩⟩
set_option maxRecDepth 100000 in
theorem FN_ok2 : ∀ d ∈ FN_2, fN d ∈ lw_tbl := List.forall_mem_cons.mpr ⟨ndA_in (h := 353) rfl, List.forall_mem_cons.mpr ⟨ndA_in (h := 361) rfl, List.forall_mem_cons.mpr ⟨ndA_in (h := 364) rfl, List.forall_mem_cons.mpr ⟨ndA_in (h := 366) rfl, List.forall_mem_cons.mpr ⟨ndA_in (h := 367) rfl, List.forall_mem_cons.mpr ⟨ndA_in (h := 369) rfl, List.forall_mem_cons.mpr ⟨ndA_in (h := 433) rfl, List.forall_mem_cons.mpr ⟨ndA_in (h := 434) rfl, List.forall_mem_cons.mpr ⟨ndA_in (h := 448) rfl, List.forall_mem_cons.mpr ⟨ndA_in (h := 451) rfl, fun _ h => by (cases h)⟩⟩⟩⟩⟩⟩⟩⟩⟩⟩
theorem FN_all : ∀ ch ∈ FNT, ∀ d ∈ ch, fN d ∈ lw_tbl := List.forall_mem_cons.mpr ⟨FN_ok0, List.forall_mem_cons.mpr ⟨FN_ok1, List.forall_mem_cons.mpr ⟨FN_ok2, fun _ h => by (cases h)⟩⟩⟩
def MD_0 : List (Nat × Nat × Nat) := [(13, 9, 115), (11, 9, 81), (13, 13, 116), (11, 72, 159), (11, 76, 166), (11, 80, 167), (11, 84, 157), (11, 88, 75), (11, 92, 79), (7, 31, 76), (7, 35, 77), (11, 95, 84), (11, 99, 39), (4, 35, 54), (11, 105, 77), (11, 108, 40)]
def MD_1 : List (Nat × Nat × Nat) := [(11, 112, 82), (13, 18, 117), (11, 116, 83), (11, 139, 60), (6, 38, 59), (6, 35, 57), (13, 23, 118), (11, 142, 42), (4, 41, 41), (13, 27, 119), (11, 145, 170), (11, 148, 44), (4, 45, 43), (4, 49, 45), (4, 52, 42), (4, 56, 271)]
def MD_2 : List (Nat × Nat × Nat) := [(13, 31, 120), (11, 151, 80), (11, 154, 54), (11, 157, 55), (13, 36, 121), (11, 161, 56), (11, 164, 57), (13, 40, 122), (11, 165, 88), (11, 169, 89), (11, 172, 90), (13, 46, 123), (11, 178, 91), (13, 51, 124), (11, 182, 85), (11, 190, 98)]
def MD_3 : List (Nat × Nat × Nat) := [(9, 25, 272), (9, 31, 271), (9, 34, 48), (9, 39, 104), (9, 87, 105), (9, 99, 106), (9, 83, 107), (9, 44, 103), (9, 91, 274), (14, 335, 276), (9, 95, 275), (14, 492, 277), (14, 495, 279), (15, 9, 278), (14, 1059, 280), (9, 48, 99)]
def MD_4 : List (Nat × Nat × Nat) := [(9, 56, 100), (9, 67, 101), (9, 60, 49), (9, 64, 102), (11, 194, 52), (13, 56, 125), (11, 205, 10), (1, 67, 11), (1, 90, 54), (1, 93, 89), (1, 76, 50), (1, 80, 51), (1, 83, 12), (1, 98, 13), (1, 102, 14), (1, 110, 18)]
def MD_5 : List (Nat × Nat × Nat) := [(1, 142, 44), (1, 106, 15), (1, 114, 16), (1, 134, 17), (1, 138, 42), (1, 117, 271), (1, 122, 43), (1, 125, 269), (1, 128, 19), (1, 148, 55), (1, 131, 20), (11, 212, 72), (11, 215, 92), (13, 60, 126), (11, 225, 93), (13, 64, 127)]
def MD_6 : List (Nat × Nat × Nat) := [(11, 228, 61), (6, 42, 62), (6, 31, 56), (6, 46, 63), (13, 68, 128), (11, 240, 64), (6, 50, 61), (11, 243, 158), (13, 72, 129), (11, 246, 69), (6, 54, 65), (6, 70, 64), (6, 73, 70), (6, 76, 66), (6, 81, 67), (6, 60, 68)]
def MD_7 : List (Nat × Nat × Nat) := [(6, 64, 271), (6, 85, 273), (13, 76, 130), (11, 249, 66), (13, 80, 131), (11, 252, 67), (13, 85, 132), (11, 256, 168), (13, 89, 133), (11, 259, 160), (11, 403, 30), (11, 404, 71), (11, 407, 31), (11, 263, 32), (13, 93, 134), (11, 266, 161)]
def MD_8 : List (Nat × Nat × Nat) := [(11, 269, 34), (3, 22, 35), (3, 26, 32), (13, 97, 135), (11, 272, 171), (11, 275, 36), (3, 32, 37), (13, 102, 136), (13, 106, 137), (11, 279, 169), (11, 286, 22), (13, 110, 138), (11, 293, 24), (2, 28, 25), (2, 38, 273), (2, 32, 23)]
def MD_9 : List (Nat × Nat × Nat) := [(11, 297, 26), (2, 44, 24), (13, 114, 139), (11, 307, 2), (0, 37, 32), (0, 41, 33), (13, 118, 140), (11, 310, 1), (13, 122, 141), (11, 324, 3), (0, 44, 1), (11, 327, 4), (13, 126, 142), (11, 330, 6), (13, 130, 143), (11, 333, 7)]
def MD_10 : List (Nat × Nat × Nat) := [(0, 48, 27), (13, 134, 144), (11, 337, 162), (11, 410, 163), (11, 413, 272), (13, 138, 145), (11, 342, 268), (11, 347, 164), (11, 418, 270), (13, 142, 146), (11, 350, 109), (10, 42, 111), (10, 52, 112), (10, 56, 41), (10, 60, 113), (10, 67, 114)]
def MD_11 : List (Nat × Nat × Nat) := [(13, 146, 147), (11, 358, 110), (13, 150, 148), (11, 361, 74), (7, 22, 272), (7, 28, 271), (13, 154, 149), (11, 363, 76), (11, 366, 78), (13, 158, 150), (13, 162, 151), (11, 380, 96), (8, 98, 46), (4, 72, 72), (8, 102, 52), (8, 111, 28)]
def MD_12 : List (Nat × Nat × Nat) := [(8, 114, 8), (13, 167, 152), (13, 171, 153), (11, 383, 94), (13, 175, 154), (11, 389, 165), (11, 421, 271), (11, 424, 95), (11, 427, 58), (13, 179, 155), (11, 393, 5), (11, 396, 86), (11, 399, 87), (13, 183, 156), (13, 12, 173), (13, 17, 181)]
def MD_13 : List (Nat × Nat × Nat) := [(12, 81, 175), (12, 85, 257), (12, 90, 174), (13, 22, 186), (12, 102, 176), (12, 106, 182), (12, 96, 180), (12, 109, 185), (12, 100, 184), (13, 26, 188), (12, 112, 187), (13, 30, 191), (12, 124, 190), (12, 116, 189), (12, 119, 271), (13, 35, 193)]
def MD_14 : List (Nat × Nat × Nat) := [(12, 128, 192), (13, 39, 194), (12, 131, 183), (13, 43, 195), (12, 134, 179), (13, 50, 196), (13, 55, 203), (12, 174, 202), (12, 161, 198), (12, 146, 197), (12, 177, 201), (12, 164, 199), (12, 153, 274), (12, 157, 275), (12, 168, 200), (13, 59, 211)]
def MD_15 : List (Nat × Nat × Nat) := [(12, 227, 204), (12, 230, 210), (12, 223, 209), (12, 210, 207), (12, 198, 205), (12, 217, 208), (12, 220, 206), (13, 63, 212), (13, 67, 215), (12, 246, 214), (12, 236, 213), (13, 71, 217), (12, 249, 216), (13, 75, 219), (12, 252, 218), (13, 79, 221)]
def MD_16 : List (Nat × Nat × Nat) := [(12, 257, 220), (13, 84, 223), (12, 260, 222), (13, 88, 226), (12, 270, 225), (12, 273, 224), (12, 266, 273), (13, 92, 230), (12, 279, 229), (12, 282, 228), (12, 285, 227), (13, 96, 232), (12, 288, 231), (13, 101, 235), (12, 293, 234), (12, 296, 233)]
def MD_17 : List (Nat × Nat × Nat) := [(13, 105, 236), (13, 109, 239), (12, 300, 237), (13, 113, 241), (12, 303, 238), (12, 306, 240), (13, 117, 243), (13, 121, 244), (12, 309, 242), (13, 125, 245), (13, 129, 246), (13, 133, 247), (13, 137, 248), (12, 312, 177), (13, 141, 249), (12, 315, 178)]
def MD_18 : List (Nat × Nat × Nat) := [(12, 318, 270), (13, 145, 255), (12, 343, 252), (12, 327, 253), (12, 330, 251), (12, 336, 254), (12, 339, 250), (13, 149, 256), (13, 153, 258), (13, 157, 259), (13, 161, 260), (13, 166, 262), (12, 347, 261), (13, 170, 263), (13, 174, 264), (13, 178, 265)]
def MD_19 : List (Nat × Nat × Nat) := [(13, 182, 266), (13, 186, 267)]
def MDT : List (List (Nat × Nat × Nat)) := [MD_0, MD_1, MD_2, MD_3, MD_4, MD_5, MD_6, MD_7, MD_8, MD_9, MD_10, MD_11, MD_12, MD_13, MD_14, MD_15, MD_16, MD_17, MD_18, MD_19]
set_option maxRecDepth 100000 in
theorem MD_ok0 : ∀ d ∈ MD_0, mWd d ∈ goods := List.forall_mem_cons.mpr ⟨in_g 103 rfl rfl, List.forall_mem_cons.mpr ⟨in_g 111 rfl rfl, List.forall_mem_cons.mpr ⟨in_g 493 rfl rfl, List.forall_mem_cons.mpr ⟨in_g 497 rfl rfl, List.forall_mem_cons.mpr ⟨in_g 501 rfl rfl, List.forall_mem_cons.mpr ⟨in_g 504 rfl rfl, List.forall_mem_cons.mpr ⟨in_g 507 rfl rfl, List.forall_mem_cons.mpr ⟨in_g 512 rfl rfl, List.forall_mem_cons.mpr ⟨in_g 516 rfl rfl, List.forall_mem_cons.mpr ⟨in_g 520 rfl rfl, List.forall_mem_cons.mpr ⟨in_g 524 rfl rfl, List.forall_mem_cons.mpr ⟨in_g 529 rfl rfl, List.forall_mem_cons.mpr ⟨in_g 533 rfl rfl, List.forall_mem_cons.mpr ⟨in_g 537 rfl rfl, List.forall_mem_cons.mpr ⟨in_g 541 rfl rfl, List.forall_mem_cons.mpr ⟨in_g 542 rfl rfl, fun _ h => by (cases h)⟩⟩⟩⟩⟩⟩⟩⟩⟩⟩⟩⟩⟩⟩⟩⟩
set_option maxRecDepth 100000 in
theorem MD_ok1 : ∀ d ∈ MD_1, mWd d ∈ goods := List.forall_mem_cons.mpr ⟨in_g 546 rfl rfl, List.forall_mem_cons.mpr ⟨in_g 550 rfl rfl, List.forall_mem_cons.mpr ⟨in_g 554 rfl rfl, List.forall_mem_cons.mpr ⟨in_g 558 rfl rfl, List.forall_mem_cons.mpr ⟨in_g 562 rfl rfl, List.forall_mem_cons.mpr ⟨in_g 566 rfl rfl, List.forall_mem_cons.mpr ⟨in_g 570 rfl rfl, List.forall_mem_cons.mpr ⟨in_g 574 rfl rfl, List.forall_mem_cons.mpr ⟨in_g 578 rfl rfl, List.forall_mem_cons.mpr ⟨in_g 583 rfl rfl, List.forall_mem_cons.mpr ⟨in_g 587 rfl rfl, List.forall_mem_cons.mpr ⟨in_g 590 rfl rfl, List.forall_mem_cons.mpr ⟨in_g 594 rfl rfl, List.forall_mem_cons.mpr ⟨in_g 598 rfl rfl, List.forall_mem_cons.mpr ⟨in_g 605 rfl rfl, List.forall_mem_cons.mpr ⟨in_g 606 rfl rfl, fun _ h => by (cases h)⟩⟩⟩⟩⟩⟩⟩⟩⟩⟩⟩⟩⟩⟩⟩⟩
set_option maxRecDepth 100000 in
theorem MD_ok2 : ∀ d ∈ MD_2, mWd d ∈ goods := List.forall_mem_cons.mpr ⟨in_g 609 rfl rfl, List.forall_mem_cons.mpr ⟨in_g 613 rfl rfl, List.forall_mem_cons.mpr ⟨in_g 618 rfl rfl, List.forall_mem_cons.mpr ⟨in_g 619 rfl rfl, List.forall_mem_cons.mpr ⟨in_g 623 rfl rfl, List.forall_mem_cons.mpr ⟨in_g 627 rfl rfl, List.forall_mem_cons.mpr ⟨in_g 631 rfl rfl, List.forall_mem_cons.mpr ⟨in_g 632 rfl rfl, List.forall_mem_cons.mpr ⟨in_g 636 rfl rfl, List.forall_mem_cons.mpr ⟨in_g 640 rfl rfl, List.forall_mem_cons.mpr ⟨in_g 644 rfl rfl, List.forall_mem_cons.mpr ⟨in_g 648 rfl rfl, List.forall_mem_cons.mpr ⟨in_g 652 rfl rfl, List.forall_mem_cons.mpr ⟨in_g 656 rfl rfl, List.forall_mem_cons.mpr ⟨in_g 660 rfl rfl, List.forall_mem_cons.mpr ⟨in_g 664 rfl rfl, fun _ h => by (cases h)⟩⟩⟩⟩⟩⟩⟩⟩⟩⟩⟩⟩⟩⟩⟩⟩
set_option maxRecDepth 100000 in
theorem MD_ok3 : ∀ d ∈ MD_3, mWd d ∈ goods := List.forall_mem_cons.mpr ⟨in_g 668 rfl rfl, List.forall_mem_cons.mpr ⟨in_g 671 rfl rfl, List.forall_mem_cons.mpr ⟨in_g 672 rfl rfl, List.forall_mem_cons.mpr ⟨in_g 676 rfl rfl, List.forall_mem_cons.mpr ⟨in_g 680 rfl rfl, List.forall_mem_cons.mpr ⟨in_g 684 rfl rfl, List.forall_mem_cons.mpr ⟨in_g 689 rfl rfl, List.forall_mem_cons.mpr ⟨in_g 694 rfl rfl, List.forall_mem_cons.mpr ⟨in_g 698 rfl rfl, List.forall_mem_cons.mpr ⟨in_g 702 rfl rfl, List.forall_mem_cons.mpr ⟨in_g 708 rfl rfl, List.forall_mem_cons.mpr ⟨in_g 712 rfl rfl, List.forall_mem_cons.mpr ⟨in_g 716 rfl rfl, List.forall_mem_cons.mpr ⟨in_g 719 rfl rfl, List.forall_mem_cons.mpr ⟨in_g 724 rfl rfl, List.forall_mem_cons.mpr ⟨in_g 746 rfl rfl, fun _ h => by (cases h)⟩⟩⟩⟩⟩⟩⟩⟩⟩⟩⟩⟩⟩⟩⟩⟩
set_option maxRecDepth 100000 in
theorem MD_ok4 : ∀ d ∈ MD_4, mWd d ∈ goods := List.forall_mem_cons.mpr ⟨in_g 750 rfl rfl, List.forall_mem_cons.mpr ⟨in_g 754 rfl rfl, List.forall_mem_cons.mpr ⟨in_g 763 rfl rfl, List.forall_mem_cons.mpr ⟨in_g 767 rfl rfl, List.forall_mem_cons.mpr ⟨in_g 773 rfl rfl, List.forall_mem_cons.mpr ⟨in_g 780 rfl rfl, List.forall_mem_cons.mpr ⟨in_g 784 rfl rfl, List.forall_mem_cons.mpr ⟨in_g 788 rfl rfl, List.forall_mem_cons.mpr ⟨in_g 792 rfl rfl, List.forall_mem_cons.mpr ⟨in_g 793 rfl rfl, List.forall_mem_cons.mpr ⟨in_g 794 rfl rfl, List.forall_mem_cons.mpr ⟨in_g 798 rfl rfl, List.forall_mem_cons.mpr ⟨in_g 802 rfl rfl, List.forall_mem_cons.mpr ⟨in_g 806 rfl rfl, List.forall_mem_cons.mpr ⟨in_g 809 rfl rfl, List.forall_mem_cons.mpr ⟨in_g 813 rfl rfl, fun _ h => by (cases h)⟩⟩⟩⟩⟩⟩⟩⟩⟩⟩⟩⟩⟩⟩⟩⟩
set_option maxRecDepth 100000 in
theorem MD_ok5 : ∀ d ∈ MD_5, mWd d ∈ goods := List.forall_mem_cons.mpr ⟨in_g 817 rfl rfl, List.forall_mem_cons.mpr ⟨in_g 818 rfl rfl, List.forall_mem_cons.mpr ⟨in_g 822 rfl rfl, List.forall_mem_cons.mpr ⟨in_g 826 rfl rfl, List.forall_mem_cons.mpr ⟨in_g 830 rfl rfl, List.forall_mem_cons.mpr ⟨in_g 831 rfl rfl, List.forall_mem_cons.mpr ⟨in_g 832 rfl rfl, List.forall_mem_cons.mpr ⟨in_g 833 rfl rfl, List.forall_mem_cons.mpr ⟨in_g 836 rfl rfl, List.forall_mem_cons.mpr ⟨in_g 840 rfl rfl, List.forall_mem_cons.mpr ⟨in_g 841 rfl rfl, List.forall_mem_cons.mpr ⟨in_g 845 rfl rfl, List.forall_mem_cons.mpr ⟨in_g 850 rfl rfl, List.forall_mem_cons.mpr ⟨in_g 854 rfl rfl, List.forall_mem_cons.mpr ⟨in_g 858 rfl rfl, List.forall_mem_cons.mpr ⟨in_g 862 rfl rfl, fun _ h => by (cases h)⟩⟩⟩⟩⟩⟩⟩⟩⟩⟩⟩⟩⟩⟩⟩⟩
set_option maxRecDepth 100000 in
theorem MD_ok6 : ∀ d ∈ MD_6, mWd d ∈ goods := List.forall_mem_cons.mpr ⟨in_g 866 rfl rfl, List.forall_mem_cons.mpr ⟨in_g 870 rfl rfl, List.forall_mem_cons.mpr ⟨in_g 874 rfl rfl, List.forall_mem_cons.mpr ⟨in_g 875 rfl rfl, List.forall_mem_cons.mpr ⟨in_g 879 rfl rfl, List.forall_mem_cons.mpr ⟨in_g 883 rfl rfl, List.forall_mem_cons.mpr ⟨in_g 887 rfl rfl, List.forall_mem_cons.mpr ⟨in_g 888 rfl rfl, List.forall_mem_cons.mpr ⟨in_g 892 rfl rfl, List.forall_mem_cons.mpr ⟨in_g 896 rfl rfl, List.forall_mem_cons.mpr ⟨in_g 900 rfl rfl, List.forall_mem_cons.mpr ⟨in_g 904 rfl rfl, List.forall_mem_cons.mpr ⟨in_g 905 rfl rfl, List.forall_mem_cons.mpr ⟨in_g 909 rfl rfl, List.forall_mem_cons.mpr ⟨in_g 915 rfl rfl, List.forall_mem_cons.mpr ⟨in_g 919 rfl rfl, fun _ h => by (cases h)⟩⟩⟩⟩⟩⟩⟩⟩⟩⟩⟩⟩⟩⟩⟩⟩
set_option maxRecDepth 100000 in
theorem MD_ok7 : ∀ d ∈ MD_7, mWd d ∈ goods := List.forall_mem_cons.mpr ⟨in_g 923 rfl rfl, List.forall_mem_cons.mpr ⟨in_g 924 rfl rfl, List.forall_mem_cons.mpr ⟨in_g 927 rfl rfl, List.forall_mem_cons.mpr ⟨in_g 931 rfl rfl, List.forall_mem_cons.mpr ⟨in_g 932 rfl rfl, List.forall_mem_cons.mpr ⟨in_g 936 rfl rfl, List.forall_mem_cons.mpr ⟨in_g 937 rfl rfl, List.forall_mem_cons.mpr ⟨in_g 941 rfl rfl, List.forall_mem_cons.mpr ⟨in_g 944 rfl rfl, List.forall_mem_cons.mpr ⟨in_g 948 rfl rfl, List.forall_mem_cons.mpr ⟨in_g 952 rfl rfl, List.forall_mem_cons.mpr ⟨in_g 956 rfl rfl, List.forall_mem_cons.mpr ⟨in_g 961 rfl rfl, List.forall_mem_cons.mpr ⟨in_g 965 rfl rfl, List.forall_mem_cons.mpr ⟨in_g 969 rfl rfl, List.forall_mem_cons.mpr ⟨in_g 973 rfl rfl, fun _ h => by (cases h)⟩⟩⟩⟩⟩⟩⟩⟩⟩⟩⟩⟩⟩⟩⟩⟩
set_option maxRecDepth 100000 in
theorem MD_ok8 : ∀ d ∈ MD_8, mWd d ∈ goods := List.forall_mem_cons.mpr ⟨in_g 977 rfl rfl, List.forall_mem_cons.mpr ⟨in_g 981 rfl rfl, List.forall_mem_cons.mpr ⟨in_g 985 rfl rfl, List.forall_mem_cons.mpr ⟨in_g 987 rfl rfl, List.forall_mem_cons.mpr ⟨in_g 991 rfl rfl, List.forall_mem_cons.mpr ⟨in_g 994 rfl rfl, List.forall_mem_cons.mpr ⟨in_g 997 rfl rfl, List.forall_mem_cons.mpr ⟨in_g 1001 rfl rfl, List.forall_mem_cons.mpr ⟨in_g 1005 rfl rfl, List.forall_mem_cons.mpr ⟨in_g 1009 rfl rfl, List.forall_mem_cons.mpr ⟨in_g 1012 rfl rfl, List.forall_mem_cons.mpr ⟨in_g 1017 rfl rfl, List.forall_mem_cons.mpr ⟨in_g 1022 rfl rfl, List.forall_mem_cons.mpr ⟨in_g 1026 rfl rfl, List.forall_mem_cons.mpr ⟨in_g 1031 rfl rfl, List.forall_mem_cons.mpr ⟨in_g 1032 rfl rfl, fun _ h => by (cases h)⟩⟩⟩⟩⟩⟩⟩⟩⟩⟩⟩⟩⟩⟩⟩⟩
set_option maxRecDepth 100000 in
theorem MD_ok9 : ∀ d ∈ MD_9, mWd d ∈ goods := List.forall_mem_cons.mpr ⟨in_g 1036 rfl rfl, List.forall_mem_cons.mpr ⟨in_g 1040 rfl rfl, List.forall_mem_cons.mpr ⟨in_g 1041 rfl rfl, List.forall_mem_cons.mpr ⟨in_g 1045 rfl rfl, List.forall_mem_cons.mpr ⟨in_g 1049 rfl rfl, List.forall_mem_cons.mpr ⟨in_g 1050 rfl rfl, List.forall_mem_cons.mpr ⟨in_g 1054 rfl rfl, List.forall_mem_cons.mpr ⟨in_g 1058 rfl rfl, List.forall_mem_cons.mpr ⟨in_g 1062 rfl rfl, List.forall_mem_cons.mpr ⟨in_g 1066 rfl rfl, List.forall_mem_cons.mpr ⟨in_g 1070 rfl rfl, List.forall_mem_cons.mpr ⟨in_g 1071 rfl rfl, List.forall_mem_cons.mpr ⟨in_g 1075 rfl rfl, List.forall_mem_cons.mpr ⟨in_g 1079 rfl rfl, List.forall_mem_cons.mpr ⟨in_g 1083 rfl rfl, List.forall_mem_cons.mpr ⟨in_g 1087 rfl rfl, fun _ h => by (cases h)⟩⟩⟩⟩⟩⟩⟩⟩⟩⟩⟩⟩⟩⟩⟩⟩
set_option maxRecDepth 100000 in
theorem MD_ok10 : ∀ d ∈ MD_10, mWd d ∈ goods := List.forall_mem_cons.mpr ⟨in_g 1091 rfl rfl, List.forall_mem_cons.mpr ⟨in_g 1095 rfl rfl, List.forall_mem_cons.mpr ⟨in_g 1099 rfl rfl, List.forall_mem_cons.mpr ⟨in_g 1104 rfl rfl, List.forall_mem_cons.mpr ⟨in_g 1107 rfl rfl, List.forall_mem_cons.mpr ⟨in_g 1108 rfl rfl, List.forall_mem_cons.mpr ⟨in_g 1112 rfl rfl, List.forall_mem_cons.mpr ⟨in_g 1118 rfl rfl, List.forall_mem_cons.mpr ⟨in_g 1121 rfl rfl, List.forall_mem_cons.mpr ⟨in_g 1124 rfl rfl, List.forall_mem_cons.mpr ⟨in_g 1128 rfl rfl, List.forall_mem_cons.mpr ⟨in_g 1132 rfl rfl, List.forall_mem_cons.mpr ⟨in_g 1136 rfl rfl, List.forall_mem_cons.mpr ⟨in_g 1141 rfl rfl, List.forall_mem_cons.mpr ⟨in_g 1142 rfl rfl, List.forall_mem_cons.mpr ⟨in_g 1146 rfl rfl, fun _ h => by (cases h)⟩⟩⟩⟩⟩⟩⟩⟩⟩⟩⟩⟩⟩⟩⟩⟩
set_option maxRecDepth 100000 in
theorem MD_ok11 : ∀ d ∈ MD_11, mWd d ∈ goods := List.forall_mem_cons.mpr ⟨in_g 1151 rfl rfl, List.forall_mem_cons.mpr ⟨in_g 1155 rfl rfl, List.forall_mem_cons.mpr ⟨in_g 1159 rfl rfl, List.forall_mem_cons.mpr ⟨in_g 1163 rfl rfl, List.forall_mem_cons.mpr ⟨in_g 1167 rfl rfl, List.forall_mem_cons.mpr ⟨in_g 1168 rfl rfl, List.forall_mem_cons.mpr ⟨in_g 1169 rfl rfl, List.forall_mem_cons.mpr ⟨in_g 1173 rfl rfl, List.forall_mem_cons.mpr ⟨in_g 1174 rfl rfl, List.forall_mem_cons.mpr ⟨in_g 1178 rfl rfl, List.forall_mem_cons.mpr ⟨in_g 1183 rfl rfl, List.forall_mem_cons.mpr ⟨in_g 1187 rfl rfl, List.forall_mem_cons.mpr ⟨in_g 1191 rfl rfl, List.forall_mem_cons.mpr ⟨in_g 1196 rfl rfl, List.forall_mem_cons.mpr ⟨in_g 1197 rfl rfl, List.forall_mem_cons.mpr ⟨in_g 1199 rfl rfl, fun _ h => by (cases h)⟩⟩⟩⟩⟩⟩⟩⟩⟩⟩⟩⟩⟩⟩⟩⟩
set_option maxRecDepth 100000 in
theorem MD_ok12 : ∀ d ∈ MD_12, mWd d ∈ goods := List.forall_mem_cons.mpr ⟨in_g 1204 rfl rfl, List.forall_mem_cons.mpr ⟨in_g 1209 rfl rfl, List.forall_mem_cons.mpr ⟨in_g 1213 rfl rfl, List.forall_mem_cons.mpr ⟨in_g 1217 rfl rfl, List.forall_mem_cons.mpr ⟨in_g 1221 rfl rfl, List.forall_mem_cons.mpr ⟨in_g 1225 rfl rfl, List.forall_mem_cons.mpr ⟨in_g 1229 rfl rfl, List.forall_mem_cons.mpr ⟨in_g 1230 rfl rfl, List.forall_mem_cons.mpr ⟨in_g 1234 rfl rfl, List.forall_mem_cons.mpr ⟨in_g 1238 rfl rfl, List.forall_mem_cons.mpr ⟨in_g 1242 rfl rfl, List.forall_mem_cons.mpr ⟨in_g 1246 rfl rfl, List.forall_mem_cons.mpr ⟨in_g 1250 rfl rfl, List.forall_mem_cons.mpr ⟨in_g 1254 rfl rfl, List.forall_mem_cons.mpr ⟨in_g 1260 rfl rfl, List.forall_mem_cons.mpr ⟨in_g 1388 rfl rfl, fun _ h => by (cases h)⟩⟩⟩⟩⟩⟩⟩⟩⟩⟩⟩⟩⟩⟩⟩⟩
set_option maxRecDepth 100000 in
theorem MD_ok13 : ∀ d ∈ MD_13, mWd d ∈ goods := List.forall_mem_cons.mpr ⟨in_g 1392 rfl rfl, List.forall_mem_cons.mpr ⟨in_g 1395 rfl rfl, List.forall_mem_cons.mpr ⟨in_g 1399 rfl rfl, List.forall_mem_cons.mpr ⟨in_g 1406 rfl rfl, List.forall_mem_cons.mpr ⟨in_g 1410 rfl rfl, List.forall_mem_cons.mpr ⟨in_g 1414 rfl rfl, List.forall_mem_cons.mpr ⟨in_g 1418 rfl rfl, List.forall_mem_cons.mpr ⟨in_g 1422 rfl rfl, List.forall_mem_cons.mpr ⟨in_g 1426 rfl rfl, List.forall_mem_cons.mpr ⟨in_g 1430 rfl rfl, List.forall_mem_cons.mpr ⟨in_g 1434 rfl rfl, List.forall_mem_cons.mpr ⟨in_g 1438 rfl rfl, List.forall_mem_cons.mpr ⟨in_g 1442 rfl rfl, List.forall_mem_cons.mpr ⟨in_g 1446 rfl rfl, List.forall_mem_cons.mpr ⟨in_g 1450 rfl rfl, List.forall_mem_cons.mpr ⟨in_g 1451 rfl rfl, fun _ h => by (cases h)⟩⟩⟩⟩⟩⟩⟩⟩⟩⟩⟩⟩⟩⟩⟩⟩
set_option maxRecDepth 100000 in
theorem MD_ok14 : ∀ d ∈ MD_14, mWd d ∈ goods := List.forall_mem_cons.mpr ⟨in_g 1456 rfl rfl, List.forall_mem_cons.mpr ⟨in_g 1460 rfl rfl, List.forall_mem_cons.mpr ⟨in_g 1464 rfl rfl, List.forall_mem_cons.mpr ⟨in_g 1468 rfl rfl, List.forall_mem_cons.mpr ⟨in_g 1472 rfl rfl, List.forall_mem_cons.mpr ⟨in_g 1476 rfl rfl, List.forall_mem_cons.mpr ⟨in_g 1481 rfl rfl, List.forall_mem_cons.mpr ⟨in_g 1485 rfl rfl, List.forall_mem_cons.mpr ⟨in_g 1489 rfl rfl, List.forall_mem_cons.mpr ⟨in_g 1493 rfl rfl, List.forall_mem_cons.mpr ⟨in_g 1497 rfl rfl, List.forall_mem_cons.mpr ⟨in_g 1501 rfl rfl, List.forall_mem_cons.mpr ⟨in_g 1505 rfl rfl, List.forall_mem_cons.mpr ⟨in_g 1506 rfl rfl, List.forall_mem_cons.mpr ⟨in_g 1507 rfl rfl, List.forall_mem_cons.mpr ⟨in_g 1514 rfl rfl, fun _ h => by (cases h)⟩⟩⟩⟩⟩⟩⟩⟩⟩⟩⟩⟩⟩⟩⟩⟩
set_option maxRecDepth 100000 in
theorem MD_ok15 : ∀ d ∈ MD_15, mWd d ∈ goods := List.forall_mem_cons.mpr ⟨in_g 1518 rfl rfl, List.forall_mem_cons.mpr ⟨in_g 1522 rfl rfl, List.forall_mem_cons.mpr ⟨in_g 1526 rfl rfl, List.forall_mem_cons.mpr ⟨in_g 1530 rfl rfl, List.forall_mem_cons.mpr ⟨in_g 1534 rfl rfl, List.forall_mem_cons.mpr ⟨in_g 1538 rfl rfl, List.forall_mem_cons.mpr ⟨in_g 1542 rfl rfl, List.forall_mem_cons.mpr ⟨in_g 1546 rfl rfl, List.forall_mem_cons.mpr ⟨in_g 1550 rfl rfl, List.forall_mem_cons.mpr ⟨in_g 1554 rfl rfl, List.forall_mem_cons.mpr ⟨in_g 1558 rfl rfl, List.forall_mem_cons.mpr ⟨in_g 1562 rfl rfl, List.forall_mem_cons.mpr ⟨in_g 1566 rfl rfl, List.forall_mem_cons.mpr ⟨in_g 1570 rfl rfl, List.forall_mem_cons.mpr ⟨in_g 1574 rfl rfl, List.forall_mem_cons.mpr ⟨in_g 1578 rfl rfl, fun _ h => by (cases h)⟩⟩⟩⟩⟩⟩⟩⟩⟩⟩⟩⟩⟩⟩⟩⟩
set_option maxRecDepth 100000 in
theorem MD_ok16 : ∀ d ∈ MD_16, mWd d ∈ goods := List.forall_mem_cons.mpr ⟨in_g 1582 rfl rfl, List.forall_mem_cons.mpr ⟨in_g 1587 rfl rfl, List.forall_mem_cons.mpr ⟨in_g 1591 rfl rfl, List.forall_mem_cons.mpr ⟨in_g 1595 rfl rfl, List.forall_mem_cons.mpr ⟨in_g 1599 rfl rfl, List.forall_mem_cons.mpr ⟨in_g 1602 rfl rfl, List.forall_mem_cons.mpr ⟨in_g 1607 rfl rfl, List.forall_mem_cons.mpr ⟨in_g 1608 rfl rfl, List.forall_mem_cons.mpr ⟨in_g 1612 rfl rfl, List.forall_mem_cons.mpr ⟨in_g 1615 rfl rfl, List.forall_mem_cons.mpr ⟨in_g 1619 rfl rfl, List.forall_mem_cons.mpr ⟨in_g 1623 rfl rfl, List.forall_mem_cons.mpr ⟨in_g 1627 rfl rfl, List.forall_mem_cons.mpr ⟨in_g 1631 rfl rfl, List.forall_mem_cons.mpr ⟨in_g 1635 rfl rfl, List.forall_mem_cons.mpr ⟨in_g 1638 rfl rfl, fun _ h => by (cases h)⟩⟩⟩⟩⟩⟩⟩⟩⟩⟩⟩⟩⟩⟩⟩⟩
set_option maxRecDepth 100000 in
theorem MD_ok17 : ∀ d ∈ MD_17, mWd d ∈ goods := List.forall_mem_cons.mpr ⟨in_g 1642 rfl rfl, List.forall_mem_cons.mpr ⟨in_g 1646 rfl rfl, List.forall_mem_cons.mpr ⟨in_g 1650 rfl rfl, List.forall_mem_cons.mpr ⟨in_g 1653 rfl rfl, List.forall_mem_cons.mpr ⟨in_g 1657 rfl rfl, List.forall_mem_cons.mpr ⟨in_g 1661 rfl rfl, List.forall_mem_cons.mpr ⟨in_g 1665 rfl rfl, List.forall_mem_cons.mpr ⟨in_g 1669 rfl rfl, List.forall_mem_cons.mpr ⟨in_g 1673 rfl rfl, List.forall_mem_cons.mpr ⟨in_g 1677 rfl rfl, List.forall_mem_cons.mpr ⟨in_g 1681 rfl rfl, List.forall_mem_cons.mpr ⟨in_g 1685 rfl rfl, List.forall_mem_cons.mpr ⟨in_g 1689 rfl rfl, List.forall_mem_cons.mpr ⟨in_g 1693 rfl rfl, List.forall_mem_cons.mpr ⟨in_g 1696 rfl rfl, List.forall_mem_cons.mpr ⟨in_g 1700 rfl rfl, fun _ h => by (cases h)⟩⟩⟩⟩⟩⟩⟩⟩⟩⟩⟩⟩⟩⟩⟩⟩
set_option maxRecDepth 100000 in
theorem MD_ok18 : ∀ d ∈ MD_18, mWd d ∈ goods := List.forall_mem_cons.mpr ⟨in_g 1703 rfl rfl, List.forall_mem_cons.mpr ⟨in_g 1704 rfl rfl, List.forall_mem_cons.mpr ⟨in_g 1708 rfl rfl, List.forall_mem_cons.mpr ⟨in_g 1712 rfl rfl, List.forall_mem_cons.mpr ⟨in_g 1716 rfl rfl, List.forall_mem_cons.mpr ⟨in_g 1719 rfl rfl, List.forall_mem_cons.mpr ⟨in_g 1723 rfl rfl, List.forall_mem_cons.mpr ⟨in_g 1728 rfl rfl, List.forall_mem_cons.mpr ⟨in_g 1732 rfl rfl, List.forall_mem_cons.mpr ⟨in_g 1736 rfl rfl, List.forall_mem_cons.mpr ⟨in_g 1740 rfl rfl, List.forall_mem_cons.mpr ⟨in_g 1744 rfl rfl, List.forall_mem_cons.mpr ⟨in_g 1748 rfl rfl, List.forall_mem_cons.mpr ⟨in_g 1751 rfl rfl, List.forall_mem_cons.mpr ⟨in_g 1755 rfl rfl, List.forall_mem_cons.mpr ⟨in_g 1759 rfl rfl, fun _ h => by (cases h)⟩⟩⟩⟩⟩⟩⟩⟩⟩⟩⟩⟩⟩⟩⟩⟩
set_option maxRecDepth 100000 in
theorem MD_ok19 : ∀ d ∈ MD_19, mWd d ∈ goods := List.forall_mem_cons.mpr ⟨in_g 1763 rfl rfl, List.forall_mem_cons.mpr ⟨in_g 1767 rfl rfl, fun _ h => by (cases h)⟩⟩
theorem MD_all : ∀ ch ∈ MDT, ∀ d ∈ ch, mWd d ∈ goods := List.forall_mem_cons.mpr ⟨MD_ok0, List.forall_mem_cons.mpr ⟨MD_ok1, List.forall_mem_cons.mpr ⟨MD_ok2, List.forall_mem_cons.mpr ⟨MD_ok3, List.forall_mem_cons.mpr ⟨MD_ok4, List.forall_mem_cons.mpr ⟨MD_ok5, List.forall_mem_cons.mpr ⟨MD_ok6, List.forall_mem_cons.mpr ⟨MD_ok7, List.forall_mem_cons.mpr ⟨MD_ok8, List.forall_mem_cons.mpr ⟨MD_ok9, List.forall_mem_cons.mpr ⟨MD_ok10, List.forall_mem_cons.mpr ⟨MD_ok11, List.forall_mem_cons.mpr ⟨MD_ok12, List.forall_mem_cons.mpr ⟨MD_ok13, List.forall_mem_cons.mpr ⟨MD_ok14, List.forall_mem_cons.mpr ⟨MD_ok15, List.forall_mem_cons.mpr ⟨MD_ok16, List.forall_mem_cons.mpr ⟨MD_ok17, List.forall_mem_cons.mpr ⟨MD_ok18, List.forall_mem_cons.mpr ⟨MD_ok19, fun _ h => by (cases h)⟩⟩⟩⟩⟩⟩⟩⟩⟩⟩⟩⟩⟩⟩⟩⟩⟩⟩⟩⟩
def MN_0 : List (Nat × Nat × Nat) := [(8, 48, 21), (8, 55, 0), (8, 66, 38), (4, 30, 53), (8, 67, 47), (11, 35, 108), (11, 42, 9), (1, 17, 53), (1, 24, 38), (11, 49, 97), (11, 56, 47), (11, 63, 29), (11, 71, 73), (7, 39, 166), (4, 62, 172), (8, 80, 166)]
def MN_1 : List (Nat × Nat × Nat) := [(9, 102, 166), (6, 89, 172), (2, 24, 169)]
def MNT : List (List (Nat × Nat × Nat)) := [MN_0, MN_1]
set_option maxRecDepth 100000 in
theorem MN_ok0 : ∀ d ∈ MN_0, mNd d ∈ lw_tbl := List.forall_mem_cons.mpr ⟨ndA_in (h := 122) rfl, List.forall_mem_cons.mpr ⟨ndA_in (h := 143) rfl, List.forall_mem_cons.mpr ⟨ndA_in (h := 175) rfl, List.forall_mem_cons.mpr ⟨ndA_in (h := 181) rfl, List.forall_mem_cons.mpr ⟨ndA_in (h := 238) rfl, List.forall_mem_cons.mpr ⟨ndA_in (h := 310) rfl, List.forall_mem_cons.mpr ⟨ndA_in (h := 343) rfl, List.forall_mem_cons.mpr ⟨ndA_in (h := 348) rfl, List.forall_mem_cons.mpr ⟨ndA_in (h := 350) rfl, List.forall_mem_cons.mpr ⟨ndA_in (h := 405) rfl, List.forall_mem_cons.mpr ⟨ndA_in (h := 423) rfl, List.forall_mem_cons.mpr ⟨ndA_in (h := 426) rfl, List.forall_mem_cons.mpr ⟨ndA_in (h := 443) rfl, List.forall_mem_cons.mpr ⟨ndA_in (h := 528) rfl, List.forall_mem_cons.mpr ⟨ndA_in (h := 602) rfl, List.forall_mem_cons.mpr ⟨ndA_in (h := 639) rfl, fun _ h => by (cases h)⟩⟩⟩⟩⟩⟩⟩⟩⟩⟩⟩⟩⟩⟩⟩⟩
set_option maxRecDepth 100000 in
theorem MN_ok1 : ∀ d ∈ MN_1, mNd d ∈ lw_tbl := List.forall_mem_cons.mpr ⟨ndA_in (h := 688) rfl, List.forall_mem_cons.mpr ⟨ndA_in (h := 960) rfl, List.forall_mem_cons.mpr ⟨ndA_in (h := 1016) rfl, fun _ h => by (cases h)⟩⟩⟩
theorem MN_all : ∀ ch ∈ MNT, ∀ d ∈ ch, mNd d ∈ lw_tbl := List.forall_mem_cons.mpr ⟨MN_ok0, List.forall_mem_cons.mpr ⟨MN_ok1, fun _ h => by (cases h)⟩⟩
def CD_0 : List (Nat × Nat × Int) := [(8, 27, 99999), (11, 402, (-1000000)), (7, 45, 99999), (11, 292, 99999), (11, 341, 2000000000), (17, 265, 1431655765), (17, 266, 858993459), (17, 267, 252645135), (12, 19, 99999), (12, 89, (-1000001)), (12, 80, (-1000000)), (12, 94, (-1000002)), (12, 95, (-1000004)), (12, 115, (-1000005)), (12, 127, (-1000003)), (12, 346, (-1000006))]
def CDT : List (List (Nat × Nat × Int)) := [CD_0]
set_option maxRecDepth 100000 in
theorem CD_ok0 : ∀ d ∈ CD_0, cWd d ∈ goods := List.forall_mem_cons.mpr ⟨in_g 119 rfl rfl, List.forall_mem_cons.mpr ⟨in_g 511 rfl rfl, List.forall_mem_cons.mpr ⟨in_g 617 rfl rfl, List.forall_mem_cons.mpr ⟨in_g 1021 rfl rfl, List.forall_mem_cons.mpr ⟨in_g 1103 rfl rfl, List.forall_mem_cons.mpr ⟨in_g 1115 rfl rfl, List.forall_mem_cons.mpr ⟨in_g 1116 rfl rfl, List.forall_mem_cons.mpr ⟨in_g 1117 rfl rfl, List.forall_mem_cons.mpr ⟨in_g 1264 rfl rfl, List.forall_mem_cons.mpr ⟨in_g 1398 rfl rfl, List.forall_mem_cons.mpr ⟨in_g 1403 rfl rfl, List.forall_mem_cons.mpr ⟨in_g 1404 rfl rfl, List.forall_mem_cons.mpr ⟨in_g 1405 rfl rfl, List.forall_mem_cons.mpr ⟨in_g 1437 rfl rfl, List.forall_mem_cons.mpr ⟨in_g 1455 rfl rfl, List.forall_mem_cons.mpr ⟨in_g 1727 rfl rfl, fun _ h => by (cases h)⟩⟩⟩⟩⟩⟩⟩⟩⟩⟩⟩⟩⟩⟩⟩⟩
theorem CD_all : ∀ ch ∈ CDT, ∀ d ∈ ch, cWd d ∈ goods := List.forall_mem_cons.mpr ⟨CD_ok0, fun _ h => by (cases h)⟩
def CL_0 : List (Nat × Nat × Int) := [(6, 58, 100), (6, 79, 2000000000), (3, 30, 100), (3, 36, 10), (2, 36, 2000000000), (12, 137, 255), (12, 255, 100), (12, 264, 2000000000), (12, 291, 10), (13, 44, 4294967295)]
def CLT : List (List (Nat × Nat × Int)) := [CL_0]
set_option maxRecDepth 100000 in
theorem CL_ok0 : ∀ d ∈ CL_0, lWd d ∈ goods := List.forall_mem_cons.mpr ⟨in_g 913 rfl rfl, List.forall_mem_cons.mpr ⟨in_g 914 rfl rfl, List.forall_mem_cons.mpr ⟨in_g 986 rfl rfl, List.forall_mem_cons.mpr ⟨in_g 1000 rfl rfl, List.forall_mem_cons.mpr ⟨in_g 1030 rfl rfl, List.forall_mem_cons.mpr ⟨in_g 1480 rfl rfl, List.forall_mem_cons.mpr ⟨in_g 1586 rfl rfl, List.forall_mem_cons.mpr ⟨in_g 1606 rfl rfl, List.forall_mem_cons.mpr ⟨in_g 1641 rfl rfl, List.forall_mem_cons.mpr ⟨in_g 1771 rfl rfl, fun _ h => by (cases h)⟩⟩⟩⟩⟩⟩⟩⟩⟩⟩
theorem CL_all : ∀ ch ∈ CLT, ∀ d ∈ ch, lWd d ∈ goods := List.forall_mem_cons.mpr ⟨CL_ok0, fun _ h => by (cases h)⟩
def LD_0 : List (Nat × Nat × Nat) := [(13, 7, 11), (11, 7, 8), (8, 9, 4), (8, 9, 204), (8, 21, 5), (8, 21, 205), (8, 46, 2), (8, 53, 0), (4, 28, 6), (11, 27, 7), (11, 27, 207), (11, 33, 10), (11, 40, 1), (1, 15, 6), (1, 22, 4), (1, 22, 204)]
def LD_1 : List (Nat × Nat × Nat) := [(11, 47, 9), (11, 54, 5), (11, 54, 205), (11, 61, 3), (13, 10, 12), (12, 23, 299)]
def LDT : List (List (Nat × Nat × Nat)) := [LD_0, LD_1]
set_option maxRecDepth 100000 in
theorem LD_ok0 : ∀ d ∈ LD_0, kWd d ∈ goods := List.forall_mem_cons.mpr ⟨in_g 101 rfl rfl, List.forall_mem_cons.mpr ⟨in_g 109 rfl rfl, List.forall_mem_cons.mpr ⟨in_g 115 rfl rfl, List.forall_mem_cons.mpr ⟨in_g 115 rfl rfl, List.forall_mem_cons.mpr ⟨in_g 117 rfl rfl, List.forall_mem_cons.mpr ⟨in_g 117 rfl rfl, List.forall_mem_cons.mpr ⟨in_g 120 rfl rfl, List.forall_mem_cons.mpr ⟨in_g 141 rfl rfl, List.forall_mem_cons.mpr ⟨in_g 179 rfl rfl, List.forall_mem_cons.mpr ⟨in_g 306 rfl rfl, List.forall_mem_cons.mpr ⟨in_g 306 rfl rfl, List.forall_mem_cons.mpr ⟨in_g 308 rfl rfl, List.forall_mem_cons.mpr ⟨in_g 341 rfl rfl, List.forall_mem_cons.mpr ⟨in_g 347 rfl rfl, List.forall_mem_cons.mpr ⟨in_g 349 rfl rfl, List.forall_mem_cons.mpr ⟨in_g 349 rfl rfl, fun _ h => by (cases h)⟩⟩⟩⟩⟩⟩⟩⟩⟩⟩⟩⟩⟩⟩⟩⟩
set_option maxRecDepth 100000 in
theorem LD_ok1 : ∀ d ∈ LD_1, kWd d ∈ goods := List.forall_mem_cons.mpr ⟨in_g 403 rfl rfl, List.forall_mem_cons.mpr ⟨in_g 422 rfl rfl, List.forall_mem_cons.mpr ⟨in_g 422 rfl rfl, List.forall_mem_cons.mpr ⟨in_g 424 rfl rfl, List.forall_mem_cons.mpr ⟨in_g 1258 rfl rfl, List.forall_mem_cons.mpr ⟨in_g 1265 rfl rfl, fun _ h => by (cases h)⟩⟩⟩⟩⟩⟩
theorem LD_all : ∀ ch ∈ LDT, ∀ d ∈ ch, kWd d ∈ goods := List.forall_mem_cons.mpr ⟨LD_ok0, List.forall_mem_cons.mpr ⟨LD_ok1, fun _ h => by (cases h)⟩⟩
def SP_0 : List (Nat × Nat × Nat) := [(4, 38, 1), (14, 38, 3), (14, 1053, 4), (10, 64, 2), (14, 9, 5), (14, 15, 6), (11, 1, 8), (8, 3, 8), (2, 3, 8), (0, 3, 8), (4, 3, 8), (6, 3, 8), (5, 3, 8), (10, 3, 8), (1, 3, 8), (9, 3, 8)]
def SP_1 : List (Nat × Nat × Nat) := [(3, 3, 8), (7, 3, 8), (5, 29, 7), (6, 93, 7), (10, 46, 7), (11, 374, 7), (4, 66, 7), (8, 105, 7), (2, 48, 7), (0, 54, 7), (12, 3, 8)]
def SPT : List (List (Nat × Nat × Nat)) := [SP_0, SP_1]
set_option maxRecDepth 100000 in
theorem SP_ok0 : ∀ d ∈ SP_0, sWd d ∈ goods := List.forall_mem_cons.mpr ⟨in_g 581 rfl rfl, List.forall_mem_cons.mpr ⟨in_g 706 rfl rfl, List.forall_mem_cons.mpr ⟨in_g 722 rfl rfl, List.forall_mem_cons.mpr ⟨in_g 1139 rfl rfl, List.forall_mem_cons.mpr ⟨in_g 1772 rfl rfl, List.forall_mem_cons.mpr ⟨in_g 1773 rfl rfl, List.forall_mem_cons.mpr ⟨in_g 106 rfl rfl, List.forall_mem_cons.mpr ⟨in_g 114 rfl rfl, List.forall_mem_cons.mpr ⟨in_g 125 rfl rfl, List.forall_mem_cons.mpr ⟨in_g 146 rfl rfl, List.forall_mem_cons.mpr ⟨in_g 178 rfl rfl, List.forall_mem_cons.mpr ⟨in_g 184 rfl rfl, List.forall_mem_cons.mpr ⟨in_g 241 rfl rfl, List.forall_mem_cons.mpr ⟨in_g 313 rfl rfl, List.forall_mem_cons.mpr ⟨in_g 346 rfl rfl, List.forall_mem_cons.mpr ⟨in_g 408 rfl rfl, fun _ h => by (cases h)⟩⟩⟩⟩⟩⟩⟩⟩⟩⟩⟩⟩⟩⟩⟩⟩
set_option maxRecDepth 100000 in
theorem SP_ok1 : ∀ d ∈ SP_1, sWd d ∈ goods := List.forall_mem_cons.mpr ⟨in_g 429 rfl rfl, List.forall_mem_cons.mpr ⟨in_g 446 rfl rfl, List.forall_mem_cons.mpr ⟨in_g 777 rfl rfl, List.forall_mem_cons.mpr ⟨in_g 849 rfl rfl, List.forall_mem_cons.mpr ⟨in_g 1150 rfl rfl, List.forall_mem_cons.mpr ⟨in_g 1182 rfl rfl, List.forall_mem_cons.mpr ⟨in_g 1195 rfl rfl, List.forall_mem_cons.mpr ⟨in_g 1198 rfl rfl, List.forall_mem_cons.mpr ⟨in_g 1203 rfl rfl, List.forall_mem_cons.mpr ⟨in_g 1208 rfl rfl, List.forall_mem_cons.mpr ⟨in_g 1263 rfl rfl, fun _ h => by (cases h)⟩⟩⟩⟩⟩⟩⟩⟩⟩⟩⟩
theorem SP_all : ∀ ch ∈ SPT, ∀ d ∈ ch, sWd d ∈ goods := List.forall_mem_cons.mpr ⟨SP_ok0, List.forall_mem_cons.mpr ⟨SP_ok1, fun _ h => by (cases h)⟩⟩
def stP (d : Nat × Nat × Nat) : Prop := (strO.getD d.2.2 ("", 0, "", 0)).1 = oC d.1 ∧ (strO.getD d.2.2 ("", 0, "", 0)).2.1 = d.2.1
def SD_0 : List (Nat × Nat × Nat) := [(9, 42, 0), (9, 71, 1), (9, 73, 2), (9, 75, 3), (9, 77, 4), (9, 79, 5), (9, 81, 6), (9, 52, 7), (9, 54, 8), (12, 25, 9), (12, 27, 10), (12, 29, 11), (12, 31, 12), (12, 33, 13), (12, 35, 14), (12, 180, 15)]
theorem SD_ok0 : ∀ d ∈ SD_0, stP d := List.forall_mem_cons.mpr ⟨⟨rfl, rfl⟩, List.forall_mem_cons.mpr ⟨⟨rfl, rfl⟩, List.forall_mem_cons.mpr ⟨⟨rfl, rfl⟩, List.forall_mem_cons.mpr ⟨⟨rfl, rfl⟩, List.forall_mem_cons.mpr ⟨⟨rfl, rfl⟩, List.forall_mem_cons.mpr ⟨⟨rfl, rfl⟩, List.forall_mem_cons.mpr ⟨⟨rfl, rfl⟩, List.forall_mem_cons.mpr ⟨⟨rfl, rfl⟩, List.forall_mem_cons.mpr ⟨⟨rfl, rfl⟩, List.forall_mem_cons.mpr ⟨⟨rfl, rfl⟩, List.forall_mem_cons.mpr ⟨⟨rfl, rfl⟩, List.forall_mem_cons.mpr ⟨⟨rfl, rfl⟩, List.forall_mem_cons.mpr ⟨⟨rfl, rfl⟩, List.forall_mem_cons.mpr ⟨⟨rfl, rfl⟩, List.forall_mem_cons.mpr ⟨⟨rfl, rfl⟩, List.forall_mem_cons.mpr ⟨⟨rfl, rfl⟩, fun _ h => by (cases h)⟩⟩⟩⟩⟩⟩⟩⟩⟩⟩⟩⟩⟩⟩⟩⟩
def SD_1 : List (Nat × Nat × Nat) := [(12, 182, 16), (12, 184, 17)]
theorem SD_ok1 : ∀ d ∈ SD_1, stP d := List.forall_mem_cons.mpr ⟨⟨rfl, rfl⟩, List.forall_mem_cons.mpr ⟨⟨rfl, rfl⟩, fun _ h => by (cases h)⟩⟩
def SDT : List (List (Nat × Nat × Nat)) := [SD_0, SD_1]
theorem SD_all : ∀ ch ∈ SDT, ∀ d ∈ ch, stP d := List.forall_mem_cons.mpr ⟨SD_ok0, List.forall_mem_cons.mpr ⟨SD_ok1, fun _ h => by (cases h)⟩⟩
abbrev NM : Nat := 281
theorem pd_0 : (parseMethodDescriptor "()B").map (fun d => d.parameters.length) = some 0 := by decide +kernel
theorem pd_1 : (parseMethodDescriptor "()I").map (fun d => d.parameters.length) = some 0 := by decide +kernel
theorem pd_2 : (parseMethodDescriptor "()LStrengthHouse$Piece;").map (fun d => d.parameters.length) = some 0 := by decide +kernel
theorem pd_3 : (parseMethodDescriptor "()V").map (fun d => d.parameters.length) = some 0 := by decide +kernel
theorem pd_4 : (parseMethodDescriptor "()Z").map (fun d => d.parameters.length) = some 0 := by decide +kernel
theorem pd_5 : (parseMethodDescriptor "(B)V").map (fun d => d.parameters.length) = some 1 := by decide +kernel
theorem pd_6 : (parseMethodDescriptor "(I)C").map (fun d => d.parameters.length) = some 1 := by decide +kernel
theorem pd_7 : (parseMethodDescriptor "(I)I").map (fun d => d.parameters.length) = some 1 := by decide +kernel
theorem pd_8 : (parseMethodDescriptor "(I)J").map (fun d => d.parameters.length) = some 1 := by decide +kernel
theorem pd_9 : (parseMethodDescriptor "(I)LStrengthHouse$Piece;").map (fun d => d.parameters.length) = some 1 := by decide +kernel
theorem pd_10 : (parseMethodDescriptor "(I)LStrengthHouse$Program;").map (fun d => d.parameters.length) = some 1 := by decide +kernel
theorem pd_11 : (parseMethodDescriptor "(I)LStrengthHouse$Sheet;").map (fun d => d.parameters.length) = some 1 := by decide +kernel
theorem pd_12 : (parseMethodDescriptor "(I)Ljava/lang/String;").map (fun d => d.parameters.length) = some 1 := by decide +kernel
theorem pd_13 : (parseMethodDescriptor "(I)V").map (fun d => d.parameters.length) = some 1 := by decide +kernel
theorem pd_14 : (parseMethodDescriptor "(I)Z").map (fun d => d.parameters.length) = some 1 := by decide +kernel
theorem pd_15 : (parseMethodDescriptor "(II)I").map (fun d => d.parameters.length) = some 2 := by decide +kernel
theorem pd_16 : (parseMethodDescriptor "(II)J").map (fun d => d.parameters.length) = some 2 := by decide +kernel
theorem pd_17 : (parseMethodDescriptor "(II)V").map (fun d => d.parameters.length) = some 2 := by decide +kernel
theorem pd_18 : (parseMethodDescriptor "(II)Z").map (fun d => d.parameters.length) = some 2 := by decide +kernel
theorem pd_19 : (parseMethodDescriptor "(III)I").map (fun d => d.parameters.length) = some 3 := by decide +kernel
theorem pd_20 : (parseMethodDescriptor "(III)V").map (fun d => d.parameters.length) = some 3 := by decide +kernel
theorem pd_21 : (parseMethodDescriptor "(III)Z").map (fun d => d.parameters.length) = some 3 := by decide +kernel
theorem pd_22 : (parseMethodDescriptor "(IIII)I").map (fun d => d.parameters.length) = some 4 := by decide +kernel
theorem pd_23 : (parseMethodDescriptor "(IIII)J").map (fun d => d.parameters.length) = some 4 := by decide +kernel
theorem pd_24 : (parseMethodDescriptor "(IIII)V").map (fun d => d.parameters.length) = some 4 := by decide +kernel
theorem pd_25 : (parseMethodDescriptor "(IIII)Z").map (fun d => d.parameters.length) = some 4 := by decide +kernel
theorem pd_26 : (parseMethodDescriptor "(IIIII)I").map (fun d => d.parameters.length) = some 5 := by decide +kernel
theorem pd_27 : (parseMethodDescriptor "(IIIII)V").map (fun d => d.parameters.length) = some 5 := by decide +kernel
theorem pd_28 : (parseMethodDescriptor "(IIILStrengthHouse$Order;)I").map (fun d => d.parameters.length) = some 4 := by decide +kernel
theorem pd_29 : (parseMethodDescriptor "(IILjava/util/function/BiFunction;)I").map (fun d => d.parameters.length) = some 3 := by decide +kernel
theorem pd_30 : (parseMethodDescriptor "(IIZ)V").map (fun d => d.parameters.length) = some 3 := by decide +kernel
theorem pd_31 : (parseMethodDescriptor "(IJ)J").map (fun d => d.parameters.length) = some 2 := by decide +kernel
theorem pd_32 : (parseMethodDescriptor "(ILStrengthHouse$Meters;)I").map (fun d => d.parameters.length) = some 2 := by decide +kernel
theorem pd_33 : (parseMethodDescriptor "(ILStrengthHouse$Readings;)I").map (fun d => d.parameters.length) = some 2 := by decide +kernel
theorem pd_34 : (parseMethodDescriptor "(JI)I").map (fun d => d.parameters.length) = some 2 := by decide +kernel
theorem pd_35 : (parseMethodDescriptor "(JJ)J").map (fun d => d.parameters.length) = some 2 := by decide +kernel
theorem pd_36 : (parseMethodDescriptor "(LStrengthHouse$Book;)V").map (fun d => d.parameters.length) = some 1 := by decide +kernel
theorem pd_37 : (parseMethodDescriptor "(LStrengthHouse$Machine;)V").map (fun d => d.parameters.length) = some 1 := by decide +kernel
theorem pd_38 : (parseMethodDescriptor "(LStrengthHouse$Meters;)V").map (fun d => d.parameters.length) = some 1 := by decide +kernel
theorem pd_39 : (parseMethodDescriptor "(LStrengthHouse$Piece;)V").map (fun d => d.parameters.length) = some 1 := by decide +kernel
theorem pd_40 : (parseMethodDescriptor "(LStrengthHouse$Piece;III)I").map (fun d => d.parameters.length) = some 4 := by decide +kernel
theorem pd_41 : (parseMethodDescriptor "(LStrengthHouse$Piece;LStrengthHouse$State;)V").map (fun d => d.parameters.length) = some 2 := by decide +kernel
theorem pd_42 : (parseMethodDescriptor "(LStrengthHouse$Program;)V").map (fun d => d.parameters.length) = some 1 := by decide +kernel
theorem pd_43 : (parseMethodDescriptor "(LStrengthHouse$Program;LStrengthHouse$Piece;LStrengthHouse$State;)V").map (fun d => d.parameters.length) = some 3 := by decide +kernel
theorem pd_44 : (parseMethodDescriptor "(LStrengthHouse$Program;Z)Z").map (fun d => d.parameters.length) = some 2 := by decide +kernel
theorem pd_45 : (parseMethodDescriptor "(LStrengthHouse$Readings;)V").map (fun d => d.parameters.length) = some 1 := by decide +kernel
theorem pd_46 : (parseMethodDescriptor "(LStrengthHouse$Sheet;II)I").map (fun d => d.parameters.length) = some 3 := by decide +kernel
theorem pd_47 : (parseMethodDescriptor "(LStrengthHouse$State;)V").map (fun d => d.parameters.length) = some 1 := by decide +kernel
theorem pd_48 : (parseMethodDescriptor "(Ljava/lang/String;)Z").map (fun d => d.parameters.length) = some 1 := by decide +kernel
theorem pd_49 : (parseMethodDescriptor "([BI)C").map (fun d => d.parameters.length) = some 2 := by decide +kernel
theorem pd_50 : (parseMethodDescriptor "([BILStrengthHouse$Program;)I").map (fun d => d.parameters.length) = some 3 := by decide +kernel
theorem pd_51 : (parseMethodDescriptor "([I)Z").map (fun d => d.parameters.length) = some 1 := by decide +kernel
theorem pd_52 : (parseMethodDescriptor "([I[I)V").map (fun d => d.parameters.length) = some 2 := by decide +kernel
def JB (j : Nat) : Prop := Jvm.Cond.code (mY j) (mB j) (mL j) (mR j) ∈ goods ∧ Jvm.Cond.initialized (mY j).cls ∈ goods ∧ oC (mO j) = (mY j).cls ∧ (parseMethodDescriptor (mY j).desc).map (fun d => d.parameters.length) = some (mN j)
def JF (j : Nat) : Prop := JB j ∧ ((mK j = 0 ∧ Jvm.Cond.static (mY j) ∈ goods) ∨ (mK j = 1 ∧ Jvm.Cond.instanceMethod (mY j) ∈ goods ∧ Jvm.Cond.selects (mY j).cls (mY j) (mY j) ∈ goods) ∨ (mK j = 2 ∧ Jvm.Cond.instanceMethod (mY j) ∈ goods ∧ (mY j).name = "<init>" ∧ mR j = none))
theorem jf_0 : JF 0 := ⟨⟨in_g 145 rfl rfl, in_g 84 rfl rfl, rfl, pd_3⟩, Or.inr (Or.inr ⟨rfl, in_g 144 rfl rfl, rfl, rfl⟩)⟩
theorem jf_1 : JF 1 := ⟨⟨in_g 1061 rfl rfl, in_g 84 rfl rfl, rfl, pd_14⟩, Or.inr (Or.inl ⟨rfl, in_g 1059 rfl rfl, in_g 1060 rfl rfl⟩)⟩
theorem jf_2 : JF 2 := ⟨⟨in_g 1048 rfl rfl, in_g 84 rfl rfl, rfl, pd_28⟩, Or.inr (Or.inl ⟨rfl, in_g 1046 rfl rfl, in_g 1047 rfl rfl⟩)⟩
theorem jf_3 : JF 3 := ⟨⟨in_g 1069 rfl rfl, in_g 84 rfl rfl, rfl, pd_18⟩, Or.inr (Or.inl ⟨rfl, in_g 1067 rfl rfl, in_g 1068 rfl rfl⟩)⟩
theorem jf_4 : JF 4 := ⟨⟨in_g 1074 rfl rfl, in_g 84 rfl rfl, rfl, pd_17⟩, Or.inr (Or.inl ⟨rfl, in_g 1072 rfl rfl, in_g 1073 rfl rfl⟩)⟩
theorem jf_5 : JF 5 := ⟨⟨in_g 1245 rfl rfl, in_g 84 rfl rfl, rfl, pd_1⟩, Or.inr (Or.inl ⟨rfl, in_g 1243 rfl rfl, in_g 1244 rfl rfl⟩)⟩
theorem jf_6 : JF 6 := ⟨⟨in_g 1082 rfl rfl, in_g 84 rfl rfl, rfl, pd_15⟩, Or.inr (Or.inl ⟨rfl, in_g 1080 rfl rfl, in_g 1081 rfl rfl⟩)⟩
theorem jf_7 : JF 7 := ⟨⟨in_g 1090 rfl rfl, in_g 84 rfl rfl, rfl, pd_32⟩, Or.inr (Or.inl ⟨rfl, in_g 1088 rfl rfl, in_g 1089 rfl rfl⟩)⟩
theorem jf_8 : JF 8 := ⟨⟨in_g 1207 rfl rfl, in_g 84 rfl rfl, rfl, pd_36⟩, Or.inr (Or.inl ⟨rfl, in_g 1205 rfl rfl, in_g 1206 rfl rfl⟩)⟩
theorem jf_9 : JF 9 := ⟨⟨in_g 345 rfl rfl, in_g 89 rfl rfl, rfl, pd_3⟩, Or.inr (Or.inr ⟨rfl, in_g 344 rfl rfl, rfl, rfl⟩)⟩
theorem jf_10 : JF 10 := ⟨⟨in_g 787 rfl rfl, in_g 89 rfl rfl, rfl, pd_43⟩, Or.inr (Or.inl ⟨rfl, in_g 785 rfl rfl, in_g 786 rfl rfl⟩)⟩
theorem jf_11 : JF 11 := ⟨⟨in_g 791 rfl rfl, in_g 89 rfl rfl, rfl, pd_41⟩, Or.inr (Or.inl ⟨rfl, in_g 790 rfl rfl, in_g 11 rfl rfl⟩)⟩
theorem jf_12 : JF 12 := ⟨⟨in_g 805 rfl rfl, in_g 89 rfl rfl, rfl, pd_17⟩, Or.inr (Or.inl ⟨rfl, in_g 804 rfl rfl, in_g 12 rfl rfl⟩)⟩
theorem jf_13 : JF 13 := ⟨⟨in_g 808 rfl rfl, in_g 89 rfl rfl, rfl, pd_15⟩, Or.inl ⟨rfl, in_g 807 rfl rfl⟩⟩
theorem jf_14 : JF 14 := ⟨⟨in_g 812 rfl rfl, in_g 89 rfl rfl, rfl, pd_18⟩, Or.inr (Or.inl ⟨rfl, in_g 811 rfl rfl, in_g 13 rfl rfl⟩)⟩
theorem jf_15 : JF 15 := ⟨⟨in_g 821 rfl rfl, in_g 89 rfl rfl, rfl, pd_13⟩, Or.inr (Or.inl ⟨rfl, in_g 820 rfl rfl, in_g 15 rfl rfl⟩)⟩
theorem jf_16 : JF 16 := ⟨⟨in_g 825 rfl rfl, in_g 89 rfl rfl, rfl, pd_7⟩, Or.inr (Or.inl ⟨rfl, in_g 824 rfl rfl, in_g 16 rfl rfl⟩)⟩
theorem jf_17 : JF 17 := ⟨⟨in_g 829 rfl rfl, in_g 89 rfl rfl, rfl, pd_4⟩, Or.inr (Or.inl ⟨rfl, in_g 828 rfl rfl, in_g 17 rfl rfl⟩)⟩
theorem jf_18 : JF 18 := ⟨⟨in_g 816 rfl rfl, in_g 89 rfl rfl, rfl, pd_1⟩, Or.inr (Or.inl ⟨rfl, in_g 815 rfl rfl, in_g 14 rfl rfl⟩)⟩
theorem jf_19 : JF 19 := ⟨⟨in_g 839 rfl rfl, in_g 89 rfl rfl, rfl, pd_3⟩, Or.inr (Or.inl ⟨rfl, in_g 838 rfl rfl, in_g 18 rfl rfl⟩)⟩
theorem jf_20 : JF 20 := ⟨⟨in_g 844 rfl rfl, in_g 89 rfl rfl, rfl, pd_13⟩, Or.inr (Or.inl ⟨rfl, in_g 843 rfl rfl, in_g 19 rfl rfl⟩)⟩
theorem jf_21 : JF 21 := ⟨⟨in_g 124 rfl rfl, in_g 83 rfl rfl, rfl, pd_3⟩, Or.inr (Or.inr ⟨rfl, in_g 123 rfl rfl, rfl, rfl⟩)⟩
theorem jf_22 : JF 22 := ⟨⟨in_g 1015 rfl rfl, in_g 83 rfl rfl, rfl, pd_27⟩, Or.inr (Or.inl ⟨rfl, in_g 1013 rfl rfl, in_g 1014 rfl rfl⟩)⟩
theorem jf_23 : JF 23 := ⟨⟨in_g 1035 rfl rfl, in_g 83 rfl rfl, rfl, pd_7⟩, Or.inr (Or.inl ⟨rfl, in_g 1034 rfl rfl, in_g 30 rfl rfl⟩)⟩
theorem jf_24 : JF 24 := ⟨⟨in_g 1025 rfl rfl, in_g 83 rfl rfl, rfl, pd_15⟩, Or.inr (Or.inl ⟨rfl, in_g 1023 rfl rfl, in_g 1024 rfl rfl⟩)⟩
theorem jf_25 : JF 25 := ⟨⟨in_g 1029 rfl rfl, in_g 83 rfl rfl, rfl, pd_31⟩, Or.inr (Or.inl ⟨rfl, in_g 1028 rfl rfl, in_g 29 rfl rfl⟩)⟩
theorem jf_26 : JF 26 := ⟨⟨in_g 1039 rfl rfl, in_g 83 rfl rfl, rfl, pd_7⟩, Or.inr (Or.inl ⟨rfl, in_g 1037 rfl rfl, in_g 1038 rfl rfl⟩)⟩
theorem jf_27 : JF 27 := ⟨⟨in_g 1094 rfl rfl, in_g 83 rfl rfl, rfl, pd_18⟩, Or.inr (Or.inl ⟨rfl, in_g 1092 rfl rfl, in_g 1093 rfl rfl⟩)⟩
theorem jf_28 : JF 28 := ⟨⟨in_g 1202 rfl rfl, in_g 83 rfl rfl, rfl, pd_38⟩, Or.inr (Or.inl ⟨rfl, in_g 1200 rfl rfl, in_g 1201 rfl rfl⟩)⟩
theorem jf_29 : JF 29 := ⟨⟨in_g 428 rfl rfl, in_g 91 rfl rfl, rfl, pd_3⟩, Or.inr (Or.inr ⟨rfl, in_g 427 rfl rfl, rfl, rfl⟩)⟩
theorem jf_30 : JF 30 := ⟨⟨in_g 955 rfl rfl, in_g 91 rfl rfl, rfl, pd_3⟩, Or.inr (Or.inl ⟨rfl, in_g 953 rfl rfl, in_g 954 rfl rfl⟩)⟩
theorem jf_31 : JF 31 := ⟨⟨in_g 964 rfl rfl, in_g 91 rfl rfl, rfl, pd_17⟩, Or.inr (Or.inl ⟨rfl, in_g 962 rfl rfl, in_g 963 rfl rfl⟩)⟩
theorem jf_32 : JF 32 := ⟨⟨in_g 968 rfl rfl, in_g 91 rfl rfl, rfl, pd_7⟩, Or.inr (Or.inl ⟨rfl, in_g 966 rfl rfl, in_g 967 rfl rfl⟩)⟩
theorem jf_33 : JF 33 := ⟨⟨in_g 1053 rfl rfl, in_g 91 rfl rfl, rfl, pd_1⟩, Or.inr (Or.inl ⟨rfl, in_g 1051 rfl rfl, in_g 1052 rfl rfl⟩)⟩
theorem jf_34 : JF 34 := ⟨⟨in_g 980 rfl rfl, in_g 91 rfl rfl, rfl, pd_7⟩, Or.inr (Or.inl ⟨rfl, in_g 978 rfl rfl, in_g 979 rfl rfl⟩)⟩
theorem jf_35 : JF 35 := ⟨⟨in_g 984 rfl rfl, in_g 91 rfl rfl, rfl, pd_21⟩, Or.inr (Or.inl ⟨rfl, in_g 983 rfl rfl, in_g 28 rfl rfl⟩)⟩
theorem jf_36 : JF 36 := ⟨⟨in_g 996 rfl rfl, in_g 91 rfl rfl, rfl, pd_19⟩, Or.inl ⟨rfl, in_g 995 rfl rfl⟩⟩
theorem jf_37 : JF 37 := ⟨⟨in_g 999 rfl rfl, in_g 91 rfl rfl, rfl, pd_16⟩, Or.inl ⟨rfl, in_g 998 rfl rfl⟩⟩
theorem jf_38 : JF 38 := ⟨⟨in_g 177 rfl rfl, in_g 85 rfl rfl, rfl, pd_3⟩, Or.inr (Or.inr ⟨rfl, in_g 176 rfl rfl, rfl, rfl⟩)⟩
theorem jf_39 : JF 39 := ⟨⟨in_g 536 rfl rfl, in_g 85 rfl rfl, rfl, pd_20⟩, Or.inr (Or.inl ⟨rfl, in_g 534 rfl rfl, in_g 535 rfl rfl⟩)⟩
theorem jf_40 : JF 40 := ⟨⟨in_g 545 rfl rfl, in_g 85 rfl rfl, rfl, pd_13⟩, Or.inr (Or.inl ⟨rfl, in_g 543 rfl rfl, in_g 544 rfl rfl⟩)⟩
theorem jf_41 : JF 41 := ⟨⟨in_g 580 rfl rfl, in_g 85 rfl rfl, rfl, pd_7⟩, Or.inl ⟨rfl, in_g 579 rfl rfl⟩⟩
theorem jf_42 : JF 42 := ⟨⟨in_g 577 rfl rfl, in_g 85 rfl rfl, rfl, pd_14⟩, Or.inr (Or.inl ⟨rfl, in_g 575 rfl rfl, in_g 576 rfl rfl⟩)⟩
theorem jf_43 : JF 43 := ⟨⟨in_g 597 rfl rfl, in_g 85 rfl rfl, rfl, pd_1⟩, Or.inr (Or.inl ⟨rfl, in_g 595 rfl rfl, in_g 596 rfl rfl⟩)⟩
theorem jf_44 : JF 44 := ⟨⟨in_g 593 rfl rfl, in_g 85 rfl rfl, rfl, pd_7⟩, Or.inr (Or.inl ⟨rfl, in_g 591 rfl rfl, in_g 592 rfl rfl⟩)⟩
theorem jf_45 : JF 45 := ⟨⟨in_g 601 rfl rfl, in_g 85 rfl rfl, rfl, pd_7⟩, Or.inr (Or.inl ⟨rfl, in_g 600 rfl rfl, in_g 2 rfl rfl⟩)⟩
theorem jf_46 : JF 46 := ⟨⟨in_g 1194 rfl rfl, in_g 85 rfl rfl, rfl, pd_39⟩, Or.inr (Or.inl ⟨rfl, in_g 1192 rfl rfl, in_g 1193 rfl rfl⟩)⟩
theorem jf_47 : JF 47 := ⟨⟨in_g 240 rfl rfl, in_g 87 rfl rfl, rfl, pd_3⟩, Or.inr (Or.inr ⟨rfl, in_g 239 rfl rfl, rfl, rfl⟩)⟩
theorem jf_48 : JF 48 := ⟨⟨in_g 675 rfl rfl, in_g 87 rfl rfl, rfl, pd_3⟩, Or.inr (Or.inl ⟨rfl, in_g 673 rfl rfl, in_g 674 rfl rfl⟩)⟩
theorem jf_49 : JF 49 := ⟨⟨in_g 766 rfl rfl, in_g 87 rfl rfl, rfl, pd_30⟩, Or.inr (Or.inl ⟨rfl, in_g 764 rfl rfl, in_g 765 rfl rfl⟩)⟩
theorem jf_50 : JF 50 := ⟨⟨in_g 797 rfl rfl, in_g 87 rfl rfl, rfl, pd_7⟩, Or.inr (Or.inl ⟨rfl, in_g 795 rfl rfl, in_g 796 rfl rfl⟩)⟩
theorem jf_51 : JF 51 := ⟨⟨in_g 801 rfl rfl, in_g 87 rfl rfl, rfl, pd_7⟩, Or.inr (Or.inl ⟨rfl, in_g 799 rfl rfl, in_g 800 rfl rfl⟩)⟩
theorem jf_52 : JF 52 := ⟨⟨in_g 776 rfl rfl, in_g 87 rfl rfl, rfl, pd_42⟩, Or.inr (Or.inl ⟨rfl, in_g 774 rfl rfl, in_g 775 rfl rfl⟩)⟩
theorem jf_53 : JF 53 := ⟨⟨in_g 183 rfl rfl, in_g 86 rfl rfl, rfl, pd_3⟩, Or.inr (Or.inr ⟨rfl, in_g 182 rfl rfl, rfl, rfl⟩)⟩
theorem jf_54 : JF 54 := ⟨⟨in_g 540 rfl rfl, in_g 86 rfl rfl, rfl, pd_3⟩, Or.inr (Or.inl ⟨rfl, in_g 538 rfl rfl, in_g 539 rfl rfl⟩)⟩
theorem jf_55 : JF 55 := ⟨⟨in_g 622 rfl rfl, in_g 86 rfl rfl, rfl, pd_17⟩, Or.inr (Or.inl ⟨rfl, in_g 620 rfl rfl, in_g 621 rfl rfl⟩)⟩
theorem jf_56 : JF 56 := ⟨⟨in_g 630 rfl rfl, in_g 86 rfl rfl, rfl, pd_7⟩, Or.inr (Or.inl ⟨rfl, in_g 628 rfl rfl, in_g 629 rfl rfl⟩)⟩
theorem jf_57 : JF 57 := ⟨⟨in_g 569 rfl rfl, in_g 86 rfl rfl, rfl, pd_7⟩, Or.inr (Or.inl ⟨rfl, in_g 567 rfl rfl, in_g 568 rfl rfl⟩)⟩
theorem jf_58 : JF 58 := ⟨⟨in_g 1237 rfl rfl, in_g 86 rfl rfl, rfl, pd_7⟩, Or.inr (Or.inl ⟨rfl, in_g 1235 rfl rfl, in_g 1236 rfl rfl⟩)⟩
theorem jf_59 : JF 59 := ⟨⟨in_g 565 rfl rfl, in_g 86 rfl rfl, rfl, pd_14⟩, Or.inr (Or.inl ⟨rfl, in_g 563 rfl rfl, in_g 564 rfl rfl⟩)⟩
theorem jf_60 : JF 60 := ⟨⟨in_g 561 rfl rfl, in_g 86 rfl rfl, rfl, pd_1⟩, Or.inr (Or.inl ⟨rfl, in_g 559 rfl rfl, in_g 560 rfl rfl⟩)⟩
theorem jf_61 : JF 61 := ⟨⟨in_g 869 rfl rfl, in_g 86 rfl rfl, rfl, pd_4⟩, Or.inr (Or.inl ⟨rfl, in_g 867 rfl rfl, in_g 868 rfl rfl⟩)⟩
theorem jf_62 : JF 62 := ⟨⟨in_g 873 rfl rfl, in_g 86 rfl rfl, rfl, pd_17⟩, Or.inr (Or.inl ⟨rfl, in_g 872 rfl rfl, in_g 20 rfl rfl⟩)⟩
theorem jf_63 : JF 63 := ⟨⟨in_g 878 rfl rfl, in_g 86 rfl rfl, rfl, pd_23⟩, Or.inr (Or.inl ⟨rfl, in_g 877 rfl rfl, in_g 21 rfl rfl⟩)⟩
theorem jf_64 : JF 64 := ⟨⟨in_g 886 rfl rfl, in_g 86 rfl rfl, rfl, pd_7⟩, Or.inr (Or.inl ⟨rfl, in_g 884 rfl rfl, in_g 885 rfl rfl⟩)⟩
theorem jf_65 : JF 65 := ⟨⟨in_g 903 rfl rfl, in_g 86 rfl rfl, rfl, pd_1⟩, Or.inr (Or.inl ⟨rfl, in_g 902 rfl rfl, in_g 23 rfl rfl⟩)⟩
theorem jf_66 : JF 66 := ⟨⟨in_g 912 rfl rfl, in_g 86 rfl rfl, rfl, pd_7⟩, Or.inr (Or.inl ⟨rfl, in_g 910 rfl rfl, in_g 911 rfl rfl⟩)⟩
theorem jf_67 : JF 67 := ⟨⟨in_g 918 rfl rfl, in_g 86 rfl rfl, rfl, pd_8⟩, Or.inr (Or.inl ⟨rfl, in_g 916 rfl rfl, in_g 917 rfl rfl⟩)⟩
theorem jf_68 : JF 68 := ⟨⟨in_g 922 rfl rfl, in_g 86 rfl rfl, rfl, pd_16⟩, Or.inr (Or.inl ⟨rfl, in_g 921 rfl rfl, in_g 25 rfl rfl⟩)⟩
theorem jf_69 : JF 69 := ⟨⟨in_g 899 rfl rfl, in_g 86 rfl rfl, rfl, pd_7⟩, Or.inr (Or.inl ⟨rfl, in_g 897 rfl rfl, in_g 898 rfl rfl⟩)⟩
theorem jf_70 : JF 70 := ⟨⟨in_g 908 rfl rfl, in_g 86 rfl rfl, rfl, pd_7⟩, Or.inr (Or.inl ⟨rfl, in_g 907 rfl rfl, in_g 24 rfl rfl⟩)⟩
theorem jf_71 : JF 71 := ⟨⟨in_g 959 rfl rfl, in_g 86 rfl rfl, rfl, pd_7⟩, Or.inr (Or.inl ⟨rfl, in_g 957 rfl rfl, in_g 958 rfl rfl⟩)⟩
theorem jf_72 : JF 72 := ⟨⟨in_g 848 rfl rfl, in_g 86 rfl rfl, rfl, pd_45⟩, Or.inr (Or.inl ⟨rfl, in_g 846 rfl rfl, in_g 847 rfl rfl⟩)⟩
theorem jf_73 : JF 73 := ⟨⟨in_g 445 rfl rfl, in_g 92 rfl rfl, rfl, pd_3⟩, Or.inr (Or.inr ⟨rfl, in_g 444 rfl rfl, rfl, rfl⟩)⟩
theorem jf_74 : JF 74 := ⟨⟨in_g 1166 rfl rfl, in_g 92 rfl rfl, rfl, pd_17⟩, Or.inr (Or.inl ⟨rfl, in_g 1164 rfl rfl, in_g 1165 rfl rfl⟩)⟩
theorem jf_75 : JF 75 := ⟨⟨in_g 515 rfl rfl, in_g 92 rfl rfl, rfl, pd_4⟩, Or.inr (Or.inl ⟨rfl, in_g 513 rfl rfl, in_g 514 rfl rfl⟩)⟩
theorem jf_76 : JF 76 := ⟨⟨in_g 523 rfl rfl, in_g 92 rfl rfl, rfl, pd_18⟩, Or.inr (Or.inl ⟨rfl, in_g 521 rfl rfl, in_g 522 rfl rfl⟩)⟩
theorem jf_77 : JF 77 := ⟨⟨in_g 527 rfl rfl, in_g 92 rfl rfl, rfl, pd_7⟩, Or.inr (Or.inl ⟨rfl, in_g 525 rfl rfl, in_g 526 rfl rfl⟩)⟩
theorem jf_78 : JF 78 := ⟨⟨in_g 1177 rfl rfl, in_g 92 rfl rfl, rfl, pd_17⟩, Or.inr (Or.inl ⟨rfl, in_g 1175 rfl rfl, in_g 1176 rfl rfl⟩)⟩
theorem jf_79 : JF 79 := ⟨⟨in_g 519 rfl rfl, in_g 92 rfl rfl, rfl, pd_21⟩, Or.inr (Or.inl ⟨rfl, in_g 517 rfl rfl, in_g 518 rfl rfl⟩)⟩
theorem jf_80 : JF 80 := ⟨⟨in_g 616 rfl rfl, in_g 92 rfl rfl, rfl, pd_14⟩, Or.inr (Or.inl ⟨rfl, in_g 614 rfl rfl, in_g 615 rfl rfl⟩)⟩
theorem jf_81 : JF 81 := ⟨⟨in_g 113 rfl rfl, in_g 82 rfl rfl, rfl, pd_3⟩, Or.inr (Or.inr ⟨rfl, in_g 112 rfl rfl, rfl, rfl⟩)⟩
theorem jf_82 : JF 82 := ⟨⟨in_g 549 rfl rfl, in_g 82 rfl rfl, rfl, pd_1⟩, Or.inr (Or.inl ⟨rfl, in_g 547 rfl rfl, in_g 548 rfl rfl⟩)⟩
theorem jf_83 : JF 83 := ⟨⟨in_g 557 rfl rfl, in_g 82 rfl rfl, rfl, pd_9⟩, Or.inr (Or.inl ⟨rfl, in_g 555 rfl rfl, in_g 556 rfl rfl⟩)⟩
theorem jf_84 : JF 84 := ⟨⟨in_g 532 rfl rfl, in_g 82 rfl rfl, rfl, pd_2⟩, Or.inr (Or.inl ⟨rfl, in_g 530 rfl rfl, in_g 531 rfl rfl⟩)⟩
theorem jf_85 : JF 85 := ⟨⟨in_g 663 rfl rfl, in_g 82 rfl rfl, rfl, pd_10⟩, Or.inr (Or.inl ⟨rfl, in_g 661 rfl rfl, in_g 662 rfl rfl⟩)⟩
theorem jf_86 : JF 86 := ⟨⟨in_g 1249 rfl rfl, in_g 82 rfl rfl, rfl, pd_1⟩, Or.inr (Or.inl ⟨rfl, in_g 1247 rfl rfl, in_g 1248 rfl rfl⟩)⟩
theorem jf_87 : JF 87 := ⟨⟨in_g 1253 rfl rfl, in_g 82 rfl rfl, rfl, pd_1⟩, Or.inr (Or.inl ⟨rfl, in_g 1251 rfl rfl, in_g 1252 rfl rfl⟩)⟩
theorem jf_88 : JF 88 := ⟨⟨in_g 638 rfl rfl, in_g 82 rfl rfl, rfl, pd_18⟩, Or.inl ⟨rfl, in_g 637 rfl rfl⟩⟩
theorem jf_89 : JF 89 := ⟨⟨in_g 643 rfl rfl, in_g 82 rfl rfl, rfl, pd_7⟩, Or.inr (Or.inl ⟨rfl, in_g 641 rfl rfl, in_g 642 rfl rfl⟩)⟩
theorem jf_90 : JF 90 := ⟨⟨in_g 647 rfl rfl, in_g 82 rfl rfl, rfl, pd_17⟩, Or.inr (Or.inl ⟨rfl, in_g 645 rfl rfl, in_g 646 rfl rfl⟩)⟩
theorem jf_91 : JF 91 := ⟨⟨in_g 655 rfl rfl, in_g 82 rfl rfl, rfl, pd_5⟩, Or.inr (Or.inl ⟨rfl, in_g 653 rfl rfl, in_g 654 rfl rfl⟩)⟩
theorem jf_92 : JF 92 := ⟨⟨in_g 853 rfl rfl, in_g 82 rfl rfl, rfl, pd_37⟩, Or.inr (Or.inl ⟨rfl, in_g 851 rfl rfl, in_g 852 rfl rfl⟩)⟩
theorem jf_93 : JF 93 := ⟨⟨in_g 861 rfl rfl, in_g 82 rfl rfl, rfl, pd_7⟩, Or.inr (Or.inl ⟨rfl, in_g 859 rfl rfl, in_g 860 rfl rfl⟩)⟩
theorem jf_94 : JF 94 := ⟨⟨in_g 1220 rfl rfl, in_g 82 rfl rfl, rfl, pd_14⟩, Or.inr (Or.inl ⟨rfl, in_g 1218 rfl rfl, in_g 1219 rfl rfl⟩)⟩
theorem jf_95 : JF 95 := ⟨⟨in_g 1233 rfl rfl, in_g 82 rfl rfl, rfl, pd_7⟩, Or.inr (Or.inl ⟨rfl, in_g 1231 rfl rfl, in_g 1232 rfl rfl⟩)⟩
theorem jf_96 : JF 96 := ⟨⟨in_g 1190 rfl rfl, in_g 82 rfl rfl, rfl, pd_47⟩, Or.inr (Or.inl ⟨rfl, in_g 1188 rfl rfl, in_g 1189 rfl rfl⟩)⟩
theorem jf_97 : JF 97 := ⟨⟨in_g 407 rfl rfl, in_g 90 rfl rfl, rfl, pd_3⟩, Or.inr (Or.inr ⟨rfl, in_g 406 rfl rfl, rfl, rfl⟩)⟩
theorem jf_98 : JF 98 := ⟨⟨in_g 667 rfl rfl, in_g 90 rfl rfl, rfl, pd_50⟩, Or.inr (Or.inl ⟨rfl, in_g 665 rfl rfl, in_g 666 rfl rfl⟩)⟩
theorem jf_99 : JF 99 := ⟨⟨in_g 749 rfl rfl, in_g 90 rfl rfl, rfl, pd_44⟩, Or.inr (Or.inl ⟨rfl, in_g 748 rfl rfl, in_g 8 rfl rfl⟩)⟩
theorem jf_100 : JF 100 := ⟨⟨in_g 753 rfl rfl, in_g 90 rfl rfl, rfl, pd_1⟩, Or.inr (Or.inl ⟨rfl, in_g 752 rfl rfl, in_g 9 rfl rfl⟩)⟩
theorem jf_101 : JF 101 := ⟨⟨in_g 756 rfl rfl, in_g 90 rfl rfl, rfl, pd_12⟩, Or.inl ⟨rfl, in_g 755 rfl rfl⟩⟩
theorem jf_102 : JF 102 := ⟨⟨in_g 770 rfl rfl, in_g 90 rfl rfl, rfl, pd_1⟩, Or.inr (Or.inl ⟨rfl, in_g 769 rfl rfl, in_g 10 rfl rfl⟩)⟩
theorem jf_103 : JF 103 := ⟨⟨in_g 697 rfl rfl, in_g 90 rfl rfl, rfl, pd_48⟩, Or.inr (Or.inl ⟨rfl, in_g 696 rfl rfl, in_g 7 rfl rfl⟩)⟩
theorem jf_104 : JF 104 := ⟨⟨in_g 679 rfl rfl, in_g 90 rfl rfl, rfl, pd_3⟩, Or.inr (Or.inl ⟨rfl, in_g 678 rfl rfl, in_g 3 rfl rfl⟩)⟩
theorem jf_105 : JF 105 := ⟨⟨in_g 683 rfl rfl, in_g 90 rfl rfl, rfl, pd_7⟩, Or.inr (Or.inl ⟨rfl, in_g 682 rfl rfl, in_g 4 rfl rfl⟩)⟩
theorem jf_106 : JF 106 := ⟨⟨in_g 687 rfl rfl, in_g 90 rfl rfl, rfl, pd_14⟩, Or.inr (Or.inl ⟨rfl, in_g 686 rfl rfl, in_g 5 rfl rfl⟩)⟩
theorem jf_107 : JF 107 := ⟨⟨in_g 692 rfl rfl, in_g 90 rfl rfl, rfl, pd_14⟩, Or.inr (Or.inl ⟨rfl, in_g 691 rfl rfl, in_g 6 rfl rfl⟩)⟩
theorem jf_108 : JF 108 := ⟨⟨in_g 312 rfl rfl, in_g 88 rfl rfl, rfl, pd_3⟩, Or.inr (Or.inr ⟨rfl, in_g 311 rfl rfl, rfl, rfl⟩)⟩
theorem jf_109 : JF 109 := ⟨⟨in_g 1131 rfl rfl, in_g 88 rfl rfl, rfl, pd_40⟩, Or.inr (Or.inl ⟨rfl, in_g 1129 rfl rfl, in_g 1130 rfl rfl⟩)⟩
theorem jf_110 : JF 110 := ⟨⟨in_g 1158 rfl rfl, in_g 88 rfl rfl, rfl, pd_7⟩, Or.inr (Or.inl ⟨rfl, in_g 1156 rfl rfl, in_g 1157 rfl rfl⟩)⟩
theorem jf_111 : JF 111 := ⟨⟨in_g 1135 rfl rfl, in_g 88 rfl rfl, rfl, pd_22⟩, Or.inr (Or.inl ⟨rfl, in_g 1134 rfl rfl, in_g 32 rfl rfl⟩)⟩
theorem jf_112 : JF 112 := ⟨⟨in_g 1138 rfl rfl, in_g 88 rfl rfl, rfl, pd_15⟩, Or.inl ⟨rfl, in_g 1137 rfl rfl⟩⟩
theorem jf_113 : JF 113 := ⟨⟨in_g 1145 rfl rfl, in_g 88 rfl rfl, rfl, pd_19⟩, Or.inr (Or.inl ⟨rfl, in_g 1144 rfl rfl, in_g 33 rfl rfl⟩)⟩
theorem jf_114 : JF 114 := ⟨⟨in_g 1149 rfl rfl, in_g 88 rfl rfl, rfl, pd_7⟩, Or.inr (Or.inl ⟨rfl, in_g 1148 rfl rfl, in_g 34 rfl rfl⟩)⟩
theorem jf_115 : JF 115 := ⟨⟨in_g 105 rfl rfl, in_g 81 rfl rfl, rfl, pd_3⟩, Or.inr (Or.inr ⟨rfl, in_g 104 rfl rfl, rfl, rfl⟩)⟩
theorem jf_116 : JF 116 := ⟨⟨in_g 496 rfl rfl, in_g 81 rfl rfl, rfl, pd_26⟩, Or.inr (Or.inl ⟨rfl, in_g 494 rfl rfl, in_g 495 rfl rfl⟩)⟩
theorem jf_117 : JF 117 := ⟨⟨in_g 553 rfl rfl, in_g 81 rfl rfl, rfl, pd_15⟩, Or.inr (Or.inl ⟨rfl, in_g 551 rfl rfl, in_g 552 rfl rfl⟩)⟩
theorem jf_118 : JF 118 := ⟨⟨in_g 573 rfl rfl, in_g 81 rfl rfl, rfl, pd_15⟩, Or.inr (Or.inl ⟨rfl, in_g 571 rfl rfl, in_g 572 rfl rfl⟩)⟩
theorem jf_119 : JF 119 := ⟨⟨in_g 586 rfl rfl, in_g 81 rfl rfl, rfl, pd_15⟩, Or.inr (Or.inl ⟨rfl, in_g 584 rfl rfl, in_g 585 rfl rfl⟩)⟩
theorem jf_120 : JF 120 := ⟨⟨in_g 612 rfl rfl, in_g 81 rfl rfl, rfl, pd_19⟩, Or.inr (Or.inl ⟨rfl, in_g 610 rfl rfl, in_g 611 rfl rfl⟩)⟩
theorem jf_121 : JF 121 := ⟨⟨in_g 626 rfl rfl, in_g 81 rfl rfl, rfl, pd_19⟩, Or.inr (Or.inl ⟨rfl, in_g 624 rfl rfl, in_g 625 rfl rfl⟩)⟩
theorem jf_122 : JF 122 := ⟨⟨in_g 635 rfl rfl, in_g 81 rfl rfl, rfl, pd_15⟩, Or.inr (Or.inl ⟨rfl, in_g 633 rfl rfl, in_g 634 rfl rfl⟩)⟩
theorem jf_123 : JF 123 := ⟨⟨in_g 651 rfl rfl, in_g 81 rfl rfl, rfl, pd_34⟩, Or.inr (Or.inl ⟨rfl, in_g 649 rfl rfl, in_g 650 rfl rfl⟩)⟩
theorem jf_124 : JF 124 := ⟨⟨in_g 659 rfl rfl, in_g 81 rfl rfl, rfl, pd_7⟩, Or.inr (Or.inl ⟨rfl, in_g 657 rfl rfl, in_g 658 rfl rfl⟩)⟩
theorem jf_125 : JF 125 := ⟨⟨in_g 783 rfl rfl, in_g 81 rfl rfl, rfl, pd_15⟩, Or.inr (Or.inl ⟨rfl, in_g 781 rfl rfl, in_g 782 rfl rfl⟩)⟩
theorem jf_126 : JF 126 := ⟨⟨in_g 857 rfl rfl, in_g 81 rfl rfl, rfl, pd_7⟩, Or.inr (Or.inl ⟨rfl, in_g 855 rfl rfl, in_g 856 rfl rfl⟩)⟩
theorem jf_127 : JF 127 := ⟨⟨in_g 865 rfl rfl, in_g 81 rfl rfl, rfl, pd_15⟩, Or.inr (Or.inl ⟨rfl, in_g 863 rfl rfl, in_g 864 rfl rfl⟩)⟩
theorem jf_128 : JF 128 := ⟨⟨in_g 882 rfl rfl, in_g 81 rfl rfl, rfl, pd_15⟩, Or.inr (Or.inl ⟨rfl, in_g 880 rfl rfl, in_g 881 rfl rfl⟩)⟩
theorem jf_129 : JF 129 := ⟨⟨in_g 895 rfl rfl, in_g 81 rfl rfl, rfl, pd_7⟩, Or.inr (Or.inl ⟨rfl, in_g 893 rfl rfl, in_g 894 rfl rfl⟩)⟩
theorem jf_130 : JF 130 := ⟨⟨in_g 930 rfl rfl, in_g 81 rfl rfl, rfl, pd_15⟩, Or.inr (Or.inl ⟨rfl, in_g 928 rfl rfl, in_g 929 rfl rfl⟩)⟩
theorem jf_131 : JF 131 := ⟨⟨in_g 935 rfl rfl, in_g 81 rfl rfl, rfl, pd_16⟩, Or.inr (Or.inl ⟨rfl, in_g 933 rfl rfl, in_g 934 rfl rfl⟩)⟩
theorem jf_132 : JF 132 := ⟨⟨in_g 940 rfl rfl, in_g 81 rfl rfl, rfl, pd_15⟩, Or.inr (Or.inl ⟨rfl, in_g 938 rfl rfl, in_g 939 rfl rfl⟩)⟩
theorem jf_133 : JF 133 := ⟨⟨in_g 947 rfl rfl, in_g 81 rfl rfl, rfl, pd_19⟩, Or.inr (Or.inl ⟨rfl, in_g 945 rfl rfl, in_g 946 rfl rfl⟩)⟩
theorem jf_134 : JF 134 := ⟨⟨in_g 972 rfl rfl, in_g 81 rfl rfl, rfl, pd_19⟩, Or.inr (Or.inl ⟨rfl, in_g 970 rfl rfl, in_g 971 rfl rfl⟩)⟩
theorem jf_135 : JF 135 := ⟨⟨in_g 990 rfl rfl, in_g 81 rfl rfl, rfl, pd_22⟩, Or.inr (Or.inl ⟨rfl, in_g 988 rfl rfl, in_g 989 rfl rfl⟩)⟩
theorem jf_136 : JF 136 := ⟨⟨in_g 1004 rfl rfl, in_g 81 rfl rfl, rfl, pd_15⟩, Or.inr (Or.inl ⟨rfl, in_g 1002 rfl rfl, in_g 1003 rfl rfl⟩)⟩
theorem jf_137 : JF 137 := ⟨⟨in_g 1008 rfl rfl, in_g 81 rfl rfl, rfl, pd_22⟩, Or.inr (Or.inl ⟨rfl, in_g 1006 rfl rfl, in_g 1007 rfl rfl⟩)⟩
theorem jf_138 : JF 138 := ⟨⟨in_g 1020 rfl rfl, in_g 81 rfl rfl, rfl, pd_19⟩, Or.inr (Or.inl ⟨rfl, in_g 1018 rfl rfl, in_g 1019 rfl rfl⟩)⟩
theorem jf_139 : JF 139 := ⟨⟨in_g 1044 rfl rfl, in_g 81 rfl rfl, rfl, pd_19⟩, Or.inr (Or.inl ⟨rfl, in_g 1042 rfl rfl, in_g 1043 rfl rfl⟩)⟩
theorem jf_140 : JF 140 := ⟨⟨in_g 1057 rfl rfl, in_g 81 rfl rfl, rfl, pd_15⟩, Or.inr (Or.inl ⟨rfl, in_g 1055 rfl rfl, in_g 1056 rfl rfl⟩)⟩
theorem jf_141 : JF 141 := ⟨⟨in_g 1065 rfl rfl, in_g 81 rfl rfl, rfl, pd_15⟩, Or.inr (Or.inl ⟨rfl, in_g 1063 rfl rfl, in_g 1064 rfl rfl⟩)⟩
theorem jf_142 : JF 142 := ⟨⟨in_g 1078 rfl rfl, in_g 81 rfl rfl, rfl, pd_15⟩, Or.inr (Or.inl ⟨rfl, in_g 1076 rfl rfl, in_g 1077 rfl rfl⟩)⟩
theorem jf_143 : JF 143 := ⟨⟨in_g 1086 rfl rfl, in_g 81 rfl rfl, rfl, pd_7⟩, Or.inr (Or.inl ⟨rfl, in_g 1084 rfl rfl, in_g 1085 rfl rfl⟩)⟩
theorem jf_144 : JF 144 := ⟨⟨in_g 1098 rfl rfl, in_g 81 rfl rfl, rfl, pd_19⟩, Or.inr (Or.inl ⟨rfl, in_g 1096 rfl rfl, in_g 1097 rfl rfl⟩)⟩
theorem jf_145 : JF 145 := ⟨⟨in_g 1111 rfl rfl, in_g 81 rfl rfl, rfl, pd_7⟩, Or.inr (Or.inl ⟨rfl, in_g 1109 rfl rfl, in_g 1110 rfl rfl⟩)⟩
theorem jf_146 : JF 146 := ⟨⟨in_g 1127 rfl rfl, in_g 81 rfl rfl, rfl, pd_19⟩, Or.inr (Or.inl ⟨rfl, in_g 1125 rfl rfl, in_g 1126 rfl rfl⟩)⟩
theorem jf_147 : JF 147 := ⟨⟨in_g 1154 rfl rfl, in_g 81 rfl rfl, rfl, pd_7⟩, Or.inr (Or.inl ⟨rfl, in_g 1152 rfl rfl, in_g 1153 rfl rfl⟩)⟩
theorem jf_148 : JF 148 := ⟨⟨in_g 1162 rfl rfl, in_g 81 rfl rfl, rfl, pd_19⟩, Or.inr (Or.inl ⟨rfl, in_g 1160 rfl rfl, in_g 1161 rfl rfl⟩)⟩
theorem jf_149 : JF 149 := ⟨⟨in_g 1172 rfl rfl, in_g 81 rfl rfl, rfl, pd_19⟩, Or.inr (Or.inl ⟨rfl, in_g 1170 rfl rfl, in_g 1171 rfl rfl⟩)⟩
theorem jf_150 : JF 150 := ⟨⟨in_g 1181 rfl rfl, in_g 81 rfl rfl, rfl, pd_26⟩, Or.inr (Or.inl ⟨rfl, in_g 1179 rfl rfl, in_g 1180 rfl rfl⟩)⟩
theorem jf_151 : JF 151 := ⟨⟨in_g 1186 rfl rfl, in_g 81 rfl rfl, rfl, pd_1⟩, Or.inr (Or.inl ⟨rfl, in_g 1184 rfl rfl, in_g 1185 rfl rfl⟩)⟩
theorem jf_152 : JF 152 := ⟨⟨in_g 1212 rfl rfl, in_g 81 rfl rfl, rfl, pd_1⟩, Or.inr (Or.inl ⟨rfl, in_g 1210 rfl rfl, in_g 1211 rfl rfl⟩)⟩
theorem jf_153 : JF 153 := ⟨⟨in_g 1216 rfl rfl, in_g 81 rfl rfl, rfl, pd_7⟩, Or.inr (Or.inl ⟨rfl, in_g 1214 rfl rfl, in_g 1215 rfl rfl⟩)⟩
theorem jf_154 : JF 154 := ⟨⟨in_g 1224 rfl rfl, in_g 81 rfl rfl, rfl, pd_15⟩, Or.inr (Or.inl ⟨rfl, in_g 1222 rfl rfl, in_g 1223 rfl rfl⟩)⟩
theorem jf_155 : JF 155 := ⟨⟨in_g 1241 rfl rfl, in_g 81 rfl rfl, rfl, pd_7⟩, Or.inr (Or.inl ⟨rfl, in_g 1239 rfl rfl, in_g 1240 rfl rfl⟩)⟩
theorem jf_156 : JF 156 := ⟨⟨in_g 1257 rfl rfl, in_g 81 rfl rfl, rfl, pd_7⟩, Or.inr (Or.inl ⟨rfl, in_g 1255 rfl rfl, in_g 1256 rfl rfl⟩)⟩
theorem jf_157 : JF 157 := ⟨⟨in_g 510 rfl rfl, in_g 81 rfl rfl, rfl, pd_7⟩, Or.inr (Or.inl ⟨rfl, in_g 509 rfl rfl, in_g 1 rfl rfl⟩)⟩
theorem jf_158 : JF 158 := ⟨⟨in_g 891 rfl rfl, in_g 81 rfl rfl, rfl, pd_7⟩, Or.inr (Or.inl ⟨rfl, in_g 890 rfl rfl, in_g 22 rfl rfl⟩)⟩
theorem jf_159 : JF 159 := ⟨⟨in_g 500 rfl rfl, in_g 81 rfl rfl, rfl, pd_11⟩, Or.inr (Or.inl ⟨rfl, in_g 499 rfl rfl, in_g 0 rfl rfl⟩)⟩
theorem jf_160 : JF 160 := ⟨⟨in_g 951 rfl rfl, in_g 81 rfl rfl, rfl, pd_17⟩, Or.inr (Or.inl ⟨rfl, in_g 950 rfl rfl, in_g 26 rfl rfl⟩)⟩
theorem jf_161 : JF 161 := ⟨⟨in_g 976 rfl rfl, in_g 81 rfl rfl, rfl, pd_17⟩, Or.inr (Or.inl ⟨rfl, in_g 975 rfl rfl, in_g 27 rfl rfl⟩)⟩
theorem jf_162 : JF 162 := ⟨⟨in_g 1102 rfl rfl, in_g 81 rfl rfl, rfl, pd_46⟩, Or.inr (Or.inl ⟨rfl, in_g 1101 rfl rfl, in_g 31 rfl rfl⟩)⟩
theorem jf_163 : JF 163 := ⟨⟨in_g 1106 rfl rfl, in_g 81 rfl rfl, rfl, pd_19⟩, Or.inl ⟨rfl, in_g 1105 rfl rfl⟩⟩
theorem jf_164 : JF 164 := ⟨⟨in_g 1120 rfl rfl, in_g 81 rfl rfl, rfl, pd_15⟩, Or.inl ⟨rfl, in_g 1119 rfl rfl⟩⟩
theorem jf_165 : JF 165 := ⟨⟨in_g 1228 rfl rfl, in_g 81 rfl rfl, rfl, pd_33⟩, Or.inr (Or.inl ⟨rfl, in_g 1227 rfl rfl, in_g 35 rfl rfl⟩)⟩
theorem jf_166 : JF 166 := ⟨⟨in_g 503 rfl rfl, in_g 81 rfl rfl, rfl, pd_21⟩, Or.inl ⟨rfl, in_g 502 rfl rfl⟩⟩
theorem jf_167 : JF 167 := ⟨⟨in_g 506 rfl rfl, in_g 81 rfl rfl, rfl, pd_14⟩, Or.inl ⟨rfl, in_g 505 rfl rfl⟩⟩
theorem jf_168 : JF 168 := ⟨⟨in_g 943 rfl rfl, in_g 81 rfl rfl, rfl, pd_14⟩, Or.inl ⟨rfl, in_g 942 rfl rfl⟩⟩
theorem jf_169 : JF 169 := ⟨⟨in_g 1011 rfl rfl, in_g 81 rfl rfl, rfl, pd_14⟩, Or.inl ⟨rfl, in_g 1010 rfl rfl⟩⟩
theorem jf_170 : JF 170 := ⟨⟨in_g 589 rfl rfl, in_g 81 rfl rfl, rfl, pd_14⟩, Or.inl ⟨rfl, in_g 588 rfl rfl⟩⟩
theorem jf_171 : JF 171 := ⟨⟨in_g 993 rfl rfl, in_g 81 rfl rfl, rfl, pd_14⟩, Or.inl ⟨rfl, in_g 992 rfl rfl⟩⟩
theorem jf_172 : JF 172 := ⟨⟨in_g 604 rfl rfl, in_g 81 rfl rfl, rfl, pd_22⟩, Or.inl ⟨rfl, in_g 603 rfl rfl⟩⟩
theorem jf_173 : JF 173 := ⟨⟨in_g 1262 rfl rfl, in_g 93 rfl rfl, rfl, pd_3⟩, Or.inr (Or.inr ⟨rfl, in_g 1261 rfl rfl, rfl, rfl⟩)⟩
theorem jf_174 : JF 174 := ⟨⟨in_g 1402 rfl rfl, in_g 93 rfl rfl, rfl, pd_7⟩, Or.inr (Or.inl ⟨rfl, in_g 1401 rfl rfl, in_g 36 rfl rfl⟩)⟩
theorem jf_175 : JF 175 := ⟨⟨in_g 1394 rfl rfl, in_g 93 rfl rfl, rfl, pd_21⟩, Or.inl ⟨rfl, in_g 1393 rfl rfl⟩⟩
theorem jf_176 : JF 176 := ⟨⟨in_g 1413 rfl rfl, in_g 93 rfl rfl, rfl, pd_18⟩, Or.inr (Or.inl ⟨rfl, in_g 1412 rfl rfl, in_g 37 rfl rfl⟩)⟩
theorem jf_177 : JF 177 := ⟨⟨in_g 1695 rfl rfl, in_g 93 rfl rfl, rfl, pd_18⟩, Or.inl ⟨rfl, in_g 1694 rfl rfl⟩⟩
theorem jf_178 : JF 178 := ⟨⟨in_g 1702 rfl rfl, in_g 93 rfl rfl, rfl, pd_7⟩, Or.inl ⟨rfl, in_g 1701 rfl rfl⟩⟩
theorem jf_179 : JF 179 := ⟨⟨in_g 1475 rfl rfl, in_g 93 rfl rfl, rfl, pd_15⟩, Or.inr (Or.inl ⟨rfl, in_g 1474 rfl rfl, in_g 46 rfl rfl⟩)⟩
theorem jf_180 : JF 180 := ⟨⟨in_g 1421 rfl rfl, in_g 93 rfl rfl, rfl, pd_15⟩, Or.inr (Or.inl ⟨rfl, in_g 1420 rfl rfl, in_g 39 rfl rfl⟩)⟩
theorem jf_181 : JF 181 := ⟨⟨in_g 1391 rfl rfl, in_g 93 rfl rfl, rfl, pd_26⟩, Or.inr (Or.inl ⟨rfl, in_g 1389 rfl rfl, in_g 1390 rfl rfl⟩)⟩
theorem jf_182 : JF 182 := ⟨⟨in_g 1417 rfl rfl, in_g 93 rfl rfl, rfl, pd_7⟩, Or.inr (Or.inl ⟨rfl, in_g 1416 rfl rfl, in_g 38 rfl rfl⟩)⟩
theorem jf_183 : JF 183 := ⟨⟨in_g 1467 rfl rfl, in_g 93 rfl rfl, rfl, pd_15⟩, Or.inr (Or.inl ⟨rfl, in_g 1466 rfl rfl, in_g 45 rfl rfl⟩)⟩
theorem jf_184 : JF 184 := ⟨⟨in_g 1429 rfl rfl, in_g 93 rfl rfl, rfl, pd_15⟩, Or.inr (Or.inl ⟨rfl, in_g 1428 rfl rfl, in_g 41 rfl rfl⟩)⟩
theorem jf_185 : JF 185 := ⟨⟨in_g 1425 rfl rfl, in_g 93 rfl rfl, rfl, pd_18⟩, Or.inr (Or.inl ⟨rfl, in_g 1424 rfl rfl, in_g 40 rfl rfl⟩)⟩
theorem jf_186 : JF 186 := ⟨⟨in_g 1409 rfl rfl, in_g 93 rfl rfl, rfl, pd_15⟩, Or.inr (Or.inl ⟨rfl, in_g 1407 rfl rfl, in_g 1408 rfl rfl⟩)⟩
theorem jf_187 : JF 187 := ⟨⟨in_g 1436 rfl rfl, in_g 93 rfl rfl, rfl, pd_7⟩, Or.inl ⟨rfl, in_g 1435 rfl rfl⟩⟩
theorem jf_188 : JF 188 := ⟨⟨in_g 1433 rfl rfl, in_g 93 rfl rfl, rfl, pd_15⟩, Or.inr (Or.inl ⟨rfl, in_g 1431 rfl rfl, in_g 1432 rfl rfl⟩)⟩
theorem jf_189 : JF 189 := ⟨⟨in_g 1449 rfl rfl, in_g 93 rfl rfl, rfl, pd_7⟩, Or.inr (Or.inl ⟨rfl, in_g 1448 rfl rfl, in_g 43 rfl rfl⟩)⟩
theorem jf_190 : JF 190 := ⟨⟨in_g 1445 rfl rfl, in_g 93 rfl rfl, rfl, pd_15⟩, Or.inr (Or.inl ⟨rfl, in_g 1444 rfl rfl, in_g 42 rfl rfl⟩)⟩
theorem jf_191 : JF 191 := ⟨⟨in_g 1441 rfl rfl, in_g 93 rfl rfl, rfl, pd_15⟩, Or.inr (Or.inl ⟨rfl, in_g 1439 rfl rfl, in_g 1440 rfl rfl⟩)⟩
theorem jf_192 : JF 192 := ⟨⟨in_g 1459 rfl rfl, in_g 93 rfl rfl, rfl, pd_24⟩, Or.inr (Or.inl ⟨rfl, in_g 1458 rfl rfl, in_g 44 rfl rfl⟩)⟩
theorem jf_193 : JF 193 := ⟨⟨in_g 1454 rfl rfl, in_g 93 rfl rfl, rfl, pd_19⟩, Or.inr (Or.inl ⟨rfl, in_g 1452 rfl rfl, in_g 1453 rfl rfl⟩)⟩
theorem jf_194 : JF 194 := ⟨⟨in_g 1463 rfl rfl, in_g 93 rfl rfl, rfl, pd_19⟩, Or.inr (Or.inl ⟨rfl, in_g 1461 rfl rfl, in_g 1462 rfl rfl⟩)⟩
theorem jf_195 : JF 195 := ⟨⟨in_g 1471 rfl rfl, in_g 93 rfl rfl, rfl, pd_15⟩, Or.inr (Or.inl ⟨rfl, in_g 1469 rfl rfl, in_g 1470 rfl rfl⟩)⟩
theorem jf_196 : JF 196 := ⟨⟨in_g 1479 rfl rfl, in_g 93 rfl rfl, rfl, pd_34⟩, Or.inr (Or.inl ⟨rfl, in_g 1477 rfl rfl, in_g 1478 rfl rfl⟩)⟩
theorem jf_197 : JF 197 := ⟨⟨in_g 1496 rfl rfl, in_g 93 rfl rfl, rfl, pd_21⟩, Or.inr (Or.inl ⟨rfl, in_g 1495 rfl rfl, in_g 49 rfl rfl⟩)⟩
theorem jf_198 : JF 198 := ⟨⟨in_g 1492 rfl rfl, in_g 93 rfl rfl, rfl, pd_3⟩, Or.inr (Or.inl ⟨rfl, in_g 1491 rfl rfl, in_g 48 rfl rfl⟩)⟩
theorem jf_199 : JF 199 := ⟨⟨in_g 1504 rfl rfl, in_g 93 rfl rfl, rfl, pd_48⟩, Or.inr (Or.inl ⟨rfl, in_g 1503 rfl rfl, in_g 51 rfl rfl⟩)⟩
theorem jf_200 : JF 200 := ⟨⟨in_g 1510 rfl rfl, in_g 93 rfl rfl, rfl, pd_1⟩, Or.inr (Or.inl ⟨rfl, in_g 1509 rfl rfl, in_g 52 rfl rfl⟩)⟩
theorem jf_201 : JF 201 := ⟨⟨in_g 1500 rfl rfl, in_g 93 rfl rfl, rfl, pd_3⟩, Or.inr (Or.inl ⟨rfl, in_g 1499 rfl rfl, in_g 50 rfl rfl⟩)⟩
theorem jf_202 : JF 202 := ⟨⟨in_g 1488 rfl rfl, in_g 93 rfl rfl, rfl, pd_14⟩, Or.inr (Or.inl ⟨rfl, in_g 1487 rfl rfl, in_g 47 rfl rfl⟩)⟩
theorem jf_203 : JF 203 := ⟨⟨in_g 1484 rfl rfl, in_g 93 rfl rfl, rfl, pd_7⟩, Or.inr (Or.inl ⟨rfl, in_g 1482 rfl rfl, in_g 1483 rfl rfl⟩)⟩
theorem jf_204 : JF 204 := ⟨⟨in_g 1521 rfl rfl, in_g 93 rfl rfl, rfl, pd_14⟩, Or.inr (Or.inl ⟨rfl, in_g 1520 rfl rfl, in_g 53 rfl rfl⟩)⟩
theorem jf_205 : JF 205 := ⟨⟨in_g 1537 rfl rfl, in_g 93 rfl rfl, rfl, pd_1⟩, Or.inr (Or.inl ⟨rfl, in_g 1536 rfl rfl, in_g 57 rfl rfl⟩)⟩
theorem jf_206 : JF 206 := ⟨⟨in_g 1545 rfl rfl, in_g 93 rfl rfl, rfl, pd_3⟩, Or.inr (Or.inl ⟨rfl, in_g 1544 rfl rfl, in_g 59 rfl rfl⟩)⟩
theorem jf_207 : JF 207 := ⟨⟨in_g 1533 rfl rfl, in_g 93 rfl rfl, rfl, pd_4⟩, Or.inr (Or.inl ⟨rfl, in_g 1532 rfl rfl, in_g 56 rfl rfl⟩)⟩
theorem jf_208 : JF 208 := ⟨⟨in_g 1541 rfl rfl, in_g 93 rfl rfl, rfl, pd_3⟩, Or.inr (Or.inl ⟨rfl, in_g 1540 rfl rfl, in_g 58 rfl rfl⟩)⟩
theorem jf_209 : JF 209 := ⟨⟨in_g 1529 rfl rfl, in_g 93 rfl rfl, rfl, pd_17⟩, Or.inr (Or.inl ⟨rfl, in_g 1528 rfl rfl, in_g 55 rfl rfl⟩)⟩
theorem jf_210 : JF 210 := ⟨⟨in_g 1525 rfl rfl, in_g 93 rfl rfl, rfl, pd_15⟩, Or.inr (Or.inl ⟨rfl, in_g 1524 rfl rfl, in_g 54 rfl rfl⟩)⟩
theorem jf_211 : JF 211 := ⟨⟨in_g 1517 rfl rfl, in_g 93 rfl rfl, rfl, pd_15⟩, Or.inr (Or.inl ⟨rfl, in_g 1515 rfl rfl, in_g 1516 rfl rfl⟩)⟩
theorem jf_212 : JF 212 := ⟨⟨in_g 1549 rfl rfl, in_g 93 rfl rfl, rfl, pd_7⟩, Or.inr (Or.inl ⟨rfl, in_g 1547 rfl rfl, in_g 1548 rfl rfl⟩)⟩
theorem jf_213 : JF 213 := ⟨⟨in_g 1561 rfl rfl, in_g 93 rfl rfl, rfl, pd_25⟩, Or.inr (Or.inl ⟨rfl, in_g 1560 rfl rfl, in_g 61 rfl rfl⟩)⟩
theorem jf_214 : JF 214 := ⟨⟨in_g 1557 rfl rfl, in_g 93 rfl rfl, rfl, pd_14⟩, Or.inr (Or.inl ⟨rfl, in_g 1556 rfl rfl, in_g 60 rfl rfl⟩)⟩
theorem jf_215 : JF 215 := ⟨⟨in_g 1553 rfl rfl, in_g 93 rfl rfl, rfl, pd_15⟩, Or.inr (Or.inl ⟨rfl, in_g 1551 rfl rfl, in_g 1552 rfl rfl⟩)⟩
theorem jf_216 : JF 216 := ⟨⟨in_g 1569 rfl rfl, in_g 93 rfl rfl, rfl, pd_15⟩, Or.inr (Or.inl ⟨rfl, in_g 1568 rfl rfl, in_g 62 rfl rfl⟩)⟩
theorem jf_217 : JF 217 := ⟨⟨in_g 1565 rfl rfl, in_g 93 rfl rfl, rfl, pd_15⟩, Or.inr (Or.inl ⟨rfl, in_g 1563 rfl rfl, in_g 1564 rfl rfl⟩)⟩
theorem jf_218 : JF 218 := ⟨⟨in_g 1577 rfl rfl, in_g 93 rfl rfl, rfl, pd_7⟩, Or.inr (Or.inl ⟨rfl, in_g 1576 rfl rfl, in_g 63 rfl rfl⟩)⟩
theorem jf_219 : JF 219 := ⟨⟨in_g 1573 rfl rfl, in_g 93 rfl rfl, rfl, pd_7⟩, Or.inr (Or.inl ⟨rfl, in_g 1571 rfl rfl, in_g 1572 rfl rfl⟩)⟩
theorem jf_220 : JF 220 := ⟨⟨in_g 1585 rfl rfl, in_g 93 rfl rfl, rfl, pd_15⟩, Or.inr (Or.inl ⟨rfl, in_g 1584 rfl rfl, in_g 64 rfl rfl⟩)⟩
theorem jf_221 : JF 221 := ⟨⟨in_g 1581 rfl rfl, in_g 93 rfl rfl, rfl, pd_15⟩, Or.inr (Or.inl ⟨rfl, in_g 1579 rfl rfl, in_g 1580 rfl rfl⟩)⟩
theorem jf_222 : JF 222 := ⟨⟨in_g 1594 rfl rfl, in_g 93 rfl rfl, rfl, pd_16⟩, Or.inr (Or.inl ⟨rfl, in_g 1593 rfl rfl, in_g 65 rfl rfl⟩)⟩
theorem jf_223 : JF 223 := ⟨⟨in_g 1590 rfl rfl, in_g 93 rfl rfl, rfl, pd_16⟩, Or.inr (Or.inl ⟨rfl, in_g 1588 rfl rfl, in_g 1589 rfl rfl⟩)⟩
theorem jf_224 : JF 224 := ⟨⟨in_g 1605 rfl rfl, in_g 93 rfl rfl, rfl, pd_15⟩, Or.inr (Or.inl ⟨rfl, in_g 1604 rfl rfl, in_g 66 rfl rfl⟩)⟩
theorem jf_225 : JF 225 := ⟨⟨in_g 1601 rfl rfl, in_g 93 rfl rfl, rfl, pd_14⟩, Or.inl ⟨rfl, in_g 1600 rfl rfl⟩⟩
theorem jf_226 : JF 226 := ⟨⟨in_g 1598 rfl rfl, in_g 93 rfl rfl, rfl, pd_15⟩, Or.inr (Or.inl ⟨rfl, in_g 1596 rfl rfl, in_g 1597 rfl rfl⟩)⟩
theorem jf_227 : JF 227 := ⟨⟨in_g 1622 rfl rfl, in_g 93 rfl rfl, rfl, pd_17⟩, Or.inr (Or.inl ⟨rfl, in_g 1621 rfl rfl, in_g 68 rfl rfl⟩)⟩
theorem jf_228 : JF 228 := ⟨⟨in_g 1618 rfl rfl, in_g 93 rfl rfl, rfl, pd_15⟩, Or.inr (Or.inl ⟨rfl, in_g 1617 rfl rfl, in_g 67 rfl rfl⟩)⟩
theorem jf_229 : JF 229 := ⟨⟨in_g 1614 rfl rfl, in_g 93 rfl rfl, rfl, pd_14⟩, Or.inl ⟨rfl, in_g 1613 rfl rfl⟩⟩
theorem jf_230 : JF 230 := ⟨⟨in_g 1611 rfl rfl, in_g 93 rfl rfl, rfl, pd_19⟩, Or.inr (Or.inl ⟨rfl, in_g 1609 rfl rfl, in_g 1610 rfl rfl⟩)⟩
theorem jf_231 : JF 231 := ⟨⟨in_g 1630 rfl rfl, in_g 93 rfl rfl, rfl, pd_17⟩, Or.inr (Or.inl ⟨rfl, in_g 1629 rfl rfl, in_g 69 rfl rfl⟩)⟩
theorem jf_232 : JF 232 := ⟨⟨in_g 1626 rfl rfl, in_g 93 rfl rfl, rfl, pd_19⟩, Or.inr (Or.inl ⟨rfl, in_g 1624 rfl rfl, in_g 1625 rfl rfl⟩)⟩
theorem jf_233 : JF 233 := ⟨⟨in_g 1640 rfl rfl, in_g 93 rfl rfl, rfl, pd_19⟩, Or.inl ⟨rfl, in_g 1639 rfl rfl⟩⟩
theorem jf_234 : JF 234 := ⟨⟨in_g 1637 rfl rfl, in_g 93 rfl rfl, rfl, pd_18⟩, Or.inl ⟨rfl, in_g 1636 rfl rfl⟩⟩
theorem jf_235 : JF 235 := ⟨⟨in_g 1634 rfl rfl, in_g 93 rfl rfl, rfl, pd_22⟩, Or.inr (Or.inl ⟨rfl, in_g 1632 rfl rfl, in_g 1633 rfl rfl⟩)⟩
theorem jf_236 : JF 236 := ⟨⟨in_g 1645 rfl rfl, in_g 93 rfl rfl, rfl, pd_15⟩, Or.inr (Or.inl ⟨rfl, in_g 1643 rfl rfl, in_g 1644 rfl rfl⟩)⟩
theorem jf_237 : JF 237 := ⟨⟨in_g 1652 rfl rfl, in_g 93 rfl rfl, rfl, pd_14⟩, Or.inl ⟨rfl, in_g 1651 rfl rfl⟩⟩
theorem jf_238 : JF 238 := ⟨⟨in_g 1660 rfl rfl, in_g 93 rfl rfl, rfl, pd_15⟩, Or.inr (Or.inl ⟨rfl, in_g 1659 rfl rfl, in_g 70 rfl rfl⟩)⟩
theorem jf_239 : JF 239 := ⟨⟨in_g 1649 rfl rfl, in_g 93 rfl rfl, rfl, pd_22⟩, Or.inr (Or.inl ⟨rfl, in_g 1647 rfl rfl, in_g 1648 rfl rfl⟩)⟩
theorem jf_240 : JF 240 := ⟨⟨in_g 1664 rfl rfl, in_g 93 rfl rfl, rfl, pd_15⟩, Or.inr (Or.inl ⟨rfl, in_g 1663 rfl rfl, in_g 71 rfl rfl⟩)⟩
theorem jf_241 : JF 241 := ⟨⟨in_g 1656 rfl rfl, in_g 93 rfl rfl, rfl, pd_19⟩, Or.inr (Or.inl ⟨rfl, in_g 1654 rfl rfl, in_g 1655 rfl rfl⟩)⟩
theorem jf_242 : JF 242 := ⟨⟨in_g 1676 rfl rfl, in_g 93 rfl rfl, rfl, pd_15⟩, Or.inr (Or.inl ⟨rfl, in_g 1675 rfl rfl, in_g 72 rfl rfl⟩)⟩
theorem jf_243 : JF 243 := ⟨⟨in_g 1668 rfl rfl, in_g 93 rfl rfl, rfl, pd_19⟩, Or.inr (Or.inl ⟨rfl, in_g 1666 rfl rfl, in_g 1667 rfl rfl⟩)⟩
theorem jf_244 : JF 244 := ⟨⟨in_g 1672 rfl rfl, in_g 93 rfl rfl, rfl, pd_15⟩, Or.inr (Or.inl ⟨rfl, in_g 1670 rfl rfl, in_g 1671 rfl rfl⟩)⟩
theorem jf_245 : JF 245 := ⟨⟨in_g 1680 rfl rfl, in_g 93 rfl rfl, rfl, pd_15⟩, Or.inr (Or.inl ⟨rfl, in_g 1678 rfl rfl, in_g 1679 rfl rfl⟩)⟩
theorem jf_246 : JF 246 := ⟨⟨in_g 1684 rfl rfl, in_g 93 rfl rfl, rfl, pd_15⟩, Or.inr (Or.inl ⟨rfl, in_g 1682 rfl rfl, in_g 1683 rfl rfl⟩)⟩
theorem jf_247 : JF 247 := ⟨⟨in_g 1688 rfl rfl, in_g 93 rfl rfl, rfl, pd_7⟩, Or.inr (Or.inl ⟨rfl, in_g 1686 rfl rfl, in_g 1687 rfl rfl⟩)⟩
theorem jf_248 : JF 248 := ⟨⟨in_g 1692 rfl rfl, in_g 93 rfl rfl, rfl, pd_19⟩, Or.inr (Or.inl ⟨rfl, in_g 1690 rfl rfl, in_g 1691 rfl rfl⟩)⟩
theorem jf_249 : JF 249 := ⟨⟨in_g 1699 rfl rfl, in_g 93 rfl rfl, rfl, pd_7⟩, Or.inr (Or.inl ⟨rfl, in_g 1697 rfl rfl, in_g 1698 rfl rfl⟩)⟩
theorem jf_250 : JF 250 := ⟨⟨in_g 1726 rfl rfl, in_g 93 rfl rfl, rfl, pd_13⟩, Or.inr (Or.inl ⟨rfl, in_g 1725 rfl rfl, in_g 76 rfl rfl⟩)⟩
theorem jf_251 : JF 251 := ⟨⟨in_g 1718 rfl rfl, in_g 93 rfl rfl, rfl, pd_18⟩, Or.inl ⟨rfl, in_g 1717 rfl rfl⟩⟩
theorem jf_252 : JF 252 := ⟨⟨in_g 1711 rfl rfl, in_g 93 rfl rfl, rfl, pd_15⟩, Or.inr (Or.inl ⟨rfl, in_g 1710 rfl rfl, in_g 73 rfl rfl⟩)⟩
theorem jf_253 : JF 253 := ⟨⟨in_g 1715 rfl rfl, in_g 93 rfl rfl, rfl, pd_19⟩, Or.inr (Or.inl ⟨rfl, in_g 1714 rfl rfl, in_g 74 rfl rfl⟩)⟩
theorem jf_254 : JF 254 := ⟨⟨in_g 1722 rfl rfl, in_g 93 rfl rfl, rfl, pd_19⟩, Or.inr (Or.inl ⟨rfl, in_g 1721 rfl rfl, in_g 75 rfl rfl⟩)⟩
theorem jf_255 : JF 255 := ⟨⟨in_g 1707 rfl rfl, in_g 93 rfl rfl, rfl, pd_19⟩, Or.inr (Or.inl ⟨rfl, in_g 1705 rfl rfl, in_g 1706 rfl rfl⟩)⟩
theorem jf_256 : JF 256 := ⟨⟨in_g 1731 rfl rfl, in_g 93 rfl rfl, rfl, pd_7⟩, Or.inr (Or.inl ⟨rfl, in_g 1729 rfl rfl, in_g 1730 rfl rfl⟩)⟩
theorem jf_257 : JF 257 := ⟨⟨in_g 1397 rfl rfl, in_g 93 rfl rfl, rfl, pd_14⟩, Or.inl ⟨rfl, in_g 1396 rfl rfl⟩⟩
theorem jf_258 : JF 258 := ⟨⟨in_g 1735 rfl rfl, in_g 93 rfl rfl, rfl, pd_19⟩, Or.inr (Or.inl ⟨rfl, in_g 1733 rfl rfl, in_g 1734 rfl rfl⟩)⟩
theorem jf_259 : JF 259 := ⟨⟨in_g 1739 rfl rfl, in_g 93 rfl rfl, rfl, pd_19⟩, Or.inr (Or.inl ⟨rfl, in_g 1737 rfl rfl, in_g 1738 rfl rfl⟩)⟩
theorem jf_260 : JF 260 := ⟨⟨in_g 1743 rfl rfl, in_g 93 rfl rfl, rfl, pd_26⟩, Or.inr (Or.inl ⟨rfl, in_g 1741 rfl rfl, in_g 1742 rfl rfl⟩)⟩
theorem jf_261 : JF 261 := ⟨⟨in_g 1750 rfl rfl, in_g 93 rfl rfl, rfl, pd_52⟩, Or.inl ⟨rfl, in_g 1749 rfl rfl⟩⟩
theorem jf_262 : JF 262 := ⟨⟨in_g 1747 rfl rfl, in_g 93 rfl rfl, rfl, pd_1⟩, Or.inr (Or.inl ⟨rfl, in_g 1745 rfl rfl, in_g 1746 rfl rfl⟩)⟩
theorem jf_263 : JF 263 := ⟨⟨in_g 1754 rfl rfl, in_g 93 rfl rfl, rfl, pd_1⟩, Or.inr (Or.inl ⟨rfl, in_g 1752 rfl rfl, in_g 1753 rfl rfl⟩)⟩
theorem jf_264 : JF 264 := ⟨⟨in_g 1758 rfl rfl, in_g 93 rfl rfl, rfl, pd_7⟩, Or.inr (Or.inl ⟨rfl, in_g 1756 rfl rfl, in_g 1757 rfl rfl⟩)⟩
theorem jf_265 : JF 265 := ⟨⟨in_g 1762 rfl rfl, in_g 93 rfl rfl, rfl, pd_15⟩, Or.inr (Or.inl ⟨rfl, in_g 1760 rfl rfl, in_g 1761 rfl rfl⟩)⟩
theorem jf_266 : JF 266 := ⟨⟨in_g 1766 rfl rfl, in_g 93 rfl rfl, rfl, pd_7⟩, Or.inr (Or.inl ⟨rfl, in_g 1764 rfl rfl, in_g 1765 rfl rfl⟩)⟩
theorem jf_267 : JF 267 := ⟨⟨in_g 1770 rfl rfl, in_g 93 rfl rfl, rfl, pd_7⟩, Or.inr (Or.inl ⟨rfl, in_g 1768 rfl rfl, in_g 1769 rfl rfl⟩)⟩
theorem jf_268 : JF 268 := ⟨⟨in_g 1114 rfl rfl, in_g 100 rfl rfl, rfl, pd_7⟩, Or.inl ⟨rfl, in_g 1113 rfl rfl⟩⟩
theorem jf_269 : JF 269 := ⟨⟨in_g 835 rfl rfl, in_g 94 rfl rfl, rfl, pd_15⟩, Or.inl ⟨rfl, in_g 834 rfl rfl⟩⟩
theorem jf_270 : JF 270 := ⟨⟨in_g 1123 rfl rfl, in_g 94 rfl rfl, rfl, pd_7⟩, Or.inl ⟨rfl, in_g 1122 rfl rfl⟩⟩
theorem jf_271 : JF 271 := ⟨⟨in_g 608 rfl rfl, in_g 94 rfl rfl, rfl, pd_15⟩, Or.inl ⟨rfl, in_g 607 rfl rfl⟩⟩
theorem jf_272 : JF 272 := ⟨⟨in_g 670 rfl rfl, in_g 94 rfl rfl, rfl, pd_15⟩, Or.inl ⟨rfl, in_g 669 rfl rfl⟩⟩
theorem jf_273 : JF 273 := ⟨⟨in_g 926 rfl rfl, in_g 94 rfl rfl, rfl, pd_35⟩, Or.inl ⟨rfl, in_g 925 rfl rfl⟩⟩
theorem jf_274 : JF 274 := ⟨⟨in_g 701 rfl rfl, in_g 95 rfl rfl, rfl, pd_1⟩, Or.inr (Or.inl ⟨rfl, in_g 699 rfl rfl, in_g 700 rfl rfl⟩)⟩
theorem jf_275 : JF 275 := ⟨⟨in_g 711 rfl rfl, in_g 95 rfl rfl, rfl, pd_6⟩, Or.inr (Or.inl ⟨rfl, in_g 709 rfl rfl, in_g 710 rfl rfl⟩)⟩
theorem jf_276 : JF 276 := ⟨⟨in_g 705 rfl rfl, in_g 95 rfl rfl, rfl, pd_0⟩, Or.inr (Or.inl ⟨rfl, in_g 703 rfl rfl, in_g 704 rfl rfl⟩)⟩
theorem jf_277 : JF 277 := ⟨⟨in_g 715 rfl rfl, in_g 95 rfl rfl, rfl, pd_4⟩, Or.inr (Or.inl ⟨rfl, in_g 713 rfl rfl, in_g 714 rfl rfl⟩)⟩
theorem jf_278 : JF 278 := ⟨⟨in_g 721 rfl rfl, in_g 95 rfl rfl, rfl, pd_17⟩, Or.inl ⟨rfl, in_g 720 rfl rfl⟩⟩
theorem jf_279 : JF 279 := ⟨⟨in_g 718 rfl rfl, in_g 96 rfl rfl, rfl, pd_49⟩, Or.inl ⟨rfl, in_g 717 rfl rfl⟩⟩
theorem jf_280 : JF 280 := ⟨⟨in_g 726 rfl rfl, in_g 97 rfl rfl, rfl, pd_29⟩, Or.inl ⟨rfl, in_g 725 rfl rfl⟩⟩
def allP (P : Nat → Prop) : Nat → Nat → Prop
  | _, 0 => True
  | s, n + 1 => P s ∧ allP P (s + 1) n
theorem allP_get {P : Nat → Prop} : ∀ {n s : Nat}, allP P s n → ∀ j, s ≤ j → j < s + n → P j
  | 0, s, _, j, h1, h2 => by omega
  | n + 1, s, h, j, h1, h2 => by
    by_cases e : j = s
    · rw [e]; exact h.1
    · exact allP_get h.2 j (by omega) (by omega)
theorem ja_0 : allP JF 0 16 := And.intro jf_0 (And.intro jf_1 (And.intro jf_2 (And.intro jf_3 (And.intro jf_4 (And.intro jf_5 (And.intro jf_6 (And.intro jf_7 (And.intro jf_8 (And.intro jf_9 (And.intro jf_10 (And.intro jf_11 (And.intro jf_12 (And.intro jf_13 (And.intro jf_14 (And.intro jf_15 (trivial))))))))))))))))
theorem ja_1 : allP JF 16 16 := And.intro jf_16 (And.intro jf_17 (And.intro jf_18 (And.intro jf_19 (And.intro jf_20 (And.intro jf_21 (And.intro jf_22 (And.intro jf_23 (And.intro jf_24 (And.intro jf_25 (And.intro jf_26 (And.intro jf_27 (And.intro jf_28 (And.intro jf_29 (And.intro jf_30 (And.intro jf_31 (trivial))))))))))))))))
theorem ja_2 : allP JF 32 16 := And.intro jf_32 (And.intro jf_33 (And.intro jf_34 (And.intro jf_35 (And.intro jf_36 (And.intro jf_37 (And.intro jf_38 (And.intro jf_39 (And.intro jf_40 (And.intro jf_41 (And.intro jf_42 (And.intro jf_43 (And.intro jf_44 (And.intro jf_45 (And.intro jf_46 (And.intro jf_47 (trivial))))))))))))))))
theorem ja_3 : allP JF 48 16 := And.intro jf_48 (And.intro jf_49 (And.intro jf_50 (And.intro jf_51 (And.intro jf_52 (And.intro jf_53 (And.intro jf_54 (And.intro jf_55 (And.intro jf_56 (And.intro jf_57 (And.intro jf_58 (And.intro jf_59 (And.intro jf_60 (And.intro jf_61 (And.intro jf_62 (And.intro jf_63 (trivial))))))))))))))))
theorem ja_4 : allP JF 64 16 := And.intro jf_64 (And.intro jf_65 (And.intro jf_66 (And.intro jf_67 (And.intro jf_68 (And.intro jf_69 (And.intro jf_70 (And.intro jf_71 (And.intro jf_72 (And.intro jf_73 (And.intro jf_74 (And.intro jf_75 (And.intro jf_76 (And.intro jf_77 (And.intro jf_78 (And.intro jf_79 (trivial))))))))))))))))
theorem ja_5 : allP JF 80 16 := And.intro jf_80 (And.intro jf_81 (And.intro jf_82 (And.intro jf_83 (And.intro jf_84 (And.intro jf_85 (And.intro jf_86 (And.intro jf_87 (And.intro jf_88 (And.intro jf_89 (And.intro jf_90 (And.intro jf_91 (And.intro jf_92 (And.intro jf_93 (And.intro jf_94 (And.intro jf_95 (trivial))))))))))))))))
theorem ja_6 : allP JF 96 16 := And.intro jf_96 (And.intro jf_97 (And.intro jf_98 (And.intro jf_99 (And.intro jf_100 (And.intro jf_101 (And.intro jf_102 (And.intro jf_103 (And.intro jf_104 (And.intro jf_105 (And.intro jf_106 (And.intro jf_107 (And.intro jf_108 (And.intro jf_109 (And.intro jf_110 (And.intro jf_111 (trivial))))))))))))))))
theorem ja_7 : allP JF 112 16 := And.intro jf_112 (And.intro jf_113 (And.intro jf_114 (And.intro jf_115 (And.intro jf_116 (And.intro jf_117 (And.intro jf_118 (And.intro jf_119 (And.intro jf_120 (And.intro jf_121 (And.intro jf_122 (And.intro jf_123 (And.intro jf_124 (And.intro jf_125 (And.intro jf_126 (And.intro jf_127 (trivial))))))))))))))))
theorem ja_8 : allP JF 128 16 := And.intro jf_128 (And.intro jf_129 (And.intro jf_130 (And.intro jf_131 (And.intro jf_132 (And.intro jf_133 (And.intro jf_134 (And.intro jf_135 (And.intro jf_136 (And.intro jf_137 (And.intro jf_138 (And.intro jf_139 (And.intro jf_140 (And.intro jf_141 (And.intro jf_142 (And.intro jf_143 (trivial))))))))))))))))
theorem ja_9 : allP JF 144 16 := And.intro jf_144 (And.intro jf_145 (And.intro jf_146 (And.intro jf_147 (And.intro jf_148 (And.intro jf_149 (And.intro jf_150 (And.intro jf_151 (And.intro jf_152 (And.intro jf_153 (And.intro jf_154 (And.intro jf_155 (And.intro jf_156 (And.intro jf_157 (And.intro jf_158 (And.intro jf_159 (trivial))))))))))))))))
theorem ja_10 : allP JF 160 16 := And.intro jf_160 (And.intro jf_161 (And.intro jf_162 (And.intro jf_163 (And.intro jf_164 (And.intro jf_165 (And.intro jf_166 (And.intro jf_167 (And.intro jf_168 (And.intro jf_169 (And.intro jf_170 (And.intro jf_171 (And.intro jf_172 (And.intro jf_173 (And.intro jf_174 (And.intro jf_175 (trivial))))))))))))))))
theorem ja_11 : allP JF 176 16 := And.intro jf_176 (And.intro jf_177 (And.intro jf_178 (And.intro jf_179 (And.intro jf_180 (And.intro jf_181 (And.intro jf_182 (And.intro jf_183 (And.intro jf_184 (And.intro jf_185 (And.intro jf_186 (And.intro jf_187 (And.intro jf_188 (And.intro jf_189 (And.intro jf_190 (And.intro jf_191 (trivial))))))))))))))))
theorem ja_12 : allP JF 192 16 := And.intro jf_192 (And.intro jf_193 (And.intro jf_194 (And.intro jf_195 (And.intro jf_196 (And.intro jf_197 (And.intro jf_198 (And.intro jf_199 (And.intro jf_200 (And.intro jf_201 (And.intro jf_202 (And.intro jf_203 (And.intro jf_204 (And.intro jf_205 (And.intro jf_206 (And.intro jf_207 (trivial))))))))))))))))
theorem ja_13 : allP JF 208 16 := And.intro jf_208 (And.intro jf_209 (And.intro jf_210 (And.intro jf_211 (And.intro jf_212 (And.intro jf_213 (And.intro jf_214 (And.intro jf_215 (And.intro jf_216 (And.intro jf_217 (And.intro jf_218 (And.intro jf_219 (And.intro jf_220 (And.intro jf_221 (And.intro jf_222 (And.intro jf_223 (trivial))))))))))))))))
theorem ja_14 : allP JF 224 16 := And.intro jf_224 (And.intro jf_225 (And.intro jf_226 (And.intro jf_227 (And.intro jf_228 (And.intro jf_229 (And.intro jf_230 (And.intro jf_231 (And.intro jf_232 (And.intro jf_233 (And.intro jf_234 (And.intro jf_235 (And.intro jf_236 (And.intro jf_237 (And.intro jf_238 (And.intro jf_239 (trivial))))))))))))))))
theorem ja_15 : allP JF 240 16 := And.intro jf_240 (And.intro jf_241 (And.intro jf_242 (And.intro jf_243 (And.intro jf_244 (And.intro jf_245 (And.intro jf_246 (And.intro jf_247 (And.intro jf_248 (And.intro jf_249 (And.intro jf_250 (And.intro jf_251 (And.intro jf_252 (And.intro jf_253 (And.intro jf_254 (And.intro jf_255 (trivial))))))))))))))))
theorem ja_16 : allP JF 256 16 := And.intro jf_256 (And.intro jf_257 (And.intro jf_258 (And.intro jf_259 (And.intro jf_260 (And.intro jf_261 (And.intro jf_262 (And.intro jf_263 (And.intro jf_264 (And.intro jf_265 (And.intro jf_266 (And.intro jf_267 (And.intro jf_268 (And.intro jf_269 (And.intro jf_270 (And.intro jf_271 (trivial))))))))))))))))
theorem ja_17 : allP JF 272 9 := And.intro jf_272 (And.intro jf_273 (And.intro jf_274 (And.intro jf_275 (And.intro jf_276 (And.intro jf_277 (And.intro jf_278 (And.intro jf_279 (And.intro jf_280 (trivial)))))))))
theorem jAll : ∀ j, j < NM → JF j := by
  intro j h
  unfold NM at h
  by_cases h0 : j < 16
  · exact allP_get ja_0 j (by omega) (by omega)
  by_cases h1 : j < 32
  · exact allP_get ja_1 j (by omega) (by omega)
  by_cases h2 : j < 48
  · exact allP_get ja_2 j (by omega) (by omega)
  by_cases h3 : j < 64
  · exact allP_get ja_3 j (by omega) (by omega)
  by_cases h4 : j < 80
  · exact allP_get ja_4 j (by omega) (by omega)
  by_cases h5 : j < 96
  · exact allP_get ja_5 j (by omega) (by omega)
  by_cases h6 : j < 112
  · exact allP_get ja_6 j (by omega) (by omega)
  by_cases h7 : j < 128
  · exact allP_get ja_7 j (by omega) (by omega)
  by_cases h8 : j < 144
  · exact allP_get ja_8 j (by omega) (by omega)
  by_cases h9 : j < 160
  · exact allP_get ja_9 j (by omega) (by omega)
  by_cases h10 : j < 176
  · exact allP_get ja_10 j (by omega) (by omega)
  by_cases h11 : j < 192
  · exact allP_get ja_11 j (by omega) (by omega)
  by_cases h12 : j < 208
  · exact allP_get ja_12 j (by omega) (by omega)
  by_cases h13 : j < 224
  · exact allP_get ja_13 j (by omega) (by omega)
  by_cases h14 : j < 240
  · exact allP_get ja_14 j (by omega) (by omega)
  by_cases h15 : j < 256
  · exact allP_get ja_15 j (by omega) (by omega)
  by_cases h16 : j < 272
  · exact allP_get ja_16 j (by omega) (by omega)
  by_cases h17 : j < 281
  · exact allP_get ja_17 j (by omega) (by omega)
  omega
theorem oC_ne : ∀ o, o < 20 → oC o ≠ "java/lang/invoke/MethodHandle" ∧ oC o ≠ "java/lang/invoke/VarHandle" := by decide +kernel
theorem oC_pl : ∀ o, o < 20 → o ≠ 18 → plainName (oC o) = true := by decide +kernel
theorem plm_269 : plainFor (mY 269) = true := by decide +kernel
theorem plm_270 : plainFor (mY 270) = true := by decide +kernel
theorem plm_271 : plainFor (mY 271) = true := by decide +kernel
theorem plm_272 : plainFor (mY 272) = true := by decide +kernel
theorem plm_273 : plainFor (mY 273) = true := by decide +kernel
theorem mO_m : ∀ j, j < NM → mO j = 18 → j = 269 ∨ j = 270 ∨ j = 271 ∨ j = 272 ∨ j = 273 := by decide +kernel
theorem j_pl {j : Nat} (h : j < NM) (h2 : mO j < 20) (h3 : oC (mO j) = (mY j).cls) : plainFor (mY j) = true := by
  by_cases e : mO j = 18
  · rcases mO_m j h e with rfl | rfl | rfl | rfl | rfl
    · exact plm_269
    · exact plm_270
    · exact plm_271
    · exact plm_272
    · exact plm_273
  · have := oC_pl _ h2 e
    rw [h3] at this
    exact plainFor_of_name this
theorem mO_lt : ∀ j, j < NM → mO j < 20 ∧ mL j ≤ 40 := by decide +kernel
theorem in_obj : Jvm.Cond.instanceMethod objectInit ∈ goods := in_g 107 rfl rfl
theorem code_obj : Jvm.Cond.code objectInit ⟨#[0xb1]⟩ 1 none ∈ goods := in_g 108 rfl rfl
theorem cp_nat : Jvm.Cond.native arraycopyName ∈ goods := in_g 779 rfl rfl
theorem cp_stat : Jvm.Cond.static arraycopyName ∈ goods := in_g 778 rfl rfl
theorem cp_ini : Jvm.Cond.initialized "java/lang/System" ∈ goods := in_g 99 rfl rfl
theorem ac_i : Jvm.Cond.arrayClass (newarray.typeOf .int) ∈ goods := in_g 139 rfl rfl
theorem ac_b : Jvm.Cond.arrayClass (newarray.typeOf .byte) ∈ goods := in_g 140 rfl rfl
theorem ins_0 : Jvm.Cond.instantiable (clC 0) (clN 0) ∈ goods := in_g 142 rfl rfl
theorem ini_0 : Jvm.Cond.initialized (clC 0) ∈ goods := in_g 84 rfl rfl
theorem ins_1 : Jvm.Cond.instantiable (clC 1) (clN 1) ∈ goods := in_g 342 rfl rfl
theorem ini_1 : Jvm.Cond.initialized (clC 1) ∈ goods := in_g 89 rfl rfl
theorem ins_2 : Jvm.Cond.instantiable (clC 2) (clN 2) ∈ goods := in_g 121 rfl rfl
theorem ini_2 : Jvm.Cond.initialized (clC 2) ∈ goods := in_g 83 rfl rfl
theorem ins_3 : Jvm.Cond.instantiable (clC 3) (clN 3) ∈ goods := in_g 425 rfl rfl
theorem ini_3 : Jvm.Cond.initialized (clC 3) ∈ goods := in_g 91 rfl rfl
theorem ins_4 : Jvm.Cond.instantiable (clC 4) (clN 4) ∈ goods := in_g 174 rfl rfl
theorem ini_4 : Jvm.Cond.initialized (clC 4) ∈ goods := in_g 85 rfl rfl
theorem ins_5 : Jvm.Cond.instantiable (clC 5) (clN 5) ∈ goods := in_g 237 rfl rfl
theorem ini_5 : Jvm.Cond.initialized (clC 5) ∈ goods := in_g 87 rfl rfl
theorem ins_6 : Jvm.Cond.instantiable (clC 6) (clN 6) ∈ goods := in_g 180 rfl rfl
theorem ini_6 : Jvm.Cond.initialized (clC 6) ∈ goods := in_g 86 rfl rfl
theorem ins_7 : Jvm.Cond.instantiable (clC 7) (clN 7) ∈ goods := in_g 442 rfl rfl
theorem ini_7 : Jvm.Cond.initialized (clC 7) ∈ goods := in_g 92 rfl rfl
theorem ins_8 : Jvm.Cond.instantiable (clC 8) (clN 8) ∈ goods := in_g 110 rfl rfl
theorem ini_8 : Jvm.Cond.initialized (clC 8) ∈ goods := in_g 82 rfl rfl
theorem ins_9 : Jvm.Cond.instantiable (clC 9) (clN 9) ∈ goods := in_g 404 rfl rfl
theorem ini_9 : Jvm.Cond.initialized (clC 9) ∈ goods := in_g 90 rfl rfl
theorem ins_10 : Jvm.Cond.instantiable (clC 10) (clN 10) ∈ goods := in_g 309 rfl rfl
theorem ini_10 : Jvm.Cond.initialized (clC 10) ∈ goods := in_g 88 rfl rfl
theorem ins_11 : Jvm.Cond.instantiable (clC 11) (clN 11) ∈ goods := in_g 102 rfl rfl
theorem ini_11 : Jvm.Cond.initialized (clC 11) ∈ goods := in_g 81 rfl rfl
theorem ins_12 : Jvm.Cond.instantiable (clC 12) (clN 12) ∈ goods := in_g 1259 rfl rfl
theorem ini_12 : Jvm.Cond.initialized (clC 12) ∈ goods := in_g 93 rfl rfl
set_option maxRecDepth 100000 in
theorem cl_in0 : ∀ w ∈ u_ws RX0 TX0 7, w ∈ goods := List.forall_mem_cons.mpr ⟨in_g 159 rfl rfl, List.forall_mem_cons.mpr ⟨in_g 161 rfl rfl, List.forall_mem_cons.mpr ⟨in_g 163 rfl rfl, List.forall_mem_cons.mpr ⟨in_g 165 rfl rfl, List.forall_mem_cons.mpr ⟨in_g 167 rfl rfl, List.forall_mem_cons.mpr ⟨in_g 169 rfl rfl, List.forall_mem_cons.mpr ⟨in_g 171 rfl rfl, fun _ h => by (cases h)⟩⟩⟩⟩⟩⟩⟩
set_option maxRecDepth 100000 in
theorem cl_in1 : ∀ w ∈ u_ws RX1 TX1 15, w ∈ goods := List.forall_mem_cons.mpr ⟨in_g 372 rfl rfl, List.forall_mem_cons.mpr ⟨in_g 374 rfl rfl, List.forall_mem_cons.mpr ⟨in_g 376 rfl rfl, List.forall_mem_cons.mpr ⟨in_g 378 rfl rfl, List.forall_mem_cons.mpr ⟨in_g 380 rfl rfl, List.forall_mem_cons.mpr ⟨in_g 382 rfl rfl, List.forall_mem_cons.mpr ⟨in_g 384 rfl rfl, List.forall_mem_cons.mpr ⟨in_g 386 rfl rfl, List.forall_mem_cons.mpr ⟨in_g 388 rfl rfl, List.forall_mem_cons.mpr ⟨in_g 390 rfl rfl, List.forall_mem_cons.mpr ⟨in_g 392 rfl rfl, List.forall_mem_cons.mpr ⟨in_g 394 rfl rfl, List.forall_mem_cons.mpr ⟨in_g 396 rfl rfl, List.forall_mem_cons.mpr ⟨in_g 398 rfl rfl, List.forall_mem_cons.mpr ⟨in_g 400 rfl rfl, fun _ h => by (cases h)⟩⟩⟩⟩⟩⟩⟩⟩⟩⟩⟩⟩⟩⟩⟩
set_option maxRecDepth 100000 in
theorem cl_in2 : ∀ w ∈ u_ws RX2 TX2 4, w ∈ goods := List.forall_mem_cons.mpr ⟨in_g 130 rfl rfl, List.forall_mem_cons.mpr ⟨in_g 132 rfl rfl, List.forall_mem_cons.mpr ⟨in_g 134 rfl rfl, List.forall_mem_cons.mpr ⟨in_g 136 rfl rfl, fun _ h => by (cases h)⟩⟩⟩⟩
set_option maxRecDepth 100000 in
theorem cl_in3 : ∀ w ∈ u_ws RX3 TX3 3, w ∈ goods := List.forall_mem_cons.mpr ⟨in_g 435 rfl rfl, List.forall_mem_cons.mpr ⟨in_g 437 rfl rfl, List.forall_mem_cons.mpr ⟨in_g 439 rfl rfl, fun _ h => by (cases h)⟩⟩⟩
set_option maxRecDepth 100000 in
theorem cl_in4 : ∀ w ∈ u_ws RX4 TX4 6, w ∈ goods := List.forall_mem_cons.mpr ⟨in_g 224 rfl rfl, List.forall_mem_cons.mpr ⟨in_g 226 rfl rfl, List.forall_mem_cons.mpr ⟨in_g 228 rfl rfl, List.forall_mem_cons.mpr ⟨in_g 230 rfl rfl, List.forall_mem_cons.mpr ⟨in_g 232 rfl rfl, List.forall_mem_cons.mpr ⟨in_g 234 rfl rfl, fun _ h => by (cases h)⟩⟩⟩⟩⟩⟩
set_option maxRecDepth 100000 in
theorem cl_in5 : ∀ w ∈ u_ws RX5 TX5 5, w ∈ goods := List.forall_mem_cons.mpr ⟨in_g 252 rfl rfl, List.forall_mem_cons.mpr ⟨in_g 254 rfl rfl, List.forall_mem_cons.mpr ⟨in_g 256 rfl rfl, List.forall_mem_cons.mpr ⟨in_g 258 rfl rfl, List.forall_mem_cons.mpr ⟨in_g 260 rfl rfl, fun _ h => by (cases h)⟩⟩⟩⟩⟩
set_option maxRecDepth 100000 in
theorem cl_in6 : ∀ w ∈ u_ws RX6 TX6 6, w ∈ goods := List.forall_mem_cons.mpr ⟨in_g 197 rfl rfl, List.forall_mem_cons.mpr ⟨in_g 199 rfl rfl, List.forall_mem_cons.mpr ⟨in_g 201 rfl rfl, List.forall_mem_cons.mpr ⟨in_g 203 rfl rfl, List.forall_mem_cons.mpr ⟨in_g 205 rfl rfl, List.forall_mem_cons.mpr ⟨in_g 207 rfl rfl, fun _ h => by (cases h)⟩⟩⟩⟩⟩⟩
set_option maxRecDepth 100000 in
theorem cl_in7 : ∀ w ∈ u_ws RX7 TX7 3, w ∈ goods := List.forall_mem_cons.mpr ⟨in_g 452 rfl rfl, List.forall_mem_cons.mpr ⟨in_g 454 rfl rfl, List.forall_mem_cons.mpr ⟨in_g 456 rfl rfl, fun _ h => by (cases h)⟩⟩⟩
set_option maxRecDepth 100000 in
theorem cl_in8 : ∀ w ∈ u_ws RX8 TX8 12, w ∈ goods := List.forall_mem_cons.mpr ⟨in_g 281 rfl rfl, List.forall_mem_cons.mpr ⟨in_g 283 rfl rfl, List.forall_mem_cons.mpr ⟨in_g 285 rfl rfl, List.forall_mem_cons.mpr ⟨in_g 287 rfl rfl, List.forall_mem_cons.mpr ⟨in_g 289 rfl rfl, List.forall_mem_cons.mpr ⟨in_g 291 rfl rfl, List.forall_mem_cons.mpr ⟨in_g 293 rfl rfl, List.forall_mem_cons.mpr ⟨in_g 295 rfl rfl, List.forall_mem_cons.mpr ⟨in_g 297 rfl rfl, List.forall_mem_cons.mpr ⟨in_g 299 rfl rfl, List.forall_mem_cons.mpr ⟨in_g 301 rfl rfl, List.forall_mem_cons.mpr ⟨in_g 303 rfl rfl, fun _ h => by (cases h)⟩⟩⟩⟩⟩⟩⟩⟩⟩⟩⟩⟩
set_option maxRecDepth 100000 in
theorem cl_in9 : ∀ w ∈ u_ws RX9 TX9 4, w ∈ goods := List.forall_mem_cons.mpr ⟨in_g 413 rfl rfl, List.forall_mem_cons.mpr ⟨in_g 415 rfl rfl, List.forall_mem_cons.mpr ⟨in_g 417 rfl rfl, List.forall_mem_cons.mpr ⟨in_g 419 rfl rfl, fun _ h => by (cases h)⟩⟩⟩⟩
set_option maxRecDepth 100000 in
theorem cl_in10 : ∀ w ∈ u_ws RX10 TX10 8, w ∈ goods := List.forall_mem_cons.mpr ⟨in_g 324 rfl rfl, List.forall_mem_cons.mpr ⟨in_g 326 rfl rfl, List.forall_mem_cons.mpr ⟨in_g 328 rfl rfl, List.forall_mem_cons.mpr ⟨in_g 330 rfl rfl, List.forall_mem_cons.mpr ⟨in_g 332 rfl rfl, List.forall_mem_cons.mpr ⟨in_g 334 rfl rfl, List.forall_mem_cons.mpr ⟨in_g 336 rfl rfl, List.forall_mem_cons.mpr ⟨in_g 338 rfl rfl, fun _ h => by (cases h)⟩⟩⟩⟩⟩⟩⟩⟩
set_option maxRecDepth 100000 in
theorem cl_in11 : ∀ w ∈ u_ws RX11 TX11 11, w ∈ goods := List.forall_mem_cons.mpr ⟨in_g 470 rfl rfl, List.forall_mem_cons.mpr ⟨in_g 472 rfl rfl, List.forall_mem_cons.mpr ⟨in_g 474 rfl rfl, List.forall_mem_cons.mpr ⟨in_g 476 rfl rfl, List.forall_mem_cons.mpr ⟨in_g 478 rfl rfl, List.forall_mem_cons.mpr ⟨in_g 480 rfl rfl, List.forall_mem_cons.mpr ⟨in_g 482 rfl rfl, List.forall_mem_cons.mpr ⟨in_g 484 rfl rfl, List.forall_mem_cons.mpr ⟨in_g 486 rfl rfl, List.forall_mem_cons.mpr ⟨in_g 488 rfl rfl, List.forall_mem_cons.mpr ⟨in_g 490 rfl rfl, fun _ h => by (cases h)⟩⟩⟩⟩⟩⟩⟩⟩⟩⟩⟩
set_option maxRecDepth 100000 in
theorem cl_in12 : ∀ w ∈ u_ws RX12 TX12 38, w ∈ goods := List.forall_mem_cons.mpr ⟨in_g 1311 rfl rfl, List.forall_mem_cons.mpr ⟨in_g 1313 rfl rfl, List.forall_mem_cons.mpr ⟨in_g 1315 rfl rfl, List.forall_mem_cons.mpr ⟨in_g 1317 rfl rfl, List.forall_mem_cons.mpr ⟨in_g 1319 rfl rfl, List.forall_mem_cons.mpr ⟨in_g 1321 rfl rfl, List.forall_mem_cons.mpr ⟨in_g 1323 rfl rfl, List.forall_mem_cons.mpr ⟨in_g 1325 rfl rfl, List.forall_mem_cons.mpr ⟨in_g 1327 rfl rfl, List.forall_mem_cons.mpr ⟨in_g 1329 rfl rfl, List.forall_mem_cons.mpr ⟨in_g 1331 rfl rfl, List.forall_mem_cons.mpr ⟨in_g 1333 rfl rfl, List.forall_mem_cons.mpr ⟨in_g 1335 rfl rfl, List.forall_mem_cons.mpr ⟨in_g 1337 rfl rfl, List.forall_mem_cons.mpr ⟨in_g 1339 rfl rfl, List.forall_mem_cons.mpr ⟨in_g 1341 rfl rfl, List.forall_mem_cons.mpr ⟨in_g 1343 rfl rfl, List.forall_mem_cons.mpr ⟨in_g 1345 rfl rfl, List.forall_mem_cons.mpr ⟨in_g 1347 rfl rfl, List.forall_mem_cons.mpr ⟨in_g 1349 rfl rfl, List.forall_mem_cons.mpr ⟨in_g 1351 rfl rfl, List.forall_mem_cons.mpr ⟨in_g 1353 rfl rfl, List.forall_mem_cons.mpr ⟨in_g 1355 rfl rfl, List.forall_mem_cons.mpr ⟨in_g 1357 rfl rfl, List.forall_mem_cons.mpr ⟨in_g 1359 rfl rfl, List.forall_mem_cons.mpr ⟨in_g 1361 rfl rfl, List.forall_mem_cons.mpr ⟨in_g 1363 rfl rfl, List.forall_mem_cons.mpr ⟨in_g 1365 rfl rfl, List.forall_mem_cons.mpr ⟨in_g 1367 rfl rfl, List.forall_mem_cons.mpr ⟨in_g 1369 rfl rfl, List.forall_mem_cons.mpr ⟨in_g 1371 rfl rfl, List.forall_mem_cons.mpr ⟨in_g 1373 rfl rfl, List.forall_mem_cons.mpr ⟨in_g 1375 rfl rfl, List.forall_mem_cons.mpr ⟨in_g 1377 rfl rfl, List.forall_mem_cons.mpr ⟨in_g 1379 rfl rfl, List.forall_mem_cons.mpr ⟨in_g 1381 rfl rfl, List.forall_mem_cons.mpr ⟨in_g 1383 rfl rfl, List.forall_mem_cons.mpr ⟨in_g 1385 rfl rfl, fun _ h => by (cases h)⟩⟩⟩⟩⟩⟩⟩⟩⟩⟩⟩⟩⟩⟩⟩⟩⟩⟩⟩⟩⟩⟩⟩⟩⟩⟩⟩⟩⟩⟩⟩⟩⟩⟩⟩⟩⟩⟩
end
section
/-! the machine's state seen as a state of the walking machine; what a stretch of code does, what a call does. Own work. -/
/-- launch, the first new cell, the tables' numbers, the classes of rows, the addresses of what was there before, the script's length and numbers, the one value of which nothing is known -/
abbrev pG : Type := Launch × Nat × va_G × (Nat → ClassId) × (Nat → Nat) × Nat × (Nat → Int32) × pV
abbrev gL (G : pG) : Launch := G.1
abbrev gH (G : pG) : Nat := G.2.1
abbrev gD (G : pG) : va_G := G.2.2.1
abbrev gC (G : pG) : Nat → ClassId := G.2.2.2.1
abbrev gA (G : pG) : Nat → Nat := G.2.2.2.2.1
abbrev gN (G : pG) : Nat := G.2.2.2.2.2.1
abbrev gX (G : pG) : Nat → Int32 := G.2.2.2.2.2.2.1
abbrev gS (G : pG) : pV := G.2.2.2.2.2.2.2
def ad (G : pG) (k : Nat) : Nat := if k < EXT then gH G + k else gA G (k - EXT)
def tr (G : pG) : pV → Value
  | .inl none => .null
  | .inl (some k) => .ref (ad G k)
  | .inr (.inl z) => .int (Int32.ofInt z)
  | .inr (.inr z) => .long (Int64.ofInt z)
def tyA (t : Nat) : FieldType := if t = 100 then .int else if t = 101 then .byte else if t = 204 then .object RX4 else if t = 205 then .object RX5 else if t = 207 then .object RX7 else .object RJ0
def kinds : List Nat := [100, 101, 204, 205, 207, 299]
def fV (G : pG) (F : pF) (I : pI) (k c j : Nat) : Value := if frf c j = true then va_rf ((F k j).map (ad G)) else .int (Int32.ofInt (I k j))
def cE (G : pG) (F : pF) (I : pI) (k : Nat) : va_E :=
  if (lay k).1 < 100 then .inr ((lay k).1, (List.range (lay k).2).map (fV G F I k (lay k).1))
  else if (lay k).1 < 200 then .inl (gC G (lay k).1, ((lay k).2, .inl (fun j => Int32.ofInt (I k j))))
  else .inl (gC G (lay k).1, ((lay k).2, .inr (.inr (.inr (.inr (fun j => (F k j).map (ad G)))))))
def wL (G : pG) (n : Nat) (F : pF) (I : pI) : va_W := (List.range n).map (fun k => (gH G + k, cE G F I k))
def A0 (G : pG) : Nat → Prop := fun q => gH G ≤ q
def Wd (G : pG) (n : Nat) (F : pF) (I : pI) (H : Heap) : Prop :=
  H.size = gH G + n ∧ va_P (gD G) vwCl (wL G n F I) H ∧ n ≤ EXT ∧ (∀ k j, iR (I k j)) ∧ ∀ k, (lay k).1 = 101 → ∀ j, -128 ≤ I k j ∧ I k j ≤ 127
def isNest : Jvm.Cond → Bool
  | .fieldLinkNest .. => true
  | .methodLinkNest .. => true
  | _ => false
/-- the texts -/
def KT (G : pG) (s : State) (H : Heap) : Prop := ∀ i, i < 18 →
  va_O "java/lang/String" (ad G (EXT + 10 + i)) (A0 G) s H ∧ va_OF "java/lang/String" "coder" "B" (.int 0) (ad G (EXT + 10 + i)) (A0 G) s H ∧ va_OF "java/lang/String" "value" "[B" (.ref (ad G (EXT + 40 + i))) (ad G (EXT + 10 + i)) (A0 G) s H ∧
  va_T .byte (ad G (EXT + 40 + i)) (strL.getD i 0) (fun j => .int (Int32.ofInt ((strB.getD i []).getD j 0))) (A0 G) s H ∧ vk_R (strO.getD i ("", 0, "", 0)).1 (strO.getD i ("", 0, "", 0)).2.1 (strO.getD i ("", 0, "", 0)).2.2.1 (ad G (EXT + 10 + i)) s
/-- what was there before: the script, the classes' own rows, the texts -/
def KX (G : pG) (s : State) (H : Heap) : Prop :=
  (va_X (ad G EXT) (gN G) (gX G) s H ∧ ad G EXT < gH G) ∧
  (va_T .int (ad G (EXT + 1)) 6 (fun j => .int (Int32.ofInt (aboveT.getD j 0))) (A0 G) s H ∧ va_Z "StrengthHouse$Piece" "ABOVE" "[I" (.ref (ad G (EXT + 1))) (A0 G) s H) ∧
  (va_T .int (ad G (EXT + 2)) 24 (fun j => .int (Int32.ofInt (bodiesT.getD j 0))) (A0 G) s H ∧ va_Z "StrengthHouse$Voices" "BODIES" "[I" (.ref (ad G (EXT + 2))) (A0 G) s H) ∧
  va_Z "java/lang/String" "COMPACT_STRINGS" "Z" (.int 1) (A0 G) s H ∧
  va_Z "jdk/internal/util/Preconditions" "SIOOBE_FORMATTER" "Ljava/util/function/BiFunction;" (tr G (gS G)) (A0 G) s H ∧
  KT G s H ∧
  (∀ (c : Nat) (q : vw_C), vwCl[c]? = some q → u_Kn s q.1 q.2.1 q.2.2 ((gD G).1 c) ((gD G).2 c)) ∧
  (∀ t, t ∈ kinds → ArrOfT s (gC G t) (tyA t) ∧ va_RA s (gC G t) (tyA t)) ∧
  (∀ w, w ∈ lw_tbl → isNest w = true → va_Nw w s) ∧
  (va_AO RX4 s ∧ va_AO RX5 s ∧ va_AO RX7 s ∧ va_AO RJ0 s) ∧ (gS G = .inl none ∨ gS G = .inl (some (EXT + 4)))
def sz (n : Nat) : Nat := ((List.range n).map (fun k => (lay k).2)).sum
def Rm (d k n0 : Nat) : Room := { frames := d, cells := alc k, slots := sz (n0 + alc k) - sz n0, locals := 64 * d }
def mW (k : Nat) : List Jvm.Cond := .code (mY k) (mB k) (mL k) (mR k) :: goods
def Qc (G : pG) (n : Nat) (Q : Option pV → pF → pI → Prop) : Array Value → State → Outcome → State → Prop := fun _ _ o t =>
  ∃ (r : Option pV) (F : pF) (I : pI), o = .returned (r.map (tr G)) ∧ Q r F I ∧ Wd G n F I t.heap ∧ (∀ v, r = some v → okV v)
def Pc (G : pG) (as : List pV) (n : Nat) (F : pF) (I : pI) : Array Value → State → Prop := fun v U =>
  v = (as.map (tr G)).toArray ∧ KX G U U.heap ∧ Wd G n F I U.heap
/-- a call of method k -/
def Call (G : pG) (d k : Nat) (as : List pV) (n : Nat) (F : pF) (I : pI) (Q : Option pV → pF → pI → Prop) : Prop :=
  (∀ v ∈ as, okV v) → Met (gL G) (mY k) (mW k) (Rm d k n) (Pc G as n F I) (fun a st o t => Qc G (n + alc k) Q a st o t ∧ va_F (A0 G) st t) (alc k) (sz (n + alc k) - sz n) (A0 G)
/-- where a method stands -/
def Ct (G : pG) (d k n0 n : Nat) (F : pF) (I : pI) (p : Program) (e : Env) (s : State) (m : MethodId) (args : Array Value) (meth : Method) (c : Code) (H : Heap) (locs : List Loc) : Prop :=
  p.tables.exec = Jvm.exec ∧ c.code = mB k ∧ meth.sig.returnType = mR k ∧ meth.locks = false ∧ c.maxLocals = mL k ∧ s.vm.findClass (mY k).cls = some m.cls ∧
  (∀ w ∈ goods, w.before args s = true) ∧ (mK k = 2 → meth.name = "<init>") ∧ KX G s s.heap ∧ s.heap.size = gH G + n0 ∧ n0 ≤ n ∧ n ≤ n0 + alc k ∧ Wd G n F I H ∧ va_S (A0 G) s.heap H locs
def Hs (G : pG) (k : Nat) (ls : Array Slot) (lv : List (Option pV)) : Prop :=
  ls.size = mL k ∧ lv_wf ls ∧ lv.length = mL k ∧ ∀ (i : Nat) (v : pV), lv[i]? = some (some v) → okV v ∧ ls[i]? = some (Slot.val (tr G v))
/-- from here the method comes to its end with Q -/
def Go (G : pG) (d k n0 n pc : Nat) (lv : List (Option pV)) (st : List pV) (F : pF) (I : pI) (Q : Option pV → pF → pI → Prop) : Prop :=
  ∀ (p : Program) (e : Env) (s : State) (m : MethodId) (args : Array Value) (below : List Frame) (meth : Method) (c : Code) (H : Heap) (locs : List Loc) (ls : Array Slot),
    Ct G d k n0 n F I p e s m args meth c H locs → Hs G k ls lv → (∀ v ∈ st, okV v) →
    W p (gL G) e (Rm d k n0) s m args below meth c H locs (n - n0) (sz n - sz n0) (MQ below (fun a st o t => Qc G (n0 + alc k) Q a st o t ∧ va_F (A0 G) st t) args s (alc k) (sz (n0 + alc k) - sz n0) (A0 G)) (F0 m pc ls (st.map (tr G)))
/-- the same, shut: nothing that looks for a 'for all' or an 'and' looks into it -/
def GoN (G : pG) (d k n0 n pc : Nat) (lv : List (Option pV)) (st : List pV) (F : pF) (I : pI) (Q : Option pV → pF → pI → Prop) : Prop := Nonempty (Go G d k n0 n pc lv st F I Q)
def CallN (G : pG) (d k : Nat) (as : List pV) (n : Nat) (F : pF) (I : pI) (Q : Option pV → pF → pI → Prop) : Prop := Nonempty (Call G d k as n F I Q)
end
section
/-! one instruction, many instructions, as propositions. Own work. -/
def stp (G : pG) (d k n0 : Nat) (e : pE) (lv : List (Option pV)) (st : List pV) (n : Nat) (F : pF) (I : pI) (Q : Option pV → pF → pI → Prop) (K : Nat → List (Option pV) → List pV → Nat → pF → pI → Prop) : Prop :=
  match e with
  | (ins, nx, a, b, _, f, z, v, sw) =>
  match ins with
  | .iconst _ => K nx lv (v :: st) n F I
  | .bipush _ => K nx lv (v :: st) n F I
  | .sipush _ => K nx lv (v :: st) n F I
  | .lconst _ => K nx lv (v :: st) n F I
  | .ldc _ => K nx lv (v :: st) n F I
  | .ldc_w _ => K nx lv (v :: st) n F I
  | .ldc2_w _ => K nx lv (v :: st) n F I
  | .aconst_null => K nx lv (.inl none :: st) n F I
  | .iload_n _ => (match lg lv a with | some (.inr (.inl x)) => K nx lv (.inr (.inl x) :: st) n F I | _ => False)
  | .iload _ => (match lg lv a with | some (.inr (.inl x)) => K nx lv (.inr (.inl x) :: st) n F I | _ => False)
  | .lload_n _ => (match lg lv a with | some (.inr (.inr x)) => K nx lv (.inr (.inr x) :: st) n F I | _ => False)
  | .lload _ => (match lg lv a with | some (.inr (.inr x)) => K nx lv (.inr (.inr x) :: st) n F I | _ => False)
  | .aload_n _ => (match lg lv a with | some (.inl x) => K nx lv (.inl x :: st) n F I | _ => False)
  | .aload _ => (match lg lv a with | some (.inl x) => K nx lv (.inl x :: st) n F I | _ => False)
  | .istore_n _ => (match st with | .inr (.inl x) :: r => ls1 lv a (.inr (.inl x)) (fun lv' => K nx lv' r n F I) | _ => False)
  | .istore _ => (match st with | .inr (.inl x) :: r => ls1 lv a (.inr (.inl x)) (fun lv' => K nx lv' r n F I) | _ => False)
  | .astore_n _ => (match st with | .inl x :: r => ls1 lv a (.inl x) (fun lv' => K nx lv' r n F I) | _ => False)
  | .astore _ => (match st with | .inl x :: r => ls1 lv a (.inl x) (fun lv' => K nx lv' r n F I) | _ => False)
  | .lstore_n _ => (match st with | .inr (.inr x) :: r => ls2 lv a (.inr (.inr x)) (fun lv' => K nx lv' r n F I) | _ => False)
  | .lstore _ => (match st with | .inr (.inr x) :: r => ls2 lv a (.inr (.inr x)) (fun lv' => K nx lv' r n F I) | _ => False)
  | .iinc _ _ => (match lg lv a with | some (.inr (.inl x)) => (match v with | .inr (.inl c) => ls1 lv a (.inr (.inl (wr (x + c)))) (fun lv' => K nx lv' st n F I) | _ => False) | _ => False)
  | .iadd => (match st with | .inr (.inl y) :: .inr (.inl x) :: r => K nx lv (.inr (.inl (wr (x + y))) :: r) n F I | _ => False)
  | .isub => (match st with | .inr (.inl y) :: .inr (.inl x) :: r => K nx lv (.inr (.inl (wr (x - y))) :: r) n F I | _ => False)
  | .imul => (match st with | .inr (.inl y) :: .inr (.inl x) :: r => K nx lv (.inr (.inl (wr (x * y))) :: r) n F I | _ => False)
  | .ineg => (match st with | .inr (.inl x) :: r => K nx lv (.inr (.inl (wr (- x))) :: r) n F I | _ => False)
  | .idiv => (match st with | .inr (.inl y) :: .inr (.inl x) :: r => y ≠ 0 ∧ K nx lv (.inr (.inl (wr (x.tdiv y))) :: r) n F I | _ => False)
  | .irem => (match st with | .inr (.inl y) :: .inr (.inl x) :: r => y ≠ 0 ∧ K nx lv (.inr (.inl (x.tmod y)) :: r) n F I | _ => False)
  | .iand => (match st with | .inr (.inl y) :: .inr (.inl x) :: r => K nx lv (.inr (.inl (bI x y)) :: r) n F I | _ => False)
  | .ior => (match st with | .inr (.inl y) :: .inr (.inl x) :: r => K nx lv (.inr (.inl (oI x y)) :: r) n F I | _ => False)
  | .ixor => (match st with | .inr (.inl y) :: .inr (.inl x) :: r => K nx lv (.inr (.inl (xI x y)) :: r) n F I | _ => False)
  | .ishl => (match st with | .inr (.inl y) :: .inr (.inl x) :: r => K nx lv (.inr (.inl (slI x y)) :: r) n F I | _ => False)
  | .ishr => (match st with | .inr (.inl y) :: .inr (.inl x) :: r => K nx lv (.inr (.inl (srI x y)) :: r) n F I | _ => False)
  | .iushr => (match st with | .inr (.inl y) :: .inr (.inl x) :: r => K nx lv (.inr (.inl (suI x y)) :: r) n F I | _ => False)
  | .ladd => (match st with | .inr (.inr y) :: .inr (.inr x) :: r => K nx lv (.inr (.inr (wl (x + y))) :: r) n F I | _ => False)
  | .lsub => (match st with | .inr (.inr y) :: .inr (.inr x) :: r => K nx lv (.inr (.inr (wl (x - y))) :: r) n F I | _ => False)
  | .lmul => (match st with | .inr (.inr y) :: .inr (.inr x) :: r => K nx lv (.inr (.inr (wl (x * y))) :: r) n F I | _ => False)
  | .lneg => (match st with | .inr (.inr x) :: r => K nx lv (.inr (.inr (wl (- x))) :: r) n F I | _ => False)
  | .ldiv => (match st with | .inr (.inr y) :: .inr (.inr x) :: r => y ≠ 0 ∧ K nx lv (.inr (.inr (wl (x.tdiv y))) :: r) n F I | _ => False)
  | .land => (match st with | .inr (.inr y) :: .inr (.inr x) :: r => K nx lv (.inr (.inr (bL x y)) :: r) n F I | _ => False)
  | .lor => (match st with | .inr (.inr y) :: .inr (.inr x) :: r => K nx lv (.inr (.inr (oL x y)) :: r) n F I | _ => False)
  | .lshl => (match st with | .inr (.inl y) :: .inr (.inr x) :: r => K nx lv (.inr (.inr (slL x y)) :: r) n F I | _ => False)
  | .lshr => (match st with | .inr (.inl y) :: .inr (.inr x) :: r => K nx lv (.inr (.inr (srL x y)) :: r) n F I | _ => False)
  | .lcmp => (match st with | .inr (.inr y) :: .inr (.inr x) :: r => K nx lv (.inr (.inl (lcm x y)) :: r) n F I | _ => False)
  | .i2l => (match st with | .inr (.inl x) :: r => K nx lv (.inr (.inr x) :: r) n F I | _ => False)
  | .l2i => (match st with | .inr (.inr x) :: r => K nx lv (.inr (.inl (wr x)) :: r) n F I | _ => False)
  | .i2b => (match st with | .inr (.inl x) :: r => K nx lv (.inr (.inl (wb x)) :: r) n F I | _ => False)
  | .i2s => (match st with | .inr (.inl x) :: r => K nx lv (.inr (.inl (wsh x)) :: r) n F I | _ => False)
  | .i2c => (match st with | .inr (.inl x) :: r => K nx lv (.inr (.inl (x % 65536)) :: r) n F I | _ => False)
  | .dup => (match st with | .inr (.inl x) :: r => K nx lv (.inr (.inl x) :: .inr (.inl x) :: r) n F I | .inl x :: r => K nx lv (.inl x :: .inl x :: r) n F I | _ => False)
  | .dup2 => (match st with | .inr (.inl x) :: .inl y :: r => K nx lv (.inr (.inl x) :: .inl y :: .inr (.inl x) :: .inl y :: r) n F I | _ => False)
  | .pop => (match st with | .inr (.inl _) :: r => K nx lv r n F I | .inl _ :: r => K nx lv r n F I | _ => False)
  | .goto _ => K a lv st n F I
  | .if_icmp c _ => (match st with | .inr (.inl y) :: .inr (.inl x) :: r => br c x y (K a lv r n F I) (K nx lv r n F I) | _ => False)
  | .ifCond c _ => (match st with | .inr (.inl x) :: r => br c x 0 (K a lv r n F I) (K nx lv r n F I) | _ => False)
  | .ifnull _ => (match st with | .inl none :: r => K a lv r n F I | .inl (some _) :: r => K nx lv r n F I | _ => False)
  | .ifnonnull _ => (match st with | .inl none :: r => K nx lv r n F I | .inl (some _) :: r => K a lv r n F I | _ => False)
  | .tableswitch _ _ _ _ => (match st with | .inr (.inl x) :: r => swp x a (fun t => K t lv r n F I) sw | _ => False)
  | .lookupswitch _ _ => (match st with | .inr (.inl x) :: r => swp x a (fun t => K t lv r n F I) sw | _ => False)
  | .getstatic _ => (match a with | 4 => K nx lv (gS G :: st) n F I | _ => K nx lv (v :: st) n F I)
  | .getfield _ => (match st with
    | .inl (some q) :: r => (match f with
      | 6 => ∃ i, i < 18 ∧ q = EXT + 10 + i ∧ K nx lv (.inl (some (q + 30)) :: r) n F I
      | 7 => ∃ i, i < 18 ∧ q = EXT + 10 + i ∧ K nx lv (.inr (.inl 0) :: r) n F I
      | 4 => ∃ m, lay q = (a, m) ∧ q < n ∧ ∀ w, F q b = w → K nx lv (.inl w :: r) n F I
      | 5 => ∃ m, lay q = (a, m) ∧ q < n ∧ ∀ w, F q b = w → K nx lv (.inl w :: r) n F I
      | _ => ∃ m, lay q = (a, m) ∧ q < n ∧ K nx lv (.inr (.inl (I q b)) :: r) n F I)
    | _ => False)
  | .putfield _ => (match st with
    | .inr (.inl x) :: .inl (some q) :: r => (match f with
      | 2 => ∃ m, lay q = (a, m) ∧ q < n ∧ (x = 0 ∨ x = 1) ∧ K nx lv r n F (uI I q b x)
      | 3 => ∃ m, lay q = (a, m) ∧ q < n ∧ (x = 0 ∨ x = 1) ∧ K nx lv r n F (uI I q b x)
      | 0 => ∃ m, lay q = (a, m) ∧ q < n ∧ K nx lv r n F (uI I q b x)
      | 1 => ∃ m, lay q = (a, m) ∧ q < n ∧ K nx lv r n F (uI I q b x)
      | _ => False)
    | .inl w :: .inl (some q) :: r => (match f with
      | 4 => ∃ m, lay q = (a, m) ∧ q < n ∧ K nx lv r n (uF F q b w) I
      | 14 => ∃ m, lay q = (a, m) ∧ q < n ∧ K nx lv r n (uF F q b w) I
      | _ => False)
    | _ => False)
  | .iaload => (match st with
    | .inr (.inl i) :: .inl (some q) :: r => (match f with
      | 0 => ∃ m, lay q = (100, m) ∧ q < n ∧ 0 ≤ i ∧ i < (m : Int) ∧ K nx lv (.inr (.inl (I q i.toNat)) :: r) n F I
      | 1 => q = EXT ∧ 0 ≤ i ∧ i < (gN G : Int) ∧ K nx lv (.inr (.inl (gX G i.toNat).toInt) :: r) n F I
      | _ => (q = EXT + 1 ∧ 0 ≤ i ∧ i < 6 ∧ K nx lv (.inr (.inl (aboveT.getD i.toNat 0)) :: r) n F I) ∨ (q = EXT + 2 ∧ 0 ≤ i ∧ i < 24 ∧ K nx lv (.inr (.inl (bodiesT.getD i.toNat 0)) :: r) n F I))
    | _ => False)
  | .baload => (match st with
    | .inr (.inl i) :: .inl (some q) :: r => (match f with
      | 0 => ∃ m, lay q = (101, m) ∧ q < n ∧ 0 ≤ i ∧ i < (m : Int) ∧ K nx lv (.inr (.inl (I q i.toNat)) :: r) n F I
      | _ => ∃ j, j < 18 ∧ q = EXT + 40 + j ∧ 0 ≤ i ∧ i < (strL.getD j 0 : Int) ∧ K nx lv (.inr (.inl ((strB.getD j []).getD i.toNat 0)) :: r) n F I)
    | _ => False)
  | .aaload => (match st with
    | .inr (.inl i) :: .inl (some q) :: r => ∃ t m, t ∈ [204, 205, 207, 299] ∧ lay q = (t, m) ∧ q < n ∧ 0 ≤ i ∧ i < (m : Int) ∧ ∀ w, F q i.toNat = w → K nx lv (.inl w :: r) n F I
    | _ => False)
  | .iastore => (match st with
    | .inr (.inl x) :: .inr (.inl i) :: .inl (some q) :: r => ∃ m, lay q = (100, m) ∧ q < n ∧ 0 ≤ i ∧ i < (m : Int) ∧ K nx lv r n F (uI I q i.toNat x)
    | _ => False)
  | .bastore => (match st with
    | .inr (.inl x) :: .inr (.inl i) :: .inl (some q) :: r => ∃ m, lay q = (101, m) ∧ q < n ∧ 0 ≤ i ∧ i < (m : Int) ∧ K nx lv r n F (uI I q i.toNat (wb x))
    | _ => False)
  | .aastore => (match st with
    | .inl (some y) :: .inr (.inl i) :: .inl (some q) :: r => ∃ t m, lay q = (t, m) ∧ q < n ∧ 0 ≤ i ∧ i < (m : Int) ∧ ((∃ j, t = 299 ∧ j < 18 ∧ y = EXT + 10 + j) ∨ (∃ c m', t = 200 + c ∧ c ∈ [4, 5, 7] ∧ lay y = (c, m') ∧ y < n)) ∧ K nx lv r n (uF F q i.toNat (some y)) I
    | _ => False)
  | .arraylength => (match st with
    | .inl (some q) :: r => (match f with
      | 0 => ∃ t m, t ∈ [100, 101] ∧ lay q = (t, m) ∧ q < n ∧ K nx lv (.inr (.inl (m : Int)) :: r) n F I
      | 1 => q = EXT ∧ K nx lv (.inr (.inl (Int32.ofNat (gN G)).toInt) :: r) n F I
      | _ => (q = EXT + 1 ∧ K nx lv (.inr (.inl 6) :: r) n F I) ∨ (q = EXT + 2 ∧ K nx lv (.inr (.inl 24) :: r) n F I) ∨ (∃ j, j < 18 ∧ q = EXT + 40 + j ∧ K nx lv (.inr (.inl (strL.getD j 0 : Int)) :: r) n F I))
    | _ => False)
  | .new _ => lay n = (a, b) ∧ n + 1 ≤ n0 + alc k ∧ n + 1 ≤ EXT ∧ K nx lv (.inl (some n) :: st) (n + 1) (zF F n) (zI I n)
  | .newarray _ => (match st with
    | .inr (.inl x) :: r => lay n = (a, x.toNat) ∧ 0 ≤ x ∧ x < 100000 ∧ n + 1 ≤ n0 + alc k ∧ n + 1 ≤ EXT ∧ K nx lv (.inl (some n) :: r) (n + 1) (zF F n) (zI I n)
    | _ => False)
  | .anewarray _ => (match st with
    | .inr (.inl x) :: r => lay n = (a, x.toNat) ∧ 0 ≤ x ∧ x < 100000 ∧ n + 1 ≤ n0 + alc k ∧ n + 1 ≤ EXT ∧ K nx lv (.inl (some n) :: r) (n + 1) (zF F n) (zI I n)
    | _ => False)
  | .invokestatic _ => (match f with
    | 99 => (match st with
      | .inr (.inl len) :: .inr (.inl dp) :: .inl (some p) :: .inr (.inl sp) :: .inl (some q) :: r =>
        ∃ t m1 m2, t ∈ [100, 101] ∧ lay q = (t, m1) ∧ lay p = (t, m2) ∧ q < n ∧ p < n ∧ 0 ≤ sp ∧ 0 ≤ dp ∧ 0 ≤ len ∧ sp + len ≤ (m1 : Int) ∧ dp + len ≤ (m2 : Int) ∧ ctgs r ≤ 8 ∧ 1 ≤ d ∧ K nx lv r n F (cI I q sp.toNat p dp.toNat len.toNat)
      | _ => False)
    | _ => (match d with
      | 0 => False
      | d' + 1 => popN b st [] (fun as r => bif Nat.ble (ctgs r) 8 then CallN G d' a as n F I (fun rv F' I' => match rv with
        | none => K nx lv r n F' I'
        | some w => K nx lv (w :: r) n F' I') else False)))
  | .invokevirtual _ => (match d with
      | 0 => False
      | d' + 1 => popN (b + 1) st [] (fun as r => match as with
        | .inl (some q) :: _ => (bif Nat.ble (ctgs r) 8 then ((match v with
          | .inl (some c) => bif Nat.beq c 130 then (∃ i, i < 18 ∧ q = EXT + 10 + i) else (∃ m, lay q = (c, m) ∧ q < n)
          | _ => False) ∧ CallN G d' a as n F I (fun rv F' I' => match rv with
            | none => K nx lv r n F' I'
            | some w => K nx lv (w :: r) n F' I')) else False)
        | _ => False))
  | .invokespecial _ => (match f with
    | 98 => (match st with | .inl (some _) :: r => ctgs r ≤ 8 ∧ 1 ≤ d ∧ K nx lv r n F I | _ => False)
    | _ => (match d with
      | 0 => False
      | d' + 1 => popN (b + 1) st [] (fun as r => match as with
        | .inl (some _) :: _ => ctgs r ≤ 8 ∧ n + z ≤ n0 + alc k ∧ CallN G d' a as n F I (fun rv F' I' => match rv with
            | none => K nx lv r (n + z) F' I'
            | some _ => False)
        | _ => False)))
  | .ireturn => (match st with
    | [.inr (.inl x)] => n = n0 + alc k ∧ (match f with
      | 0 => Q (some (.inr (.inl x))) F I
      | 1 => (x = 0 ∨ x = 1) ∧ Q (some (.inr (.inl x))) F I
      | 2 => (0 ≤ x ∧ x < 65536) ∧ Q (some (.inr (.inl x))) F I
      | _ => (-128 ≤ x ∧ x < 128) ∧ Q (some (.inr (.inl x))) F I)
    | _ => False)
  | .lreturn => (match st with | [.inr (.inr x)] => n = n0 + alc k ∧ Q (some (.inr (.inr x))) F I | _ => False)
  | .areturn => (match st with | [.inl w] => n = n0 + alc k ∧ Q (some (.inl w)) F I | _ => False)
  | .return_ => (match st with | [] => n = n0 + alc k ∧ Q none F I | _ => False)
  | _ => False
def wp (G : pG) (d k n0 : Nat) (t : pT) (cuts : List Nat) (Q : Option pV → pF → pI → Prop) : Nat → Nat → List (Option pV) → List pV → Nat → pF → pI → Prop
  | 0, pc, lv, st, n, F, I => GoN G d k n0 n pc lv st F I Q
  | N + 1, pc, lv, st, n, F, I => match pAt t pc with
    | none => False
    | some e => stp G d k n0 e lv st n F I Q (fun pc' lv' st' n' F' I' => bif mmb cuts pc' then GoN G d k n0 n' pc' lv' st' F' I' Q else wp G d k n0 t cuts Q N pc' lv' st' n' F' I')
end
section
/-! whole numbers for the machine's words. Own work. -/
theorem bm32 (z : Int) : z.bmod 4294967296 = wr z := by
  unfold wr
  rw [Int.bmod_def]
  split <;> omega
theorem bm64 (z : Int) : z.bmod 18446744073709551616 = wl z := by
  unfold wl
  rw [Int.bmod_def]
  split <;> omega
theorem bm8 (z : Int) : z.bmod 256 = wb z := by
  unfold wb
  rw [Int.bmod_def]
  split <;> omega
theorem bm16 (z : Int) : z.bmod 65536 = wsh z := by
  unfold wsh
  rw [Int.bmod_def]
  split <;> omega
theorem wr_id {z : Int} (h : iR z) : wr z = z := by unfold iR at h; unfold wr; omega
theorem wl_id {z : Int} (h : lR z) : wl z = z := by unfold lR at h; unfold wl; omega
theorem wr_R (z : Int) : iR (wr z) := by unfold iR wr; omega
theorem wl_R (z : Int) : lR (wl z) := by unfold lR wl; omega
theorem wb_R (z : Int) : iR (wb z) := by unfold iR wb; omega
theorem wsh_R (z : Int) : iR (wsh z) := by unfold iR wsh; omega
theorem wr_wr (z : Int) : wr (wr z) = wr z := wr_id (wr_R z)
theorem wl_wl (z : Int) : wl (wl z) = wl z := wl_id (wl_R z)
theorem toI32 (z : Int) : (Int32.ofInt z).toInt = wr z := by rw [Int32.toInt_ofInt]; exact bm32 z
theorem toI64 (z : Int) : (Int64.ofInt z).toInt = wl z := by rw [Int64.toInt_ofInt]; exact bm64 z
theorem tI {z : Int} (h : iR z) : (Int32.ofInt z).toInt = z := by rw [toI32, wr_id h]
theorem tL {z : Int} (h : lR z) : (Int64.ofInt z).toInt = z := by rw [toI64, wl_id h]
theorem ofw (z : Int) : Int32.ofInt (wr z) = Int32.ofInt z := Int32.toInt_inj.1 (by rw [toI32, toI32, wr_wr])
theorem ofwl (z : Int) : Int64.ofInt (wl z) = Int64.ofInt z := Int64.toInt_inj.1 (by rw [toI64, toI64, wl_wl])
theorem toInt_R (x : Int32) : iR x.toInt := by
  have h1 := x.toInt_lt
  have h2 := x.le_toInt
  unfold iR
  omega
theorem toInt_LR (x : Int64) : lR x.toInt := by
  have h1 := x.toInt_lt
  have h2 := x.le_toInt
  unfold lR
  omega
theorem n_add (x y : Int) : Int32.ofInt x + Int32.ofInt y = Int32.ofInt (wr (x + y)) := by rw [ofw, Int32.ofInt_add]
theorem n_sub (x y : Int) : Int32.ofInt x - Int32.ofInt y = Int32.ofInt (wr (x - y)) := by rw [ofw, Int32.ofInt_sub]
theorem n_mul (x y : Int) : Int32.ofInt x * Int32.ofInt y = Int32.ofInt (wr (x * y)) := by rw [ofw, Int32.ofInt_mul]
theorem n_neg (x : Int) : -Int32.ofInt x = Int32.ofInt (wr (-x)) := by rw [ofw, Int32.ofInt_neg]
theorem n_div {x y : Int} (hx : iR x) (hy : iR y) : Int32.ofInt x / Int32.ofInt y = Int32.ofInt (wr (x.tdiv y)) := by
  refine Int32.toInt_inj.1 ?_
  rw [Int32.toInt_div, tI hx, tI hy, toI32, wr_wr]
  exact bm32 _
theorem n_rem {x y : Int} (hx : iR x) (hy : iR y) : Int32.ofInt x - Int32.ofInt x / Int32.ofInt y * Int32.ofInt y = Int32.ofInt (x.tmod y) := by
  rw [n_div hx hy, n_mul, n_sub, ofw]
  refine Int32.toInt_inj.1 ?_
  rw [toI32, toI32, Int.tmod_def, Int.mul_comm]
  have h1 : wr (wr (x.tdiv y) * y) = wr (x.tdiv y * y) := by
    have := n_mul (wr (x.tdiv y)) y
    rw [ofw, n_mul] at this
    have h2 := congrArg Int32.toInt this
    rw [toI32, toI32, wr_wr, wr_wr] at h2
    exact h2.symm
  rw [Int.mul_comm, h1, Int.mul_comm]
  unfold wr
  omega
theorem tmod_R {x y : Int} (hx : iR x) (hy : iR y) : iR (x.tmod y) := by
  have h := rem_toInt (Int32.ofInt x) (Int32.ofInt y)
  rw [tI hx, tI hy] at h
  rw [← h]
  exact toInt_R _
theorem l_add (x y : Int) : Int64.ofInt x + Int64.ofInt y = Int64.ofInt (wl (x + y)) := by rw [ofwl, Int64.ofInt_add]
theorem l_sub (x y : Int) : Int64.ofInt x - Int64.ofInt y = Int64.ofInt (wl (x - y)) := by rw [ofwl, Int64.ofInt_sub]
theorem l_mul (x y : Int) : Int64.ofInt x * Int64.ofInt y = Int64.ofInt (wl (x * y)) := by rw [ofwl, Int64.ofInt_mul]
theorem l_neg (x : Int) : -Int64.ofInt x = Int64.ofInt (wl (-x)) := by rw [ofwl, Int64.ofInt_neg]
theorem l_div {x y : Int} (hx : lR x) (hy : lR y) : Int64.ofInt x / Int64.ofInt y = Int64.ofInt (wl (x.tdiv y)) := by
  refine Int64.toInt_inj.1 ?_
  rw [Int64.toInt_div, tL hx, tL hy, toI64, wl_wl]
  exact bm64 _
theorem n_lt {x y : Int} (hx : iR x) (hy : iR y) : Int32.ofInt x < Int32.ofInt y ↔ x < y := by rw [Int32.lt_iff_toInt_lt, tI hx, tI hy]
theorem n_le {x y : Int} (hx : iR x) (hy : iR y) : Int32.ofInt x ≤ Int32.ofInt y ↔ x ≤ y := by rw [Int32.le_iff_toInt_le, tI hx, tI hy]
theorem n_eq {x y : Int} (hx : iR x) (hy : iR y) : Int32.ofInt x = Int32.ofInt y ↔ x = y := by rw [← Int32.toInt_inj, tI hx, tI hy]
theorem l_lt {x y : Int} (hx : lR x) (hy : lR y) : Int64.ofInt x < Int64.ofInt y ↔ x < y := by rw [Int64.lt_iff_toInt_lt, tL hx, tL hy]
theorem l_eq {x y : Int} (hx : lR x) (hy : lR y) : Int64.ofInt x = Int64.ofInt y ↔ x = y := by rw [← Int64.toInt_inj, tL hx, tL hy]
theorem z0 : (0 : Int32) = Int32.ofInt 0 := rfl
theorem z0l : (0 : Int64) = Int64.ofInt 0 := rfl
theorem iR0 : iR 0 := by unfold iR; omega
theorem lR0 : lR 0 := by unfold lR; omega
theorem n_nz {y : Int} (hy : iR y) (h : y ≠ 0) : ¬ Int32.ofInt y = 0 := by rw [z0, n_eq hy iR0]; exact h
theorem l_nz {y : Int} (hy : lR y) (h : y ≠ 0) : ¬ Int64.ofInt y = 0 := by rw [z0l, l_eq hy lR0]; exact h
theorem n_cl {i : Int} (hi : iR i) : (Int32.ofInt i).toNatClampNeg = i.toNat := by rw [← Int32.toNat_toInt, tI hi]
theorem n_in {i : Int} {m : Nat} (hi : iR i) (h0 : 0 ≤ i) (h1 : i < (m : Int)) : vp_in (Int32.ofInt i) m := by
  unfold vp_in
  rw [n_cl hi, z0, n_lt hi iR0]
  omega
theorem n_i2l {x : Int} (hx : iR x) : (Int32.ofInt x).toInt64 = Int64.ofInt x := by
  refine Int64.toInt_inj.1 ?_
  rw [Int32.toInt_toInt64, tI hx, tL (by unfold iR at hx; unfold lR; omega)]
theorem n_l2i {x : Int} (hx : lR x) : (Int64.ofInt x).toInt32 = Int32.ofInt (wr x) := by
  refine Int32.toInt_inj.1 ?_
  rw [Int64.toInt_toInt32, tL hx, toI32, wr_wr]
  exact bm32 _
theorem n_i2b {x : Int} (hx : iR x) : (Int32.ofInt x).toInt8.toInt32 = Int32.ofInt (wb x) := by
  refine Int32.toInt_inj.1 ?_
  rw [Int8.toInt_toInt32, Int32.toInt_toInt8, tI hx, tI (wb_R x)]
  exact bm8 _
theorem n_i2s {x : Int} (hx : iR x) : (Int32.ofInt x).toInt16.toInt32 = Int32.ofInt (wsh x) := by
  refine Int32.toInt_inj.1 ?_
  rw [Int16.toInt_toInt32, Int32.toInt_toInt16, tI hx, tI (wsh_R x)]
  exact bm16 _
theorem n_i2c {x : Int} (hx : iR x) : ((Int32.ofInt x).toUInt32 % 65536).toInt32 = Int32.ofInt (x % 65536) := by
  refine Int32.toInt_inj.1 ?_
  have h1 : (Int32.ofInt x).toUInt32.toNat = (x % 4294967296).toNat := by
    show (Int32.ofInt x).toBitVec.toNat = _
    rw [Int32.toBitVec_ofInt, BitVec.toNat_ofInt]
    rfl
  have h2 : ((Int32.ofInt x).toUInt32 % 65536).toNat = (x % 65536).toNat := by
    rw [UInt32.toNat_mod, h1]
    show (x % 4294967296).toNat % 65536 = _
    omega
  rw [tI (by unfold iR; omega)]
  have h3 : ((Int32.ofInt x).toUInt32 % 65536).toInt32.toInt = (((Int32.ofInt x).toUInt32 % 65536).toNat : Int).bmod 4294967296 := by
    show BitVec.toInt _ = _
    rw [BitVec.toInt_eq_toNat_bmod]
    rfl
  rw [h3, h2, bm32, wr_id (by unfold iR; omega)]
  omega
theorem n_cmp {x y : Int} (hx : lR x) (hy : lR y) : lg_cmp (Int64.ofInt x) (Int64.ofInt y) = Int32.ofInt (lcm x y) := by
  unfold lg_cmp lcm
  by_cases h1 : x < y
  · rw [if_neg (by rw [gt_iff_lt, l_lt hy hx]; omega), if_neg (by rw [l_eq hx hy]; omega), if_pos h1]
    rfl
  · by_cases h2 : x = y
    · rw [if_neg (by rw [gt_iff_lt, l_lt hy hx]; omega), if_pos (by rw [l_eq hx hy]; exact h2), if_neg h1, if_pos h2]
      rfl
    · rw [if_pos (by rw [gt_iff_lt, l_lt hy hx]; omega), if_neg h1, if_neg h2]
      rfl
theorem lcm_R (x y : Int) : iR (lcm x y) := by
  unfold lcm iR
  split
  · omega
  · split <;> omega
theorem bi_b (x y : Int) : Int32.ofInt x &&& Int32.ofInt y = Int32.ofInt (bI x y) := (Int32.ofInt_toInt _).symm
theorem bi_o (x y : Int) : Int32.ofInt x ||| Int32.ofInt y = Int32.ofInt (oI x y) := (Int32.ofInt_toInt _).symm
theorem bi_x (x y : Int) : Int32.ofInt x ^^^ Int32.ofInt y = Int32.ofInt (xI x y) := (Int32.ofInt_toInt _).symm
theorem bi_sl (x y : Int) : Int32.ofInt x <<< (Int32.ofInt y &&& 31) = Int32.ofInt (slI x y) := (Int32.ofInt_toInt _).symm
theorem bi_sr (x y : Int) : Int32.ofInt x >>> (Int32.ofInt y &&& 31) = Int32.ofInt (srI x y) := (Int32.ofInt_toInt _).symm
theorem bi_su (x y : Int) : ((Int32.ofInt x).toUInt32 >>> ((Int32.ofInt y).toUInt32 &&& Int32.toUInt32 31)).toInt32 = Int32.ofInt (suI x y) := (Int32.ofInt_toInt _).symm
theorem bl_b (x y : Int) : Int64.ofInt x &&& Int64.ofInt y = Int64.ofInt (bL x y) := (Int64.ofInt_toInt _).symm
theorem bl_o (x y : Int) : Int64.ofInt x ||| Int64.ofInt y = Int64.ofInt (oL x y) := (Int64.ofInt_toInt _).symm
theorem bl_sl (x y : Int) : Int64.ofInt x <<< ((Int32.ofInt y).toInt64 &&& 63) = Int64.ofInt (slL x y) := (Int64.ofInt_toInt _).symm
theorem bl_sr (x y : Int) : Int64.ofInt x >>> ((Int32.ofInt y).toInt64 &&& 63) = Int64.ofInt (srL x y) := (Int64.ofInt_toInt _).symm
end
section
/-! what the machine does at an instruction that touches no cell, for the walking machine. Own work (rows laid by wip/pm/gen6.py). -/
theorem ok_c {a : pV} {r : List pV} (h : okV a) (hr : ∀ v ∈ r, okV v) : ∀ v ∈ a :: r, okV v := List.forall_mem_cons.mpr ⟨h, hr⟩
theorem ok_h {a : pV} {r : List pV} (h : ∀ v ∈ a :: r, okV v) : okV a := (List.forall_mem_cons.mp h).1
theorem ok_t {a : pV} {r : List pV} (h : ∀ v ∈ a :: r, okV v) : ∀ v ∈ r, okV v := (List.forall_mem_cons.mp h).2
theorem lg_get : ∀ {lv : List (Option pV)} {a : Nat} {v : pV}, lg lv a = some v → lv[a]? = some (some v)
  | [], _, _, h => by simp [lg] at h
  | x :: _, 0, v, h => by simp [lg] at h; simp [h]
  | _ :: t, i + 1, v, h => by simp [lg] at h; simpa using lg_get h
def asc (G : pG) (lv : List (Option pV)) : List (Nat × Value) := (List.range lv.length).filterMap (fun i => match lv[i]? with
  | some (some w) => some (i, tr G w)
  | _ => none)
theorem mem_asc {G : pG} {lv : List (Option pV)} {i : Nat} {u : Value} : (i, u) ∈ asc G lv ↔ ∃ w, lv[i]? = some (some w) ∧ u = tr G w := by
  unfold asc
  rw [List.mem_filterMap]
  constructor
  · rintro ⟨j, -, hj⟩
    split at hj
    next w hw => cases hj; exact ⟨w, hw, rfl⟩
    next => cases hj
  · rintro ⟨w, hw, rfl⟩
    refine ⟨i, List.mem_range.mpr (List.getElem?_eq_some_iff.mp hw).1, ?_⟩
    rw [hw]
theorem Hs.has {G : pG} {k : Nat} {ls : Array Slot} {lv : List (Option pV)} (h : Hs G k ls lv) : lv_has ls (mL k) (asc G lv) := by
  refine ⟨h.1, h.2.1, fun q hq => ?_⟩
  obtain ⟨i, u⟩ := q
  obtain ⟨w, hw, rfl⟩ := mem_asc.mp hq
  exact (h.2.2.2 i w hw).2
theorem ctg_tr (G : pG) (w : pV) : (tr G w).category = ctg w := by
  cases w with
  | inl r => cases r <;> rfl
  | inr z => cases z <;> rfl
theorem ls1_spec : ∀ {lv : List (Option pV)} {a : Nat} {v : pV} {k : List (Option pV) → Prop}, ls1 lv a v k → ∃ lv', k lv' ∧ lv'.length = lv.length ∧
    ∀ (i : Nat) (w : pV), lv'[i]? = some (some w) → (i = a ∧ w = v) ∨ (i ≠ a ∧ lv[i]? = some (some w) ∧ ¬ (i + 1 = a ∧ ctg w = 2))
  | [], _, _, k, h => ⟨[], h, rfl, fun i w hw => by simp at hw⟩
  | x :: t, 0, v, k, h => ⟨some v :: t, h, rfl, fun i w hw => by
      cases i with
      | zero => simp at hw; exact Or.inl ⟨rfl, hw.symm⟩
      | succ i => exact Or.inr ⟨by omega, by simpa using hw, by omega⟩⟩
  | x :: t, 1, v, k, h => by
      have key : ∀ (y : Option pV) (hy : ∀ w, y = some w → x = some w ∧ ctg w = 1), ls1 t 0 v (fun t' => k (y :: t')) → ∃ lv', k lv' ∧ lv'.length = (x :: t).length ∧
          ∀ (i : Nat) (w : pV), lv'[i]? = some (some w) → (i = 1 ∧ w = v) ∨ (i ≠ 1 ∧ (x :: t)[i]? = some (some w) ∧ ¬ (i + 1 = 1 ∧ ctg w = 2)) := by
        intro y hy h
        obtain ⟨t', h1, h2, h3⟩ := ls1_spec h
        refine ⟨y :: t', h1, by simp [h2], fun i w hw => ?_⟩
        cases i with
        | zero =>
          simp at hw
          obtain ⟨e1, e2⟩ := hy w hw
          exact Or.inr ⟨by omega, by simp [e1], by omega⟩
        | succ i =>
          rcases h3 i w (by simpa using hw) with ⟨e1, e2⟩ | ⟨e1, e2, e3⟩
          · exact Or.inl ⟨by omega, e2⟩
          · exact Or.inr ⟨by omega, by simpa using e2, by omega⟩
      cases x with
      | none => exact key none (fun w e => by cases e) h
      | some y =>
        cases y with
        | inl r => exact key (some (.inl r)) (fun w e => by cases e; exact ⟨rfl, rfl⟩) h
        | inr y =>
          cases y with
          | inl z => exact key (some (.inr (.inl z))) (fun w e => by cases e; exact ⟨rfl, rfl⟩) h
          | inr z => exact key none (fun w e => by cases e) h
  | x :: t, j + 2, v, k, h => by
      obtain ⟨t', h1, h2, h3⟩ := ls1_spec (lv := t) (a := j + 1) (v := v) (k := fun t' => k (x :: t')) h
      refine ⟨x :: t', h1, by simp [h2], fun i w hw => ?_⟩
      cases i with
      | zero => exact Or.inr ⟨by omega, by simpa using hw, by omega⟩
      | succ i =>
        rcases h3 i w (by simpa using hw) with ⟨e1, e2⟩ | ⟨e1, e2, e3⟩
        · exact Or.inl ⟨by omega, e2⟩
        · exact Or.inr ⟨by omega, by simpa using e2, by omega⟩
theorem ls2_spec : ∀ {lv : List (Option pV)} {a : Nat} {v : pV} {k : List (Option pV) → Prop}, ls2 lv a v k → ∃ lv', k lv' ∧ lv'.length = lv.length ∧
    ∀ (i : Nat) (w : pV), lv'[i]? = some (some w) → (i = a ∧ w = v) ∨ (i ≠ a ∧ i ≠ a + 1 ∧ lv[i]? = some (some w) ∧ ¬ (i + 1 = a ∧ ctg w = 2))
  | [], _, _, k, h => ⟨[], h, rfl, fun i w hw => by simp at hw⟩
  | [x], 0, v, k, h => ⟨[some v], h, rfl, fun i w hw => by
      cases i with
      | zero => simp at hw; exact Or.inl ⟨rfl, hw.symm⟩
      | succ i => simp at hw⟩
  | x :: y :: t, 0, v, k, h => ⟨some v :: none :: t, h, rfl, fun i w hw => by
      cases i with
      | zero => simp at hw; exact Or.inl ⟨rfl, hw.symm⟩
      | succ i =>
        cases i with
        | zero => simp at hw
        | succ i => exact Or.inr ⟨by omega, by omega, by simpa using hw, by omega⟩⟩
  | x :: t, 1, v, k, h => by
      have key : ∀ (y : Option pV) (hy : ∀ w, y = some w → x = some w ∧ ctg w = 1), ls2 t 0 v (fun t' => k (y :: t')) → ∃ lv', k lv' ∧ lv'.length = (x :: t).length ∧
          ∀ (i : Nat) (w : pV), lv'[i]? = some (some w) → (i = 1 ∧ w = v) ∨ (i ≠ 1 ∧ i ≠ 1 + 1 ∧ (x :: t)[i]? = some (some w) ∧ ¬ (i + 1 = 1 ∧ ctg w = 2)) := by
        intro y hy h
        obtain ⟨t', h1, h2, h3⟩ := ls2_spec h
        refine ⟨y :: t', h1, by simp [h2], fun i w hw => ?_⟩
        cases i with
        | zero =>
          simp at hw
          obtain ⟨e1, e2⟩ := hy w hw
          exact Or.inr ⟨by omega, by omega, by simp [e1], by omega⟩
        | succ i =>
          rcases h3 i w (by simpa using hw) with ⟨e1, e2⟩ | ⟨e1, e0, e2, e3⟩
          · exact Or.inl ⟨by omega, e2⟩
          · exact Or.inr ⟨by omega, by omega, by simpa using e2, by omega⟩
      cases x with
      | none => exact key none (fun w e => by cases e) h
      | some y =>
        cases y with
        | inl r => exact key (some (.inl r)) (fun w e => by cases e; exact ⟨rfl, rfl⟩) h
        | inr y =>
          cases y with
          | inl z => exact key (some (.inr (.inl z))) (fun w e => by cases e; exact ⟨rfl, rfl⟩) h
          | inr z => exact key none (fun w e => by cases e) h
  | x :: t, j + 2, v, k, h => by
      obtain ⟨t', h1, h2, h3⟩ := ls2_spec (lv := t) (a := j + 1) (v := v) (k := fun t' => k (x :: t')) h
      refine ⟨x :: t', h1, by simp [h2], fun i w hw => ?_⟩
      cases i with
      | zero => exact Or.inr ⟨by omega, by omega, by simpa using hw, by omega⟩
      | succ i =>
        rcases h3 i w (by simpa using hw) with ⟨e1, e2⟩ | ⟨e1, e0, e2, e3⟩
        · exact Or.inl ⟨by omega, e2⟩
        · exact Or.inr ⟨by omega, by omega, by simpa using e2, by omega⟩
/-- the locals behind a store of one word -/
theorem Hs.set1 {G : pG} {k a : Nat} {ls ls' : Array Slot} {lv lv' : List (Option pV)} {v : pV} (h : Hs G k ls lv) (hv : okV v) (hlen : lv'.length = lv.length)
    (hl : lv_has ls' (mL k) ((a, tr G v) :: (asc G lv).filter (fun q => !(q.1 == a) && !(q.1 + 1 == a && q.2.category == 2))))
    (hs : ∀ (i : Nat) (w : pV), lv'[i]? = some (some w) → (i = a ∧ w = v) ∨ (i ≠ a ∧ lv[i]? = some (some w) ∧ ¬ (i + 1 = a ∧ ctg w = 2))) : Hs G k ls' lv' := by
  refine ⟨hl.1, hl.2.1, by rw [hlen]; exact h.2.2.1, fun i w hw => ?_⟩
  rcases hs i w hw with ⟨rfl, rfl⟩ | ⟨e1, e2, e3⟩
  · exact ⟨hv, hl.2.2 (i, tr G w) List.mem_cons_self⟩
  · refine ⟨(h.2.2.2 i w e2).1, hl.2.2 (i, tr G w) (List.mem_cons_of_mem _ (List.mem_filter.mpr ⟨mem_asc.mpr ⟨w, e2, rfl⟩, ?_⟩))⟩
    rw [ctg_tr]
    simp only [Bool.and_eq_true, Bool.not_eq_true', beq_eq_false_iff_ne, ne_eq, Bool.and_eq_false_iff]
    refine ⟨e1, ?_⟩
    by_cases q : i + 1 = a
    · exact Or.inr (fun z => e3 ⟨q, z⟩)
    · exact Or.inl q
theorem Hs.set2 {G : pG} {k a : Nat} {ls ls' : Array Slot} {lv lv' : List (Option pV)} {v : pV} (h : Hs G k ls lv) (hv : okV v) (hlen : lv'.length = lv.length)
    (hl : lv_has ls' (mL k) ((a, tr G v) :: (asc G lv).filter (fun q => !(q.1 == a) && (!(q.1 == a + 1) && !(q.1 + 1 == a && q.2.category == 2)))))
    (hs : ∀ (i : Nat) (w : pV), lv'[i]? = some (some w) → (i = a ∧ w = v) ∨ (i ≠ a ∧ i ≠ a + 1 ∧ lv[i]? = some (some w) ∧ ¬ (i + 1 = a ∧ ctg w = 2))) : Hs G k ls' lv' := by
  refine ⟨hl.1, hl.2.1, by rw [hlen]; exact h.2.2.1, fun i w hw => ?_⟩
  rcases hs i w hw with ⟨rfl, rfl⟩ | ⟨e1, e0, e2, e3⟩
  · exact ⟨hv, hl.2.2 (i, tr G w) List.mem_cons_self⟩
  · refine ⟨(h.2.2.2 i w e2).1, hl.2.2 (i, tr G w) (List.mem_cons_of_mem _ (List.mem_filter.mpr ⟨mem_asc.mpr ⟨w, e2, rfl⟩, ?_⟩))⟩
    rw [ctg_tr]
    simp only [Bool.and_eq_true, Bool.not_eq_true', beq_eq_false_iff_ne, ne_eq, Bool.and_eq_false_iff]
    refine ⟨e1, e0, ?_⟩
    by_cases q : i + 1 = a
    · exact Or.inr (fun z => e3 ⟨q, z⟩)
    · exact Or.inl q
section PURE
variable {G : pG} {d k n0 n pc nx a : Nat} {lv : List (Option pV)} {r : List pV} {F : pF} {I : pI} {Q : Option pV → pF → pI → Prop} {x y : Int} {v : pV}

theorem g_iconst {i : Int} (hd : decode (mB k) pc = .ok (.iconst i, 1)) (hn : nx = pc + 1) (hv : Int32.ofInt i = Int32.ofInt x) (hx : iR x) (h : Go G d k n0 n nx lv (.inr (.inl x) :: r) F I Q) : Go G d k n0 n pc lv (r) F I Q := by
  intro p e s m args below meth c H locs ls C hl hs
  subst hn
  exact lv_iconst C.1 C.2.1 hd hv (h p e s m args below meth c H locs ls C hl (ok_c hx hs))
theorem g_bipush {i : Int} (hd : decode (mB k) pc = .ok (.bipush i, 2)) (hn : nx = pc + 2) (hv : (Int8.ofInt i).toInt32 = Int32.ofInt x) (hx : iR x) (h : Go G d k n0 n nx lv (.inr (.inl x) :: r) F I Q) : Go G d k n0 n pc lv (r) F I Q := by
  intro p e s m args below meth c H locs ls C hl hs
  subst hn
  exact lv_bipush C.1 C.2.1 hd hv (h p e s m args below meth c H locs ls C hl (ok_c hx hs))
theorem g_sipush {i : Int} (hd : decode (mB k) pc = .ok (.sipush i, 3)) (hn : nx = pc + 3) (hv : (Int16.ofInt i).toInt32 = Int32.ofInt x) (hx : iR x) (h : Go G d k n0 n nx lv (.inr (.inl x) :: r) F I Q) : Go G d k n0 n pc lv (r) F I Q := by
  intro p e s m args below meth c H locs ls C hl hs
  subst hn
  exact lv_sipush C.1 C.2.1 hd hv (h p e s m args below meth c H locs ls C hl (ok_c hx hs))
theorem g_lconst {i : Fin 2} (hd : decode (mB k) pc = .ok (.lconst i, 1)) (hn : nx = pc + 1) (hv : Int64.ofNat (i : Nat) = Int64.ofInt x) (hx : lR x) (h : Go G d k n0 n nx lv (.inr (.inr x) :: r) F I Q) : Go G d k n0 n pc lv (r) F I Q := by
  intro p e s m args below meth c H locs ls C hl hs
  subst hn
  exact lv_lconst C.1 C.2.1 hd hv (h p e s m args below meth c H locs ls C hl (ok_c hx hs))
theorem g_null (hd : decode (mB k) pc = .ok (.aconst_null, 1)) (hn : nx = pc + 1) (h : Go G d k n0 n nx lv (.inl none :: r) F I Q) : Go G d k n0 n pc lv (r) F I Q := by
  intro p e s m args below meth c H locs ls C hl hs
  subst hn
  exact lv_null C.1 C.2.1 hd (h p e s m args below meth c H locs ls C hl (ok_c trivial hs))
theorem g_iload_n {i : Fin 4} (hd : decode (mB k) pc = .ok (.iload_n i, 1)) (hn : nx = pc + 1) (hi : (i : Nat) = a) (hg : lg lv a = some (.inr (.inl x))) (h : Go G d k n0 n nx lv (.inr (.inl x) :: r) F I Q) : Go G d k n0 n pc lv (r) F I Q := by
  intro p e s m args below meth c H locs ls C hl hs
  subst hn
  obtain ⟨h1, h2⟩ := hl.2.2.2 a _ (lg_get hg)
  exact lv_iload_n C.1 C.2.1 hd hi h2 (h p e s m args below meth c H locs ls C hl (ok_c h1 hs))
theorem g_iload (hd : decode (mB k) pc = .ok (.iload a, 2)) (hn : nx = pc + 2) (hg : lg lv a = some (.inr (.inl x))) (h : Go G d k n0 n nx lv (.inr (.inl x) :: r) F I Q) : Go G d k n0 n pc lv (r) F I Q := by
  intro p e s m args below meth c H locs ls C hl hs
  subst hn
  obtain ⟨h1, h2⟩ := hl.2.2.2 a _ (lg_get hg)
  exact lv_iload C.1 C.2.1 hd h2 (h p e s m args below meth c H locs ls C hl (ok_c h1 hs))
theorem g_lload_n {i : Fin 4} (hd : decode (mB k) pc = .ok (.lload_n i, 1)) (hn : nx = pc + 1) (hi : (i : Nat) = a) (hg : lg lv a = some (.inr (.inr x))) (h : Go G d k n0 n nx lv (.inr (.inr x) :: r) F I Q) : Go G d k n0 n pc lv (r) F I Q := by
  intro p e s m args below meth c H locs ls C hl hs
  subst hn
  obtain ⟨h1, h2⟩ := hl.2.2.2 a _ (lg_get hg)
  exact lv_lload_n C.1 C.2.1 hd hi h2 (h p e s m args below meth c H locs ls C hl (ok_c h1 hs))
theorem g_lload (hd : decode (mB k) pc = .ok (.lload a, 2)) (hn : nx = pc + 2) (hg : lg lv a = some (.inr (.inr x))) (h : Go G d k n0 n nx lv (.inr (.inr x) :: r) F I Q) : Go G d k n0 n pc lv (r) F I Q := by
  intro p e s m args below meth c H locs ls C hl hs
  subst hn
  obtain ⟨h1, h2⟩ := hl.2.2.2 a _ (lg_get hg)
  exact lv_lload C.1 C.2.1 hd h2 (h p e s m args below meth c H locs ls C hl (ok_c h1 hs))
theorem g_aload_n {w : Option Nat} {i : Fin 4} (hd : decode (mB k) pc = .ok (.aload_n i, 1)) (hn : nx = pc + 1) (hi : (i : Nat) = a) (hg : lg lv a = some (.inl w)) (h : Go G d k n0 n nx lv (.inl w :: r) F I Q) : Go G d k n0 n pc lv (r) F I Q := by
  intro p e s m args below meth c H locs ls C hl hs
  subst hn
  obtain ⟨h1, h2⟩ := hl.2.2.2 a _ (lg_get hg)
  have h3 := h p e s m args below meth c H locs ls C hl (ok_c h1 hs)
  cases w with
  | none => exact lv_aload_nN C.1 C.2.1 hd hi h2 h3
  | some w => exact lv_aload_n C.1 C.2.1 hd hi h2 h3
theorem g_aload {w : Option Nat} (hd : decode (mB k) pc = .ok (.aload a, 2)) (hn : nx = pc + 2) (hg : lg lv a = some (.inl w)) (h : Go G d k n0 n nx lv (.inl w :: r) F I Q) : Go G d k n0 n pc lv (r) F I Q := by
  intro p e s m args below meth c H locs ls C hl hs
  subst hn
  obtain ⟨h1, h2⟩ := hl.2.2.2 a _ (lg_get hg)
  have h3 := h p e s m args below meth c H locs ls C hl (ok_c h1 hs)
  cases w with
  | none => exact lv_aloadN C.1 C.2.1 hd h2 h3
  | some w => exact lv_aload C.1 C.2.1 hd h2 h3
theorem g_istore_n {i : Fin 4} (hd : decode (mB k) pc = .ok (.istore_n i, 1)) (hn : nx = pc + 1) (hi : (i : Nat) = a) (ha : a < mL k) (h : ls1 lv a (.inr (.inl x)) (fun lv' => Go G d k n0 n nx lv' r F I Q)) : Go G d k n0 n pc lv (.inr (.inl x) :: r) F I Q := by
  intro p e s m args below meth c H locs ls C hl hs
  subst hn
  obtain ⟨lv', h1, h2, h3⟩ := ls1_spec h
  exact lv_istore_n (lv' := _) C.1 C.2.1 hd hi hl.has ha rfl (fun ls' hh => h1 p e s m args below meth c H locs ls' C (hl.set1 (ok_h hs) h2 hh h3) (ok_t hs))
theorem g_istore (hd : decode (mB k) pc = .ok (.istore a, 2)) (hn : nx = pc + 2) (ha : a < mL k) (h : ls1 lv a (.inr (.inl x)) (fun lv' => Go G d k n0 n nx lv' r F I Q)) : Go G d k n0 n pc lv (.inr (.inl x) :: r) F I Q := by
  intro p e s m args below meth c H locs ls C hl hs
  subst hn
  obtain ⟨lv', h1, h2, h3⟩ := ls1_spec h
  exact lv_istore (lv' := _) C.1 C.2.1 hd hl.has ha rfl (fun ls' hh => h1 p e s m args below meth c H locs ls' C (hl.set1 (ok_h hs) h2 hh h3) (ok_t hs))
theorem g_lstore_n {i : Fin 4} (hd : decode (mB k) pc = .ok (.lstore_n i, 1)) (hn : nx = pc + 1) (hi : (i : Nat) = a) (ha : a + 1 < mL k) (h : ls2 lv a (.inr (.inr x)) (fun lv' => Go G d k n0 n nx lv' r F I Q)) : Go G d k n0 n pc lv (.inr (.inr x) :: r) F I Q := by
  intro p e s m args below meth c H locs ls C hl hs
  subst hn
  obtain ⟨lv', h1, h2, h3⟩ := ls2_spec h
  exact lv_lstore_n (lv' := _) C.1 C.2.1 hd hi hl.has ha rfl (fun ls' hh => h1 p e s m args below meth c H locs ls' C (hl.set2 (ok_h hs) h2 hh h3) (ok_t hs))
theorem g_lstore (hd : decode (mB k) pc = .ok (.lstore a, 2)) (hn : nx = pc + 2) (ha : a + 1 < mL k) (h : ls2 lv a (.inr (.inr x)) (fun lv' => Go G d k n0 n nx lv' r F I Q)) : Go G d k n0 n pc lv (.inr (.inr x) :: r) F I Q := by
  intro p e s m args below meth c H locs ls C hl hs
  subst hn
  obtain ⟨lv', h1, h2, h3⟩ := ls2_spec h
  exact lv_lstore (lv' := _) C.1 C.2.1 hd hl.has ha rfl (fun ls' hh => h1 p e s m args below meth c H locs ls' C (hl.set2 (ok_h hs) h2 hh h3) (ok_t hs))
theorem g_astore_n {w : Option Nat} {i : Fin 4} (hd : decode (mB k) pc = .ok (.astore_n i, 1)) (hn : nx = pc + 1) (hi : (i : Nat) = a) (ha : a < mL k) (h : ls1 lv a (.inl w) (fun lv' => Go G d k n0 n nx lv' r F I Q)) : Go G d k n0 n pc lv (.inl w :: r) F I Q := by
  intro p e s m args below meth c H locs ls C hl hs
  subst hn
  obtain ⟨lv', h1, h2, h3⟩ := ls1_spec h
  cases w with
  | none => exact lv_astore_nN (lv' := _) C.1 C.2.1 hd hi hl.has ha rfl (fun ls' hh => h1 p e s m args below meth c H locs ls' C (hl.set1 (v := .inl none) trivial h2 hh h3) (ok_t hs))
  | some w => exact lv_astore_n (lv' := _) C.1 C.2.1 hd hi hl.has ha rfl (fun ls' hh => h1 p e s m args below meth c H locs ls' C (hl.set1 (v := .inl (some w)) trivial h2 hh h3) (ok_t hs))
theorem g_astore {w : Option Nat} (hd : decode (mB k) pc = .ok (.astore a, 2)) (hn : nx = pc + 2) (ha : a < mL k) (h : ls1 lv a (.inl w) (fun lv' => Go G d k n0 n nx lv' r F I Q)) : Go G d k n0 n pc lv (.inl w :: r) F I Q := by
  intro p e s m args below meth c H locs ls C hl hs
  subst hn
  obtain ⟨lv', h1, h2, h3⟩ := ls1_spec h
  cases w with
  | none => exact lv_astoreN (lv' := _) C.1 C.2.1 hd hl.has ha rfl (fun ls' hh => h1 p e s m args below meth c H locs ls' C (hl.set1 (v := .inl none) trivial h2 hh h3) (ok_t hs))
  | some w => exact lv_astore (lv' := _) C.1 C.2.1 hd hl.has ha rfl (fun ls' hh => h1 p e s m args below meth c H locs ls' C (hl.set1 (v := .inl (some w)) trivial h2 hh h3) (ok_t hs))
theorem g_iinc {z : Int} (hd : decode (mB k) pc = .ok (.iinc a z, 3)) (hn : nx = pc + 3) (ha : a < mL k) (hg : lg lv a = some (.inr (.inl x))) (h : ls1 lv a (.inr (.inl (wr (x + z)))) (fun lv' => Go G d k n0 n nx lv' r F I Q)) : Go G d k n0 n pc lv (r) F I Q := by
  intro p e s m args below meth c H locs ls C hl hs
  subst hn
  obtain ⟨lv', h1, h2, h3⟩ := ls1_spec h
  obtain ⟨j, hj⟩ := List.getElem?_of_mem (mem_asc.mpr ⟨_, lg_get hg, rfl⟩ : (a, tr G (.inr (.inl x))) ∈ asc G lv)
  exact lv_iinc (lv' := _) C.1 C.2.1 hd hl.has hj (n_add x z) ha rfl (fun ls' hh => h1 p e s m args below meth c H locs ls' C (hl.set1 (v := .inr (.inl (wr (x + z)))) (wr_R _) h2 hh h3) hs)
theorem g_iadd (hd : decode (mB k) pc = .ok (.iadd, 1)) (hn : nx = pc + 1) (h : Go G d k n0 n nx lv (.inr (.inl (wr (x + y))) :: r) F I Q) : Go G d k n0 n pc lv (.inr (.inl y) :: .inr (.inl x) :: r) F I Q := by
  intro p e s m args below meth c H locs ls C hl hs
  subst hn
  refine lv_iadd C.1 C.2.1 hd ?_
  rw [n_add]
  exact h p e s m args below meth c H locs ls C hl (ok_c (wr_R _) (ok_t (ok_t hs)))
theorem g_isub (hd : decode (mB k) pc = .ok (.isub, 1)) (hn : nx = pc + 1) (h : Go G d k n0 n nx lv (.inr (.inl (wr (x - y))) :: r) F I Q) : Go G d k n0 n pc lv (.inr (.inl y) :: .inr (.inl x) :: r) F I Q := by
  intro p e s m args below meth c H locs ls C hl hs
  subst hn
  refine lv_isub C.1 C.2.1 hd ?_
  rw [n_sub]
  exact h p e s m args below meth c H locs ls C hl (ok_c (wr_R _) (ok_t (ok_t hs)))
theorem g_imul (hd : decode (mB k) pc = .ok (.imul, 1)) (hn : nx = pc + 1) (h : Go G d k n0 n nx lv (.inr (.inl (wr (x * y))) :: r) F I Q) : Go G d k n0 n pc lv (.inr (.inl y) :: .inr (.inl x) :: r) F I Q := by
  intro p e s m args below meth c H locs ls C hl hs
  subst hn
  refine lv_imul C.1 C.2.1 hd ?_
  rw [n_mul]
  exact h p e s m args below meth c H locs ls C hl (ok_c (wr_R _) (ok_t (ok_t hs)))
theorem g_iand (hd : decode (mB k) pc = .ok (.iand, 1)) (hn : nx = pc + 1) (h : Go G d k n0 n nx lv (.inr (.inl (bI x y)) :: r) F I Q) : Go G d k n0 n pc lv (.inr (.inl y) :: .inr (.inl x) :: r) F I Q := by
  intro p e s m args below meth c H locs ls C hl hs
  subst hn
  refine lv_iand C.1 C.2.1 hd ?_
  rw [bi_b]
  exact h p e s m args below meth c H locs ls C hl (ok_c (toInt_R _) (ok_t (ok_t hs)))
theorem g_ior (hd : decode (mB k) pc = .ok (.ior, 1)) (hn : nx = pc + 1) (h : Go G d k n0 n nx lv (.inr (.inl (oI x y)) :: r) F I Q) : Go G d k n0 n pc lv (.inr (.inl y) :: .inr (.inl x) :: r) F I Q := by
  intro p e s m args below meth c H locs ls C hl hs
  subst hn
  refine lv_ior C.1 C.2.1 hd ?_
  rw [bi_o]
  exact h p e s m args below meth c H locs ls C hl (ok_c (toInt_R _) (ok_t (ok_t hs)))
theorem g_ixor (hd : decode (mB k) pc = .ok (.ixor, 1)) (hn : nx = pc + 1) (h : Go G d k n0 n nx lv (.inr (.inl (xI x y)) :: r) F I Q) : Go G d k n0 n pc lv (.inr (.inl y) :: .inr (.inl x) :: r) F I Q := by
  intro p e s m args below meth c H locs ls C hl hs
  subst hn
  refine lv_ixor C.1 C.2.1 hd ?_
  rw [bi_x]
  exact h p e s m args below meth c H locs ls C hl (ok_c (toInt_R _) (ok_t (ok_t hs)))
theorem g_ishl (hd : decode (mB k) pc = .ok (.ishl, 1)) (hn : nx = pc + 1) (h : Go G d k n0 n nx lv (.inr (.inl (slI x y)) :: r) F I Q) : Go G d k n0 n pc lv (.inr (.inl y) :: .inr (.inl x) :: r) F I Q := by
  intro p e s m args below meth c H locs ls C hl hs
  subst hn
  refine lv_ishl C.1 C.2.1 hd ?_
  rw [bi_sl]
  exact h p e s m args below meth c H locs ls C hl (ok_c (toInt_R _) (ok_t (ok_t hs)))
theorem g_ishr (hd : decode (mB k) pc = .ok (.ishr, 1)) (hn : nx = pc + 1) (h : Go G d k n0 n nx lv (.inr (.inl (srI x y)) :: r) F I Q) : Go G d k n0 n pc lv (.inr (.inl y) :: .inr (.inl x) :: r) F I Q := by
  intro p e s m args below meth c H locs ls C hl hs
  subst hn
  refine lv_ishr C.1 C.2.1 hd ?_
  rw [bi_sr]
  exact h p e s m args below meth c H locs ls C hl (ok_c (toInt_R _) (ok_t (ok_t hs)))
theorem g_iushr (hd : decode (mB k) pc = .ok (.iushr, 1)) (hn : nx = pc + 1) (h : Go G d k n0 n nx lv (.inr (.inl (suI x y)) :: r) F I Q) : Go G d k n0 n pc lv (.inr (.inl y) :: .inr (.inl x) :: r) F I Q := by
  intro p e s m args below meth c H locs ls C hl hs
  subst hn
  exact lv_iushr C.1 C.2.1 hd (bi_su x y) (h p e s m args below meth c H locs ls C hl (ok_c (toInt_R _) (ok_t (ok_t hs))))
theorem g_idiv (hd : decode (mB k) pc = .ok (.idiv, 1)) (hn : nx = pc + 1) (hy : y ≠ 0) (h : Go G d k n0 n nx lv (.inr (.inl (wr (x.tdiv y))) :: r) F I Q) : Go G d k n0 n pc lv (.inr (.inl y) :: .inr (.inl x) :: r) F I Q := by
  intro p e s m args below meth c H locs ls C hl hs
  subst hn
  refine lv_idiv C.1 C.2.1 hd (n_nz (ok_h hs) hy) ?_
  rw [n_div (ok_h (ok_t hs)) (ok_h hs)]
  exact h p e s m args below meth c H locs ls C hl (ok_c (wr_R _) (ok_t (ok_t hs)))
theorem g_irem (hd : decode (mB k) pc = .ok (.irem, 1)) (hn : nx = pc + 1) (hy : y ≠ 0) (h : Go G d k n0 n nx lv (.inr (.inl (x.tmod y)) :: r) F I Q) : Go G d k n0 n pc lv (.inr (.inl y) :: .inr (.inl x) :: r) F I Q := by
  intro p e s m args below meth c H locs ls C hl hs
  subst hn
  refine lv_irem C.1 C.2.1 hd (n_nz (ok_h hs) hy) ?_
  rw [n_rem (ok_h (ok_t hs)) (ok_h hs)]
  exact h p e s m args below meth c H locs ls C hl (ok_c (tmod_R (ok_h (ok_t hs)) (ok_h hs)) (ok_t (ok_t hs)))
theorem g_ineg (hd : decode (mB k) pc = .ok (.ineg, 1)) (hn : nx = pc + 1) (h : Go G d k n0 n nx lv (.inr (.inl (wr (- x))) :: r) F I Q) : Go G d k n0 n pc lv (.inr (.inl x) :: r) F I Q := by
  intro p e s m args below meth c H locs ls C hl hs
  subst hn
  refine lv_ineg C.1 C.2.1 hd ?_
  rw [n_neg]
  exact h p e s m args below meth c H locs ls C hl (ok_c (wr_R _) (ok_t hs))
theorem g_ladd (hd : decode (mB k) pc = .ok (.ladd, 1)) (hn : nx = pc + 1) (h : Go G d k n0 n nx lv (.inr (.inr (wl (x + y))) :: r) F I Q) : Go G d k n0 n pc lv (.inr (.inr y) :: .inr (.inr x) :: r) F I Q := by
  intro p e s m args below meth c H locs ls C hl hs
  subst hn
  refine lv_ladd C.1 C.2.1 hd ?_
  rw [l_add]
  exact h p e s m args below meth c H locs ls C hl (ok_c (wl_R _) (ok_t (ok_t hs)))
theorem g_lsub (hd : decode (mB k) pc = .ok (.lsub, 1)) (hn : nx = pc + 1) (h : Go G d k n0 n nx lv (.inr (.inr (wl (x - y))) :: r) F I Q) : Go G d k n0 n pc lv (.inr (.inr y) :: .inr (.inr x) :: r) F I Q := by
  intro p e s m args below meth c H locs ls C hl hs
  subst hn
  refine lv_lsub C.1 C.2.1 hd ?_
  rw [l_sub]
  exact h p e s m args below meth c H locs ls C hl (ok_c (wl_R _) (ok_t (ok_t hs)))
theorem g_lmul (hd : decode (mB k) pc = .ok (.lmul, 1)) (hn : nx = pc + 1) (h : Go G d k n0 n nx lv (.inr (.inr (wl (x * y))) :: r) F I Q) : Go G d k n0 n pc lv (.inr (.inr y) :: .inr (.inr x) :: r) F I Q := by
  intro p e s m args below meth c H locs ls C hl hs
  subst hn
  refine lv_lmul C.1 C.2.1 hd ?_
  rw [l_mul]
  exact h p e s m args below meth c H locs ls C hl (ok_c (wl_R _) (ok_t (ok_t hs)))
theorem g_land (hd : decode (mB k) pc = .ok (.land, 1)) (hn : nx = pc + 1) (h : Go G d k n0 n nx lv (.inr (.inr (bL x y)) :: r) F I Q) : Go G d k n0 n pc lv (.inr (.inr y) :: .inr (.inr x) :: r) F I Q := by
  intro p e s m args below meth c H locs ls C hl hs
  subst hn
  refine lv_land C.1 C.2.1 hd ?_
  rw [bl_b]
  exact h p e s m args below meth c H locs ls C hl (ok_c (toInt_LR _) (ok_t (ok_t hs)))
theorem g_lor (hd : decode (mB k) pc = .ok (.lor, 1)) (hn : nx = pc + 1) (h : Go G d k n0 n nx lv (.inr (.inr (oL x y)) :: r) F I Q) : Go G d k n0 n pc lv (.inr (.inr y) :: .inr (.inr x) :: r) F I Q := by
  intro p e s m args below meth c H locs ls C hl hs
  subst hn
  refine lv_lor C.1 C.2.1 hd ?_
  rw [bl_o]
  exact h p e s m args below meth c H locs ls C hl (ok_c (toInt_LR _) (ok_t (ok_t hs)))
theorem g_lshl (hd : decode (mB k) pc = .ok (.lshl, 1)) (hn : nx = pc + 1) (h : Go G d k n0 n nx lv (.inr (.inr (slL x y)) :: r) F I Q) : Go G d k n0 n pc lv (.inr (.inl y) :: .inr (.inr x) :: r) F I Q := by
  intro p e s m args below meth c H locs ls C hl hs
  subst hn
  exact lv_lshl C.1 C.2.1 hd (bl_sl x y) (h p e s m args below meth c H locs ls C hl (ok_c (toInt_LR _) (ok_t (ok_t hs))))
theorem g_lshr (hd : decode (mB k) pc = .ok (.lshr, 1)) (hn : nx = pc + 1) (h : Go G d k n0 n nx lv (.inr (.inr (srL x y)) :: r) F I Q) : Go G d k n0 n pc lv (.inr (.inl y) :: .inr (.inr x) :: r) F I Q := by
  intro p e s m args below meth c H locs ls C hl hs
  subst hn
  exact lv_lshr C.1 C.2.1 hd (bl_sr x y) (h p e s m args below meth c H locs ls C hl (ok_c (toInt_LR _) (ok_t (ok_t hs))))
theorem g_lneg (hd : decode (mB k) pc = .ok (.lneg, 1)) (hn : nx = pc + 1) (h : Go G d k n0 n nx lv (.inr (.inr (wl (- x))) :: r) F I Q) : Go G d k n0 n pc lv (.inr (.inr x) :: r) F I Q := by
  intro p e s m args below meth c H locs ls C hl hs
  subst hn
  refine lv_lneg C.1 C.2.1 hd ?_
  rw [l_neg]
  exact h p e s m args below meth c H locs ls C hl (ok_c (wl_R _) (ok_t hs))
theorem g_ldiv (hd : decode (mB k) pc = .ok (.ldiv, 1)) (hn : nx = pc + 1) (hy : y ≠ 0) (h : Go G d k n0 n nx lv (.inr (.inr (wl (x.tdiv y))) :: r) F I Q) : Go G d k n0 n pc lv (.inr (.inr y) :: .inr (.inr x) :: r) F I Q := by
  intro p e s m args below meth c H locs ls C hl hs
  subst hn
  refine lv_ldiv C.1 C.2.1 hd (l_nz (ok_h hs) hy) ?_
  rw [l_div (ok_h (ok_t hs)) (ok_h hs)]
  exact h p e s m args below meth c H locs ls C hl (ok_c (wl_R _) (ok_t (ok_t hs)))
theorem g_lcmp (hd : decode (mB k) pc = .ok (.lcmp, 1)) (hn : nx = pc + 1) (h : Go G d k n0 n nx lv (.inr (.inl (lcm x y)) :: r) F I Q) : Go G d k n0 n pc lv (.inr (.inr y) :: .inr (.inr x) :: r) F I Q := by
  intro p e s m args below meth c H locs ls C hl hs
  subst hn
  refine W.lcmp C.1 C.2.1 hd ?_
  rw [n_cmp (ok_h (ok_t hs)) (ok_h hs)]
  exact h p e s m args below meth c H locs ls C hl (ok_c (lcm_R x y) (ok_t (ok_t hs)))
theorem g_i2l (hd : decode (mB k) pc = .ok (.i2l, 1)) (hn : nx = pc + 1) (h : Go G d k n0 n nx lv (.inr (.inr x) :: r) F I Q) : Go G d k n0 n pc lv (.inr (.inl x) :: r) F I Q := by
  intro p e s m args below meth c H locs ls C hl hs
  subst hn
  exact lv_i2l C.1 C.2.1 hd (n_i2l (ok_h hs)) (h p e s m args below meth c H locs ls C hl (ok_c (by have h9 : iR x := ok_h hs; unfold iR at h9; show lR x; unfold lR; omega) (ok_t hs)))
theorem g_l2i (hd : decode (mB k) pc = .ok (.l2i, 1)) (hn : nx = pc + 1) (h : Go G d k n0 n nx lv (.inr (.inl (wr x)) :: r) F I Q) : Go G d k n0 n pc lv (.inr (.inr x) :: r) F I Q := by
  intro p e s m args below meth c H locs ls C hl hs
  subst hn
  exact lv_l2i C.1 C.2.1 hd (n_l2i (ok_h hs)) (h p e s m args below meth c H locs ls C hl (ok_c (wr_R _) (ok_t hs)))
theorem g_i2b (hd : decode (mB k) pc = .ok (.i2b, 1)) (hn : nx = pc + 1) (h : Go G d k n0 n nx lv (.inr (.inl (wb x)) :: r) F I Q) : Go G d k n0 n pc lv (.inr (.inl x) :: r) F I Q := by
  intro p e s m args below meth c H locs ls C hl hs
  subst hn
  exact lv_i2b C.1 C.2.1 hd (n_i2b (ok_h hs)) (h p e s m args below meth c H locs ls C hl (ok_c (wb_R _) (ok_t hs)))
theorem g_i2s (hd : decode (mB k) pc = .ok (.i2s, 1)) (hn : nx = pc + 1) (h : Go G d k n0 n nx lv (.inr (.inl (wsh x)) :: r) F I Q) : Go G d k n0 n pc lv (.inr (.inl x) :: r) F I Q := by
  intro p e s m args below meth c H locs ls C hl hs
  subst hn
  exact lv_i2s C.1 C.2.1 hd (n_i2s (ok_h hs)) (h p e s m args below meth c H locs ls C hl (ok_c (wsh_R _) (ok_t hs)))
theorem g_i2c (hd : decode (mB k) pc = .ok (.i2c, 1)) (hn : nx = pc + 1) (h : Go G d k n0 n nx lv (.inr (.inl (x % 65536)) :: r) F I Q) : Go G d k n0 n pc lv (.inr (.inl x) :: r) F I Q := by
  intro p e s m args below meth c H locs ls C hl hs
  subst hn
  exact lv_i2c C.1 C.2.1 hd (n_i2c (ok_h hs)) (h p e s m args below meth c H locs ls C hl (ok_c (by show iR _; unfold iR; omega) (ok_t hs)))
theorem g_dupI (hd : decode (mB k) pc = .ok (.dup, 1)) (hn : nx = pc + 1) (h : Go G d k n0 n nx lv (.inr (.inl x) :: .inr (.inl x) :: r) F I Q) : Go G d k n0 n pc lv (.inr (.inl x) :: r) F I Q := by
  intro p e s m args below meth c H locs ls C hl hs
  subst hn
  exact lv_dup C.1 C.2.1 hd (by rw [ctg_tr]; rfl) (h p e s m args below meth c H locs ls C hl (ok_c (ok_h hs) hs))
theorem g_dupA {w : Option Nat} (hd : decode (mB k) pc = .ok (.dup, 1)) (hn : nx = pc + 1) (h : Go G d k n0 n nx lv (.inl w :: .inl w :: r) F I Q) : Go G d k n0 n pc lv (.inl w :: r) F I Q := by
  intro p e s m args below meth c H locs ls C hl hs
  subst hn
  exact lv_dup C.1 C.2.1 hd (by rw [ctg_tr]; rfl) (h p e s m args below meth c H locs ls C hl (ok_c (ok_h hs) hs))
theorem g_dup2 {w : Option Nat} (hd : decode (mB k) pc = .ok (.dup2, 1)) (hn : nx = pc + 1) (h : Go G d k n0 n nx lv (.inr (.inl x) :: .inl w :: .inr (.inl x) :: .inl w :: r) F I Q) : Go G d k n0 n pc lv (.inr (.inl x) :: .inl w :: r) F I Q := by
  intro p e s m args below meth c H locs ls C hl hs
  subst hn
  exact lv_dup2_11 C.1 C.2.1 hd (by rw [ctg_tr]; rfl) (by rw [ctg_tr]; rfl) (h p e s m args below meth c H locs ls C hl (ok_c (ok_h hs) (ok_c (ok_h (ok_t hs)) hs)))
theorem g_popI (hd : decode (mB k) pc = .ok (.pop, 1)) (hn : nx = pc + 1) (h : Go G d k n0 n nx lv (r) F I Q) : Go G d k n0 n pc lv (.inr (.inl x) :: r) F I Q := by
  intro p e s m args below meth c H locs ls C hl hs
  subst hn
  exact lv_pop C.1 C.2.1 hd (by rw [ctg_tr]; rfl) (h p e s m args below meth c H locs ls C hl (ok_t hs))
theorem g_popA {w : Option Nat} (hd : decode (mB k) pc = .ok (.pop, 1)) (hn : nx = pc + 1) (h : Go G d k n0 n nx lv (r) F I Q) : Go G d k n0 n pc lv (.inl w :: r) F I Q := by
  intro p e s m args below meth c H locs ls C hl hs
  subst hn
  exact lv_pop C.1 C.2.1 hd (by rw [ctg_tr]; rfl) (h p e s m args below meth c H locs ls C hl (ok_t hs))
theorem g_goto {off : Int} (hd : decode (mB k) pc = .ok (.goto off, 3)) (ht : (pc : Int) + off = (a : Int)) (h : Go G d k n0 n a lv (r) F I Q) : Go G d k n0 n pc lv (r) F I Q := by
  intro p e s m args below meth c H locs ls C hl hs
  exact lv_goto C.1 C.2.1 hd ht (h p e s m args below meth c H locs ls C hl hs)
theorem g_icmp {cn : Jvm.ClassFile.Cond} {off : Int} (hd : decode (mB k) pc = .ok (.if_icmp cn off, 3)) (hn : nx = pc + 3) (ht : (pc : Int) + off = (a : Int)) (h : br cn x y (Go G d k n0 n a lv (r) F I Q) (Go G d k n0 n nx lv (r) F I Q)) : Go G d k n0 n pc lv (.inr (.inl y) :: .inr (.inl x) :: r) F I Q := by
  subst hn
  intro p e s m args below meth c H locs ls C hl hs
  have hx : iR x := ok_h (ok_t hs)
  have hy : iR y := ok_h hs
  have hr := ok_t (ok_t hs)
  cases cn with
  | eq => exact lv_icmp_eq C.1 C.2.1 hd ht (fun z => h.1 ((n_eq hx hy).mp z) p e s m args below meth c H locs ls C hl hr) (fun z => h.2 (fun q => z ((n_eq hx hy).mpr q)) p e s m args below meth c H locs ls C hl hr)
  | ne => exact lv_icmp_ne C.1 C.2.1 hd ht (fun z => h.1 (fun q => z ((n_eq hx hy).mpr q)) p e s m args below meth c H locs ls C hl hr) (fun z => h.2 ((n_eq hx hy).mp z) p e s m args below meth c H locs ls C hl hr)
  | lt => exact lv_icmp_lt C.1 C.2.1 hd ht (fun z => h.1 ((n_lt hx hy).mp z) p e s m args below meth c H locs ls C hl hr) (fun z => h.2 (fun q => z ((n_lt hx hy).mpr q)) p e s m args below meth c H locs ls C hl hr)
  | ge => exact lv_icmp_ge C.1 C.2.1 hd ht (fun z => h.1 ((n_le hy hx).mp z) p e s m args below meth c H locs ls C hl hr) (fun z => h.2 (fun q => z ((n_le hy hx).mpr q)) p e s m args below meth c H locs ls C hl hr)
  | gt => exact lv_icmp_gt C.1 C.2.1 hd ht (fun z => h.1 ((n_lt hy hx).mp z) p e s m args below meth c H locs ls C hl hr) (fun z => h.2 (fun q => z ((n_lt hy hx).mpr q)) p e s m args below meth c H locs ls C hl hr)
  | le => exact lv_icmp_le C.1 C.2.1 hd ht (fun z => h.1 ((n_le hx hy).mp z) p e s m args below meth c H locs ls C hl hr) (fun z => h.2 (fun q => z ((n_le hx hy).mpr q)) p e s m args below meth c H locs ls C hl hr)
theorem g_if {cn : Jvm.ClassFile.Cond} {off : Int} (hd : decode (mB k) pc = .ok (.ifCond cn off, 3)) (hn : nx = pc + 3) (ht : (pc : Int) + off = (a : Int)) (h : br cn x 0 (Go G d k n0 n a lv (r) F I Q) (Go G d k n0 n nx lv (r) F I Q)) : Go G d k n0 n pc lv (.inr (.inl x) :: r) F I Q := by
  subst hn
  intro p e s m args below meth c H locs ls C hl hs
  have hx : iR x := ok_h hs
  have hy : iR 0 := iR0
  have hr := ok_t hs
  cases cn with
  | eq => exact lv_if_eq C.1 C.2.1 hd ht (fun z => h.1 ((n_eq hx hy).mp z) p e s m args below meth c H locs ls C hl hr) (fun z => h.2 (fun q => z ((n_eq hx hy).mpr q)) p e s m args below meth c H locs ls C hl hr)
  | ne => exact lv_if_ne C.1 C.2.1 hd ht (fun z => h.1 (fun q => z ((n_eq hx hy).mpr q)) p e s m args below meth c H locs ls C hl hr) (fun z => h.2 ((n_eq hx hy).mp z) p e s m args below meth c H locs ls C hl hr)
  | lt => exact lv_if_lt C.1 C.2.1 hd ht (fun z => h.1 ((n_lt hx hy).mp z) p e s m args below meth c H locs ls C hl hr) (fun z => h.2 (fun q => z ((n_lt hx hy).mpr q)) p e s m args below meth c H locs ls C hl hr)
  | ge => exact lv_if_ge C.1 C.2.1 hd ht (fun z => h.1 ((n_le hy hx).mp z) p e s m args below meth c H locs ls C hl hr) (fun z => h.2 (fun q => z ((n_le hy hx).mpr q)) p e s m args below meth c H locs ls C hl hr)
  | gt => exact lv_if_gt C.1 C.2.1 hd ht (fun z => h.1 ((n_lt hy hx).mp z) p e s m args below meth c H locs ls C hl hr) (fun z => h.2 (fun q => z ((n_lt hy hx).mpr q)) p e s m args below meth c H locs ls C hl hr)
  | le => exact lv_if_le C.1 C.2.1 hd ht (fun z => h.1 ((n_le hx hy).mp z) p e s m args below meth c H locs ls C hl hr) (fun z => h.2 (fun q => z ((n_le hx hy).mpr q)) p e s m args below meth c H locs ls C hl hr)
theorem g_ifnullN {off : Int} (hd : decode (mB k) pc = .ok (.ifnull off, 3)) (ht : (pc : Int) + off = (a : Int)) (h : Go G d k n0 n a lv (r) F I Q) : Go G d k n0 n pc lv (.inl none :: r) F I Q := by
  intro p e s m args below meth c H locs ls C hl hs
  exact lv_ifnullN C.1 C.2.1 hd ht (h p e s m args below meth c H locs ls C hl (ok_t hs))
theorem g_ifnullS {off : Int} {w : Nat} (hd : decode (mB k) pc = .ok (.ifnull off, 3)) (hn : nx = pc + 3) (h : Go G d k n0 n nx lv (r) F I Q) : Go G d k n0 n pc lv (.inl (some w) :: r) F I Q := by
  intro p e s m args below meth c H locs ls C hl hs
  subst hn
  exact lv_ifnull C.1 C.2.1 hd (h p e s m args below meth c H locs ls C hl (ok_t hs))
theorem g_ifnonnullS {off : Int} {w : Nat} (hd : decode (mB k) pc = .ok (.ifnonnull off, 3)) (ht : (pc : Int) + off = (a : Int)) (h : Go G d k n0 n a lv (r) F I Q) : Go G d k n0 n pc lv (.inl (some w) :: r) F I Q := by
  intro p e s m args below meth c H locs ls C hl hs
  exact lv_ifnonnull C.1 C.2.1 hd ht (h p e s m args below meth c H locs ls C hl (ok_t hs))
theorem g_ifnonnullN {off : Int} (hd : decode (mB k) pc = .ok (.ifnonnull off, 3)) (hn : nx = pc + 3) (h : Go G d k n0 n nx lv (r) F I Q) : Go G d k n0 n pc lv (.inl none :: r) F I Q := by
  intro p e s m args below meth c H locs ls C hl hs
  subst hn
  exact lv_ifnonnullN C.1 C.2.1 hd (h p e s m args below meth c H locs ls C hl (ok_t hs))
end PURE
end
section
/-! the cells of the world, seen as rows of the walking machine. Own work. -/
def tyF (c : Nat) : Nat → FieldType := match c with
  | 0 => tyX0
  | 1 => tyX1
  | 2 => tyX2
  | 3 => tyX3
  | 4 => tyX4
  | 5 => tyX5
  | 6 => tyX6
  | 7 => tyX7
  | 8 => tyX8
  | 9 => tyX9
  | 10 => tyX10
  | 11 => tyX11
  | _ => tyX12
theorem cl_get {c : Nat} (h : c < 13) : vwCl[c]? = some (clC c, clT c, clN c) := by
  have h1 : c < vwCl.length := h
  show vwCl[c]? = some (clQ c)
  unfold clQ
  rw [List.getD_eq_getElem?_getD, List.getElem?_eq_getElem h1]
  rfl
theorem c13 {P : Nat → Prop} (h0 : P 0) (h1 : P 1) (h2 : P 2) (h3 : P 3) (h4 : P 4) (h5 : P 5) (h6 : P 6) (h7 : P 7) (h8 : P 8) (h9 : P 9) (h10 : P 10) (h11 : P 11) (h12 : P 12) : ∀ c, c < 13 → P c := by
  intro c h
  match c, h with
  | 0, _ => exact h0
  | 1, _ => exact h1
  | 2, _ => exact h2
  | 3, _ => exact h3
  | 4, _ => exact h4
  | 5, _ => exact h5
  | 6, _ => exact h6
  | 7, _ => exact h7
  | 8, _ => exact h8
  | 9, _ => exact h9
  | 10, _ => exact h10
  | 11, _ => exact h11
  | 12, _ => exact h12
  | c + 13, h => omega
theorem cl_ty : ∀ c, c < 13 → ∀ k, k < clN c → parseFieldDescriptor (clT c k).2.2.1 = some (tyF c k) :=
  c13 tyX0_ok tyX1_ok tyX2_ok tyX3_ok tyX4_ok tyX5_ok tyX6_ok tyX7_ok tyX8_ok tyX9_ok tyX10_ok tyX11_ok tyX12_ok
theorem cl_nm : ∀ c, c < 13 → ∀ a, a < clN c → ∀ b, b < clN c → a ≠ b → (clT c a).2.1 ≠ (clT c b).2.1 :=
  c13 nmX0 nmX1 nmX2 nmX3 nmX4 nmX5 nmX6 nmX7 nmX8 nmX9 nmX10 nmX11 nmX12
theorem cl_in : ∀ c, c < 13 → ∀ w ∈ u_ws (clC c) (clT c) (clN c), w ∈ goods :=
  c13 cl_in0 cl_in1 cl_in2 cl_in3 cl_in4 cl_in5 cl_in6 cl_in7 cl_in8 cl_in9 cl_in10 cl_in11 cl_in12
theorem layG_ge : ∀ (l : List (List (Nat × Nat))) (i : Nat), l.length ≤ i → layG l i = []
  | [], _, _ => rfl
  | _ :: t, 0, h => by simp at h
  | _ :: t, i + 1, h => layG_ge t i (by simpa using h)
theorem lay_big {q : Nat} (h : 256 ≤ q) : lay q = (999, 0) := by
  unfold lay
  rw [layG_ge layT (q / 16) (by show 16 ≤ q / 16; omega)]
  rfl
theorem lay_all : ∀ q, q < 256 → (lay q).1 < 13 → (lay q).2 = clN (lay q).1 := by decide +kernel
theorem lay_cl {q a m : Nat} (h : lay q = (a, m)) (ha : a < 13) : m = clN a := by
  by_cases hq : q < 256
  · have := lay_all q hq (by rw [h]; exact ha)
    rw [h] at this
    exact this
  · rw [lay_big (by omega)] at h
    cases h
    omega
theorem wL_len (G : pG) (n : Nat) (F : pF) (I : pI) : (wL G n F I).length = n := by simp [wL]
theorem wL_at (G : pG) {n q : Nat} (F : pF) (I : pI) (h : q < n) : (wL G n F I)[q]? = some (gH G + q, cE G F I q) := by
  unfold wL
  rw [List.getElem?_map, List.getElem?_range h]
  rfl
theorem wL_lt {G : pG} {n i : Nat} {F : pF} {I : pI} {p : Nat × va_E} (h : (wL G n F I)[i]? = some p) : i < n ∧ p = (gH G + i, cE G F I i) := by
  have h1 : i < n := by
    have := (List.getElem?_eq_some_iff.mp h).1
    rwa [wL_len] at this
  rw [wL_at G F I h1] at h
  exact ⟨h1, (Option.some.inj h).symm⟩
theorem wL_D (G : pG) (n : Nat) (F : pF) (I : pI) : va_D (A0 G) (wL G n F I) := by
  refine ⟨fun i j p q hi hj hpq => ?_, fun k q hk => ?_⟩
  · obtain ⟨-, rfl⟩ := wL_lt hi
    obtain ⟨-, rfl⟩ := wL_lt hj
    simp at hpq
    exact hpq
  · obtain ⟨-, rfl⟩ := wL_lt hk
    exact Nat.le_add_right _ _
theorem wL_set {G : pG} {n q : Nat} {F F' : pF} {I I' : pI} {e : va_E} (he : cE G F' I' q = e) (ho : ∀ k, k ≠ q → cE G F' I' k = cE G F I k) : (wL G n F I).set q (gH G + q, e) = wL G n F' I' := by
  apply List.ext_getElem?
  intro i
  rw [List.getElem?_set, wL_len]
  by_cases hi : i < n
  · rw [wL_at G F' I' hi, wL_at G F I hi]
    by_cases hq : q = i
    · subst hq
      rw [if_pos rfl, if_pos hi, he]
    · rw [if_neg hq, ho i (fun z => hq z.symm)]
  · have h1 : ∀ F I, (wL G n F I)[i]? = none := fun F I => List.getElem?_eq_none (by rw [wL_len]; omega)
    rw [h1, h1]
    split
    · rw [if_neg (by omega)]
    · rfl
theorem wL_push (G : pG) (n : Nat) (F : pF) (I : pI) : wL G (n + 1) F I = wL G n F I ++ [(gH G + n, cE G F I n)] := by
  unfold wL
  rw [List.range_succ, List.map_append]
  rfl
theorem cE_obj {G : pG} {F : pF} {I : pI} {q c m : Nat} (h : lay q = (c, m)) (hc : c < 13) : cE G F I q = .inr (c, (List.range m).map (fV G F I q c)) := by
  unfold cE
  rw [h, if_pos (by show c < 100; omega)]
theorem cE_i {G : pG} {F : pF} {I : pI} {q m : Nat} (h : lay q = (100, m)) : cE G F I q = .inl (gC G 100, (m, .inl (fun j => Int32.ofInt (I q j)))) := by
  unfold cE
  rw [h, if_neg (Nat.not_lt.mpr (by show 100 ≤ _; exact Nat.le_of_ble_eq_true rfl)), if_pos (show _ < 200 from Nat.lt_of_lt_of_le (Nat.lt_succ_self _) (Nat.le_of_ble_eq_true rfl))]
theorem cE_b {G : pG} {F : pF} {I : pI} {q m : Nat} (h : lay q = (101, m)) : cE G F I q = .inl (gC G 101, (m, .inl (fun j => Int32.ofInt (I q j)))) := by
  unfold cE
  rw [h, if_neg (Nat.not_lt.mpr (by show 100 ≤ _; exact Nat.le_of_ble_eq_true rfl)), if_pos (show _ < 200 from Nat.lt_of_lt_of_le (Nat.lt_succ_self _) (Nat.le_of_ble_eq_true rfl))]
theorem cE_r {G : pG} {F : pF} {I : pI} {q t m : Nat} (h : lay q = (t, m)) (ht : 200 ≤ t) : cE G F I q = .inl (gC G t, (m, .inr (.inr (.inr (.inr (fun j => (F q j).map (ad G))))))) := by
  unfold cE
  rw [h, if_neg (by show ¬ t < 100; omega), if_neg (by show ¬ t < 200; omega)]
theorem fV_ne {G : pG} {F F' : pF} {I I' : pI} {q c j : Nat} (hF : F' q j = F q j) (hI : I' q j = I q j) : fV G F' I' q c j = fV G F I q c j := by unfold fV; rw [hF, hI]
theorem cE_ne {G : pG} {F F' : pF} {I I' : pI} {q : Nat} (hF : ∀ j, F' q j = F q j) (hI : ∀ j, I' q j = I q j) : cE G F' I' q = cE G F I q := by
  have h1 : F' q = F q := funext hF
  have h2 : I' q = I q := funext hI
  unfold cE
  have h3 : ∀ c, fV G F' I' q c = fV G F I q c := fun c => funext fun j => fV_ne (hF j) (hI j)
  rw [h1, h2, h3]
theorem set_map {m b : Nat} {f g : Nat → Value} {v : Value} (hb : g b = v) (ho : ∀ j, j ≠ b → g j = f j) : ((List.range m).map f).set b v = (List.range m).map g := by
  apply List.ext_getElem?
  intro i
  rw [List.getElem?_set]
  simp only [List.length_map, List.length_range, List.getElem?_map]
  by_cases hi : i < m
  · rw [List.getElem?_range hi]
    by_cases hq : b = i
    · subst hq
      simp [hi, hb]
    · simp [hq, ho i (fun z => hq z.symm)]
  · rw [List.getElem?_eq_none (by simp; omega)]
    split
    · rw [if_neg (by omega)]; rfl
    · rfl
theorem ad_w (G : pG) {q : Nat} (h : q < EXT) : ad G q = gH G + q := by unfold ad; rw [if_pos h]
theorem uI_ne {I : pI} {q b k : Nat} {x : Int} (h : k ≠ q) (j : Nat) : uI I q b x k j = I k j := by unfold uI; rw [if_neg (fun z => h z.1)]
theorem uF_ne {F : pF} {q b k : Nat} {x : Option Nat} (h : k ≠ q) (j : Nat) : uF F q b x k j = F k j := by unfold uF; rw [if_neg (fun z => h z.1)]
theorem uI_eq (I : pI) (q b : Nat) (x : Int) : uI I q b x q b = x := by unfold uI; rw [if_pos ⟨rfl, rfl⟩]
theorem uF_eq (F : pF) (q b : Nat) (x : Option Nat) : uF F q b x q b = x := by unfold uF; rw [if_pos ⟨rfl, rfl⟩]
theorem uI_nj {I : pI} {q b j : Nat} {x : Int} (h : j ≠ b) (k : Nat) : uI I q b x k j = I k j := by unfold uI; rw [if_neg (fun z => h z.2)]
theorem uF_nj {F : pF} {q b j : Nat} {x : Option Nat} (h : j ≠ b) (k : Nat) : uF F q b x k j = F k j := by unfold uF; rw [if_neg (fun z => h z.2)]
theorem uI_R {I : pI} (h : ∀ k j, iR (I k j)) {x : Int} (hx : iR x) (q b : Nat) : ∀ k j, iR (uI I q b x k j) := by
  intro k j
  unfold uI
  split
  · exact hx
  · exact h k j
/-- how large the heap is at most, from the walk itself -/
theorem W_sz {p : Program} {l : Launch} {e : Env} {R : Room} {s : State} {m : MethodId} {args : Array Value} {below : List Frame} {meth : Method} {c : Code} {H : Heap} {locs : List Loc} {cells slots : Nat} {Q : State → Prop} {g : JFrame}
    (h : H.size ≤ s.heap.size + cells → W p l e R s m args below meth c H locs cells slots Q g) : W p l e R s m args below meth c H locs cells slots Q g := by
  intro T hT X
  subst hT
  exact h X.heapSize T rfl X
/-- the size of the world's heap -/
theorem sz_of {G : pG} {n0 n : Nat} {F : pF} {I : pI} {s : State} {H : Heap} {locs : List Loc} (h0 : s.heap.size = gH G + n0) (hn : n0 ≤ n) (hP : va_P (gD G) vwCl (wL G n F I) H) (hS : va_S (A0 G) s.heap H locs) (hz : H.size ≤ s.heap.size + (n - n0)) : H.size = gH G + n := by
  have h1 := hS.1
  by_cases q : n = n0
  · omega
  · have h2 := (hP (n - 1) _ (wL_at G F I (by omega))).lt
    simp at h2
    omega
end
section
/-! what the machine does at an instruction that reads or writes a cell, for the walking machine. Own work. -/
theorem KX.cls {G : pG} {s : State} {H : Heap} (h : KX G s H) : ∀ (c : Nat) (q : vw_C), vwCl[c]? = some q → u_Kn s q.1 q.2.1 q.2.2 ((gD G).1 c) ((gD G).2 c) := h.2.2.2.2.2.2.1
theorem KX.arr {G : pG} {s : State} {H : Heap} (h : KX G s H) : ∀ t, t ∈ kinds → ArrOfT s (gC G t) (tyA t) ∧ va_RA s (gC G t) (tyA t) := h.2.2.2.2.2.2.2.1
theorem KX.nest {G : pG} {s : State} {H : Heap} (h : KX G s H) : ∀ w, w ∈ lw_tbl → isNest w = true → va_Nw w s := h.2.2.2.2.2.2.2.2.1
theorem KX.ao {G : pG} {s : State} {H : Heap} (h : KX G s H) : va_AO RX4 s ∧ va_AO RX5 s ∧ va_AO RX7 s ∧ va_AO RJ0 s := h.2.2.2.2.2.2.2.2.2.1
theorem KX.sio {G : pG} {s : State} {H : Heap} (h : KX G s H) : gS G = .inl none ∨ gS G = .inl (some (EXT + 4)) := h.2.2.2.2.2.2.2.2.2.2
theorem KX.txt {G : pG} {s : State} {H : Heap} (h : KX G s H) : KT G s H := h.2.2.2.2.2.1
theorem KX.K {G : pG} {s : State} {H : Heap} (h : KX G s H) {t : Nat} (ht : t ∈ kinds) : va_K (gD G) vwCl [(gC G t, tyA t)] s := by
  refine ⟨h.cls, fun i q hq => ?_⟩
  cases i with
  | zero => cases hq; exact h.arr t ht
  | succ i => cases hq
theorem KX.K0 {G : pG} {s : State} {H : Heap} (h : KX G s H) : va_K (gD G) vwCl [] s := ⟨h.cls, fun i q hq => by cases hq⟩
theorem Ct.kx {G : pG} {d k n0 n : Nat} {F : pF} {I : pI} {p : Program} {e : Env} {s : State} {m : MethodId} {args : Array Value} {meth : Method} {c : Code} {H : Heap} {locs : List Loc} (C : Ct G d k n0 n F I p e s m args meth c H locs) : KX G s s.heap := C.2.2.2.2.2.2.2.2.1
theorem Ct.wd {G : pG} {d k n0 n : Nat} {F : pF} {I : pI} {p : Program} {e : Env} {s : State} {m : MethodId} {args : Array Value} {meth : Method} {c : Code} {H : Heap} {locs : List Loc} (C : Ct G d k n0 n F I p e s m args meth c H locs) : Wd G n F I H := C.2.2.2.2.2.2.2.2.2.2.2.2.1
theorem Ct.S {G : pG} {d k n0 n : Nat} {F : pF} {I : pI} {p : Program} {e : Env} {s : State} {m : MethodId} {args : Array Value} {meth : Method} {c : Code} {H : Heap} {locs : List Loc} (C : Ct G d k n0 n F I p e s m args meth c H locs) : va_S (A0 G) s.heap H locs := C.2.2.2.2.2.2.2.2.2.2.2.2.2
theorem Ct.sz0 {G : pG} {d k n0 n : Nat} {F : pF} {I : pI} {p : Program} {e : Env} {s : State} {m : MethodId} {args : Array Value} {meth : Method} {c : Code} {H : Heap} {locs : List Loc} (C : Ct G d k n0 n F I p e s m args meth c H locs) : s.heap.size = gH G + n0 := C.2.2.2.2.2.2.2.2.2.1
theorem Ct.n0 {G : pG} {d k n0 n : Nat} {F : pF} {I : pI} {p : Program} {e : Env} {s : State} {m : MethodId} {args : Array Value} {meth : Method} {c : Code} {H : Heap} {locs : List Loc} (C : Ct G d k n0 n F I p e s m args meth c H locs) : n0 ≤ n := C.2.2.2.2.2.2.2.2.2.2.1
theorem Ct.n1 {G : pG} {d k n0 n : Nat} {F : pF} {I : pI} {p : Program} {e : Env} {s : State} {m : MethodId} {args : Array Value} {meth : Method} {c : Code} {H : Heap} {locs : List Loc} (C : Ct G d k n0 n F I p e s m args meth c H locs) : n ≤ n0 + alc k := C.2.2.2.2.2.2.2.2.2.2.2.1
theorem Ct.own {G : pG} {d k n0 n : Nat} {F : pF} {I : pI} {p : Program} {e : Env} {s : State} {m : MethodId} {args : Array Value} {meth : Method} {c : Code} {H : Heap} {locs : List Loc} (C : Ct G d k n0 n F I p e s m args meth c H locs) : s.vm.findClass (mY k).cls = some m.cls := C.2.2.2.2.2.1
theorem Ct.hts {G : pG} {d k n0 n : Nat} {F : pF} {I : pI} {p : Program} {e : Env} {s : State} {m : MethodId} {args : Array Value} {meth : Method} {c : Code} {H : Heap} {locs : List Loc} (C : Ct G d k n0 n F I p e s m args meth c H locs) : ∀ w ∈ goods, w.before args s = true := C.2.2.2.2.2.2.1
theorem Ct.ini {G : pG} {d k n0 n : Nat} {F : pF} {I : pI} {p : Program} {e : Env} {s : State} {m : MethodId} {args : Array Value} {meth : Method} {c : Code} {H : Heap} {locs : List Loc} (C : Ct G d k n0 n F I p e s m args meth c H locs) : mK k = 2 → meth.name = "<init>" := C.2.2.2.2.2.2.2.1
/-- the same place of the method, another world -/
theorem Ct.mv {G : pG} {d k n0 n n' : Nat} {F F' : pF} {I I' : pI} {p : Program} {e : Env} {s : State} {m : MethodId} {args : Array Value} {meth : Method} {c : Code} {H H' : Heap} {locs locs' : List Loc} (C : Ct G d k n0 n F I p e s m args meth c H locs) (h1 : n0 ≤ n') (h2 : n' ≤ n0 + alc k) (h3 : Wd G n' F' I' H') (h4 : va_S (A0 G) s.heap H' locs') : Ct G d k n0 n' F' I' p e s m args meth c H' locs' :=
  ⟨C.1, C.2.1, C.2.2.1, C.2.2.2.1, C.2.2.2.2.1, C.own, C.hts, C.ini, C.kx, C.sz0, h1, h2, h3, h4⟩
theorem Wd.R {G : pG} {n : Nat} {F : pF} {I : pI} {H : Heap} (h : Wd G n F I H) : ∀ k j, iR (I k j) := h.2.2.2.1
theorem Wd.ext {G : pG} {n : Nat} {F : pF} {I : pI} {H : Heap} (h : Wd G n F I H) : n ≤ EXT := h.2.2.1
theorem Wd.by {G : pG} {n : Nat} {F : pF} {I : pI} {H : Heap} (h : Wd G n F I H) : ∀ k, (lay k).1 = 101 → ∀ j, -128 ≤ I k j ∧ I k j ≤ 127 := h.2.2.2.2
theorem upd_i (f : Nat → Int) (i : Nat) (x : Int) : upd (fun j => Int32.ofInt (f j)) i (Int32.ofInt x) = fun j => Int32.ofInt (if j = i then x else f j) := by
  funext j
  unfold upd
  split <;> rfl
section HEAP
variable {G : pG} {d k n0 n pc nx a b i q m : Nat} {lv : List (Option pV)} {r : List pV} {F : pF} {I : pI} {Q : Option pV → pF → pI → Prop} {x y : Int} {v : pV}
/-- behind a store: the world anew -/
theorem after {p : Program} {e : Env} {s : State} {mm : MethodId} {args : Array Value} {below : List Frame} {meth : Method} {c : Code} {H H1 : Heap} {locs locs1 : List Loc} {ls : Array Slot} {st : List pV} {F' : pF} {I' : pI} {pc' : Nat}
    (C : Ct G d k n0 n F I p e s mm args meth c H locs) (hl : Hs G k ls lv) (hs : ∀ v ∈ st, okV v) (h : Go G d k n0 n pc' lv st F' I' Q)
    (hP : va_P (gD G) vwCl (wL G n F' I') H1) (hS : va_S (A0 G) s.heap H1 locs1) (hR : ∀ k j, iR (I' k j)) (hB : ∀ k, (lay k).1 = 101 → ∀ j, -128 ≤ I' k j ∧ I' k j ≤ 127) :
    W p (gL G) e (Rm d k n0) s mm args below meth c H1 locs1 (n - n0) (sz n - sz n0) (MQ below (fun a st o t => Qc G (n0 + alc k) Q a st o t ∧ va_F (A0 G) st t) args s (alc k) (sz (n0 + alc k) - sz n0) (A0 G)) (F0 mm pc' ls (st.map (tr G))) :=
  W_sz fun hz => h p e s mm args below meth c H1 locs1 ls (C.mv C.n0 C.n1 ⟨sz_of C.sz0 C.n0 hP hS hz, hP, C.wd.ext, hR, hB⟩ hS) hl hs
theorem tr_w {n : Nat} (hn : n ≤ EXT) (hq : q < n) : tr G (.inl (some q)) = .ref (gH G + q) := by
  show Value.ref (ad G q) = _
  rw [ad_w G (by omega)]
theorem g_getI (hd : decode (mB k) pc = .ok (.getfield i, 3)) (hn : nx = pc + 3) (ha : a < 13) (hb : b < clN a) (hf : frf a b = false)
    (hw : Jvm.Cond.fieldLink (mY k).cls i (clT a b).1 (clT a b).2.1 (clT a b).2.2.1 ∈ goods) (hq : lay q = (a, m)) (hqn : q < n)
    (h : Go G d k n0 n nx lv (.inr (.inl (I q b)) :: r) F I Q) : Go G d k n0 n pc lv (.inl (some q) :: r) F I Q := by
  intro p e s mm args below meth c H locs ls C hl hs
  subst hn
  have hm := lay_cl hq ha
  have h0 := wL_at G F I hqn
  rw [cE_obj hq ha] at h0
  have h3 := h p e s mm args below meth c H locs ls C hl (ok_c (C.wd.R q b) (ok_t hs))
  show W p (gL G) e (Rm d k n0) s mm args below meth c H locs (n - n0) (sz n - sz n0) _ (F0 mm pc ls (tr G (.inl (some q)) :: r.map (tr G)))
  rw [tr_w C.wd.ext hqn]
  refine va_get (D := gD G) (cl := vwCl) (own := (mY k).cls) (ref := (clT a b).1) C.1 C.2.1 C.hts (cl_in a ha) C.own C.kx.K0 C.wd.2.1 q h0 (cl_get ha) b hb (C.hts _ hw) (fun _ z => z) (v := tr G (.inr (.inl (I q b)))) ?_ hd h3
  rw [List.getElem?_map, List.getElem?_range (by omega)]
  show some (fV G F I q a b) = _
  unfold fV
  rw [hf]
  rfl
theorem g_getIN {host : String} (hd : decode (mB k) pc = .ok (.getfield i, 3)) (hn : nx = pc + 3) (ha : a < 13) (hb : b < clN a) (hf : frf a b = false)
    (hw : Jvm.Cond.fieldLinkNest (mY k).cls i (clT a b).1 (clT a b).2.1 (clT a b).2.2.1 host ∈ lw_tbl) (hq : lay q = (a, m)) (hqn : q < n)
    (h : Go G d k n0 n nx lv (.inr (.inl (I q b)) :: r) F I Q) : Go G d k n0 n pc lv (.inl (some q) :: r) F I Q := by
  intro p e s mm args below meth c H locs ls C hl hs
  subst hn
  have hm := lay_cl hq ha
  have h0 := wL_at G F I hqn
  rw [cE_obj hq ha] at h0
  have h3 := h p e s mm args below meth c H locs ls C hl (ok_c (C.wd.R q b) (ok_t hs))
  show W p (gL G) e (Rm d k n0) s mm args below meth c H locs (n - n0) (sz n - sz n0) _ (F0 mm pc ls (tr G (.inl (some q)) :: r.map (tr G)))
  rw [tr_w C.wd.ext hqn]
  refine va_getN (D := gD G) (cl := vwCl) (own := (mY k).cls) (ref := (clT a b).1) (host := host) C.1 C.2.1 C.hts (cl_in a ha) C.own C.kx.K0 C.wd.2.1 q h0 (cl_get ha) b hb (va_Nw.use rfl (C.kx.nest _ hw rfl)) (fun _ z => z) (v := tr G (.inr (.inl (I q b)))) ?_ hd h3
  rw [List.getElem?_map, List.getElem?_range (by omega)]
  show some (fV G F I q a b) = _
  unfold fV
  rw [hf]
  rfl
theorem va_rf_tr (G : pG) (w : Option Nat) : va_rf (w.map (ad G)) = tr G (.inl w) := by cases w <;> rfl
theorem g_getR (hd : decode (mB k) pc = .ok (.getfield i, 3)) (hn : nx = pc + 3) (ha : a < 13) (hb : b < clN a) (hf : frf a b = true)
    (hw : Jvm.Cond.fieldLink (mY k).cls i (clT a b).1 (clT a b).2.1 (clT a b).2.2.1 ∈ goods) (hq : lay q = (a, m)) (hqn : q < n)
    (h : ∀ w, F q b = w → Go G d k n0 n nx lv (.inl w :: r) F I Q) : Go G d k n0 n pc lv (.inl (some q) :: r) F I Q := by
  intro p e s mm args below meth c H locs ls C hl hs
  subst hn
  have hm := lay_cl hq ha
  have h0 := wL_at G F I hqn
  rw [cE_obj hq ha] at h0
  have h3 := h _ rfl p e s mm args below meth c H locs ls C hl (ok_c trivial (ok_t hs))
  show W p (gL G) e (Rm d k n0) s mm args below meth c H locs (n - n0) (sz n - sz n0) _ (F0 mm pc ls (tr G (.inl (some q)) :: r.map (tr G)))
  rw [tr_w C.wd.ext hqn]
  refine va_get (D := gD G) (cl := vwCl) (own := (mY k).cls) (ref := (clT a b).1) C.1 C.2.1 C.hts (cl_in a ha) C.own C.kx.K0 C.wd.2.1 q h0 (cl_get ha) b hb (C.hts _ hw) (fun _ z => z) (v := tr G (.inl (F q b))) ?_ hd h3
  rw [List.getElem?_map, List.getElem?_range (by omega), ← va_rf_tr]
  show some (fV G F I q a b) = _
  unfold fV
  rw [if_pos hf]
theorem g_getRN {host : String} (hd : decode (mB k) pc = .ok (.getfield i, 3)) (hn : nx = pc + 3) (ha : a < 13) (hb : b < clN a) (hf : frf a b = true)
    (hw : Jvm.Cond.fieldLinkNest (mY k).cls i (clT a b).1 (clT a b).2.1 (clT a b).2.2.1 host ∈ lw_tbl) (hq : lay q = (a, m)) (hqn : q < n)
    (h : ∀ w, F q b = w → Go G d k n0 n nx lv (.inl w :: r) F I Q) : Go G d k n0 n pc lv (.inl (some q) :: r) F I Q := by
  intro p e s mm args below meth c H locs ls C hl hs
  subst hn
  have hm := lay_cl hq ha
  have h0 := wL_at G F I hqn
  rw [cE_obj hq ha] at h0
  have h3 := h _ rfl p e s mm args below meth c H locs ls C hl (ok_c trivial (ok_t hs))
  show W p (gL G) e (Rm d k n0) s mm args below meth c H locs (n - n0) (sz n - sz n0) _ (F0 mm pc ls (tr G (.inl (some q)) :: r.map (tr G)))
  rw [tr_w C.wd.ext hqn]
  refine va_getN (D := gD G) (cl := vwCl) (own := (mY k).cls) (ref := (clT a b).1) (host := host) C.1 C.2.1 C.hts (cl_in a ha) C.own C.kx.K0 C.wd.2.1 q h0 (cl_get ha) b hb (va_Nw.use rfl (C.kx.nest _ hw rfl)) (fun _ z => z) (v := tr G (.inl (F q b))) ?_ hd h3
  rw [List.getElem?_map, List.getElem?_range (by omega), ← va_rf_tr]
  show some (fV G F I q a b) = _
  unfold fV
  rw [if_pos hf]
/-- the cells behind a store of a whole number into a field -/
theorem cE_putI (ha : a < 13) (hf : frf a b = false) (hq : lay q = (a, m)) : cE G F (uI I q b x) q = .inr (a, ((List.range m).map (fV G F I q a)).set b (tr G (.inr (.inl x)))) := by
  rw [cE_obj hq ha]
  refine congrArg (fun z => Sum.inr (a, z)) (set_map ?_ (fun j hj => fV_ne rfl (uI_nj hj q))).symm
  unfold fV
  rw [hf, uI_eq]
  rfl
theorem cE_putR {w : Option Nat} (ha : a < 13) (hf : frf a b = true) (hq : lay q = (a, m)) : cE G (uF F q b w) I q = .inr (a, ((List.range m).map (fV G F I q a)).set b (tr G (.inl w))) := by
  rw [cE_obj hq ha]
  refine congrArg (fun z => Sum.inr (a, z)) (set_map ?_ (fun j hj => fV_ne (uF_nj hj q) rfl)).symm
  unfold fV
  rw [if_pos hf, uF_eq, va_rf_tr]
theorem by_uI (hB : ∀ k, (lay k).1 = 101 → ∀ j, -128 ≤ I k j ∧ I k j ≤ 127) (hq : (lay q).1 ≠ 101) : ∀ k, (lay k).1 = 101 → ∀ j, -128 ≤ uI I q b x k j ∧ uI I q b x k j ≤ 127 := by
  intro k hk j
  rw [uI_ne (fun z => hq (by rw [← z]; exact hk)) j]
  exact hB k hk j
theorem fit_i (x : Int) : narrow .int (tr G (.inr (.inl x))) = tr G (.inr (.inl x)) ∧ fits .int (tr G (.inr (.inl x))) = true := ⟨rfl, rfl⟩
theorem fit_z {x : Int} (h : x = 0 ∨ x = 1) : narrow .boolean (tr G (.inr (.inl x))) = tr G (.inr (.inl x)) ∧ fits .boolean (tr G (.inr (.inl x))) = true := by
  rcases h with rfl | rfl
  · exact ⟨rfl, rfl⟩
  · exact ⟨rfl, rfl⟩
theorem g_putI (hd : decode (mB k) pc = .ok (.putfield i, 3)) (hn : nx = pc + 3) (ha : a < 13) (hb : b < clN a) (hf : frf a b = false) (hfin : (clT a b).2.2.2 = false)
    (hw : Jvm.Cond.fieldLink (mY k).cls i (clT a b).1 (clT a b).2.1 (clT a b).2.2.1 ∈ goods) (hq : lay q = (a, m)) (hqn : q < n)
    (hfit : narrow (tyF a b) (tr G (.inr (.inl x))) = tr G (.inr (.inl x)) ∧ fits (tyF a b) (tr G (.inr (.inl x))) = true)
    (h : Go G d k n0 n nx lv r F (uI I q b x) Q) : Go G d k n0 n pc lv (.inr (.inl x) :: .inl (some q) :: r) F I Q := by
  intro p e s mm args below meth c H locs ls C hl hs
  subst hn
  have hm := lay_cl hq ha
  have h0 := wL_at G F I hqn
  rw [cE_obj hq ha] at h0
  show W p (gL G) e (Rm d k n0) s mm args below meth c H locs (n - n0) (sz n - sz n0) _ (F0 mm pc ls (tr G (.inr (.inl x)) :: tr G (.inl (some q)) :: r.map (tr G)))
  rw [tr_w C.wd.ext hqn]
  refine va_put (D := gD G) (cl := vwCl) (own := (mY k).cls) (ref := (clT a b).1) C.1 C.2.1 C.hts (cl_in a ha) (tyF a) (cl_ty a ha) (cl_nm a ha) C.own C.kx.K0 C.wd.2.1 (wL_D G n F I) C.S q h0 (cl_get ha) b hb (C.hts _ hw) (fun _ z => z) hfin (cl_ty a ha b hb) hfit.1 hfit.2 (by simp; omega) hd (fun H1 locs1 hP hD hS => ?_)
  rw [wL_set (F' := F) (I' := uI I q b x) (cE_putI ha hf hq) (fun k hk => cE_ne (fun _ => rfl) (uI_ne hk))] at hP
  exact after C hl (ok_t (ok_t hs)) h hP hS (uI_R C.wd.R (ok_h hs) q b) (by_uI C.wd.by (by rw [hq]; show a ≠ 101; omega))
theorem g_putIN {host : String} (hd : decode (mB k) pc = .ok (.putfield i, 3)) (hn : nx = pc + 3) (ha : a < 13) (hb : b < clN a) (hf : frf a b = false) (hfin : (clT a b).2.2.2 = false)
    (hw : Jvm.Cond.fieldLinkNest (mY k).cls i (clT a b).1 (clT a b).2.1 (clT a b).2.2.1 host ∈ lw_tbl) (hq : lay q = (a, m)) (hqn : q < n)
    (hfit : narrow (tyF a b) (tr G (.inr (.inl x))) = tr G (.inr (.inl x)) ∧ fits (tyF a b) (tr G (.inr (.inl x))) = true)
    (h : Go G d k n0 n nx lv r F (uI I q b x) Q) : Go G d k n0 n pc lv (.inr (.inl x) :: .inl (some q) :: r) F I Q := by
  intro p e s mm args below meth c H locs ls C hl hs
  subst hn
  have hm := lay_cl hq ha
  have h0 := wL_at G F I hqn
  rw [cE_obj hq ha] at h0
  show W p (gL G) e (Rm d k n0) s mm args below meth c H locs (n - n0) (sz n - sz n0) _ (F0 mm pc ls (tr G (.inr (.inl x)) :: tr G (.inl (some q)) :: r.map (tr G)))
  rw [tr_w C.wd.ext hqn]
  refine va_putN (D := gD G) (cl := vwCl) (own := (mY k).cls) (ref := (clT a b).1) (host := host) C.1 C.2.1 C.hts (cl_in a ha) (tyF a) (cl_ty a ha) (cl_nm a ha) C.own C.kx.K0 C.wd.2.1 (wL_D G n F I) C.S q h0 (cl_get ha) b hb (va_Nw.use rfl (C.kx.nest _ hw rfl)) (fun _ z => z) hfin (cl_ty a ha b hb) hfit.1 hfit.2 (by simp; omega) hd (fun H1 locs1 hP hD hS => ?_)
  rw [wL_set (F' := F) (I' := uI I q b x) (cE_putI ha hf hq) (fun k hk => cE_ne (fun _ => rfl) (uI_ne hk))] at hP
  exact after C hl (ok_t (ok_t hs)) h hP hS (uI_R C.wd.R (ok_h hs) q b) (by_uI C.wd.by (by rw [hq]; show a ≠ 101; omega))
def isR : FieldType → Bool
  | .object _ => true
  | .array _ => true
  | _ => false
theorem fit_r {t : FieldType} (ht : isR t = true) (w : Option Nat) : narrow t (tr G (.inl w)) = tr G (.inl w) ∧ fits t (tr G (.inl w)) = true := by
  cases t <;> first | (cases ht; done) | (cases w <;> exact ⟨rfl, rfl⟩)
theorem g_putR {w : Option Nat} (hd : decode (mB k) pc = .ok (.putfield i, 3)) (hn : nx = pc + 3) (ha : a < 13) (hb : b < clN a) (hf : frf a b = true) (hfin : (clT a b).2.2.2 = false) (ht : isR (tyF a b) = true)
    (hw : Jvm.Cond.fieldLink (mY k).cls i (clT a b).1 (clT a b).2.1 (clT a b).2.2.1 ∈ goods) (hq : lay q = (a, m)) (hqn : q < n)
    (h : Go G d k n0 n nx lv r (uF F q b w) I Q) : Go G d k n0 n pc lv (.inl w :: .inl (some q) :: r) F I Q := by
  intro p e s mm args below meth c H locs ls C hl hs
  subst hn
  have hm := lay_cl hq ha
  have h0 := wL_at G F I hqn
  rw [cE_obj hq ha] at h0
  show W p (gL G) e (Rm d k n0) s mm args below meth c H locs (n - n0) (sz n - sz n0) _ (F0 mm pc ls (tr G (.inl w) :: tr G (.inl (some q)) :: r.map (tr G)))
  rw [tr_w C.wd.ext hqn]
  refine va_put (D := gD G) (cl := vwCl) (own := (mY k).cls) (ref := (clT a b).1) C.1 C.2.1 C.hts (cl_in a ha) (tyF a) (cl_ty a ha) (cl_nm a ha) C.own C.kx.K0 C.wd.2.1 (wL_D G n F I) C.S q h0 (cl_get ha) b hb (C.hts _ hw) (fun _ z => z) hfin (cl_ty a ha b hb) (fit_r ht w).1 (fit_r ht w).2 (by simp; omega) hd (fun H1 locs1 hP hD hS => ?_)
  rw [wL_set (F' := uF F q b w) (I' := I) (cE_putR ha hf hq) (fun k hk => cE_ne (uF_ne hk) (fun _ => rfl))] at hP
  exact after C hl (ok_t (ok_t hs)) h hP hS C.wd.R C.wd.by
theorem g_putF {w : Option Nat} (hd : decode (mB k) pc = .ok (.putfield i, 3)) (hn : nx = pc + 3) (ha : a < 13) (hb : b < clN a) (hf : frf a b = true) (hfin : (clT a b).2.2.2 = true) (hi2 : mK k = 2) (hdc : (clT a b).1 = (mY k).cls) (ht : isR (tyF a b) = true)
    (hw : Jvm.Cond.fieldLink (mY k).cls i (clT a b).1 (clT a b).2.1 (clT a b).2.2.1 ∈ goods) (hq : lay q = (a, m)) (hqn : q < n)
    (h : Go G d k n0 n nx lv r (uF F q b w) I Q) : Go G d k n0 n pc lv (.inl w :: .inl (some q) :: r) F I Q := by
  intro p e s mm args below meth c H locs ls C hl hs
  subst hn
  have hm := lay_cl hq ha
  have h0 := wL_at G F I hqn
  rw [cE_obj hq ha] at h0
  show W p (gL G) e (Rm d k n0) s mm args below meth c H locs (n - n0) (sz n - sz n0) _ (F0 mm pc ls (tr G (.inl w) :: tr G (.inl (some q)) :: r.map (tr G)))
  rw [tr_w C.wd.ext hqn]
  refine va_putF (D := gD G) (cl := vwCl) (own := (mY k).cls) (ref := (clT a b).1) C.1 C.2.1 C.hts (cl_in a ha) (tyF a) (cl_ty a ha) (cl_nm a ha) C.own C.kx.K0 C.wd.2.1 (wL_D G n F I) C.S q h0 (cl_get ha) b hb (C.hts _ hw) (fun _ z => z) hfin (C.ini hi2) hdc (cl_ty a ha b hb) (fit_r ht w).1 (fit_r ht w).2 (by simp; omega) hd (fun H1 locs1 hP hD hS => ?_)
  rw [wL_set (F' := uF F q b w) (I' := I) (cE_putR ha hf hq) (fun k hk => cE_ne (uF_ne hk) (fun _ => rfl))] at hP
  exact after C hl (ok_t (ok_t hs)) h hP hS C.wd.R C.wd.by
end HEAP
end
section
/-! rows, new cells, what was there before, for the walking machine. Own work. -/
section ARR
variable {G : pG} {d k n0 n pc nx a b i q m : Nat} {lv : List (Option pV)} {r : List pV} {F : pF} {I : pI} {Q : Option pV → pF → pI → Prop} {x y z : Int} {v : pV}
theorem kd (t : Nat) (h : t = 100 ∨ t = 101 ∨ t = 204 ∨ t = 205 ∨ t = 207 ∨ t = 299) : t ∈ kinds := by
  unfold kinds
  simp
  exact h
theorem g_iald (hd : decode (mB k) pc = .ok (.iaload, 1)) (hn : nx = pc + 1) (hq : lay q = (100, m)) (hqn : q < n) (h0 : 0 ≤ z) (h1 : z < (m : Int))
    (h : Go G d k n0 n nx lv (.inr (.inl (I q z.toNat)) :: r) F I Q) : Go G d k n0 n pc lv (.inr (.inl z) :: .inl (some q) :: r) F I Q := by
  intro p e s mm args below meth c H locs ls C hl hs
  subst hn
  have hz : iR z := ok_h hs
  have h2 := wL_at G F I hqn
  rw [cE_i hq] at h2
  have h3 := h p e s mm args below meth c H locs ls C hl (ok_c (C.wd.R q _) (ok_t (ok_t hs)))
  show W p (gL G) e (Rm d k n0) s mm args below meth c H locs (n - n0) (sz n - sz n0) _ (F0 mm pc ls (tr G (.inr (.inl z)) :: tr G (.inl (some q)) :: r.map (tr G)))
  rw [tr_w C.wd.ext hqn]
  refine va_iald (D := gD G) (cl := vwCl) C.1 C.2.1 (C.kx.K (kd 100 (Or.inl rfl))) C.wd.2.1 q 0 h2 rfl (n_in hz h0 h1) hd ?_
  rw [n_cl hz]
  exact h3
theorem g_bald (hd : decode (mB k) pc = .ok (.baload, 1)) (hn : nx = pc + 1) (hq : lay q = (101, m)) (hqn : q < n) (h0 : 0 ≤ z) (h1 : z < (m : Int))
    (h : Go G d k n0 n nx lv (.inr (.inl (I q z.toNat)) :: r) F I Q) : Go G d k n0 n pc lv (.inr (.inl z) :: .inl (some q) :: r) F I Q := by
  intro p e s mm args below meth c H locs ls C hl hs
  subst hn
  have hz : iR z := ok_h hs
  have h2 := wL_at G F I hqn
  rw [cE_b hq] at h2
  have h3 := h p e s mm args below meth c H locs ls C hl (ok_c (C.wd.R q _) (ok_t (ok_t hs)))
  show W p (gL G) e (Rm d k n0) s mm args below meth c H locs (n - n0) (sz n - sz n0) _ (F0 mm pc ls (tr G (.inr (.inl z)) :: tr G (.inl (some q)) :: r.map (tr G)))
  rw [tr_w C.wd.ext hqn]
  refine va_bald (D := gD G) (cl := vwCl) C.1 C.2.1 (C.kx.K (kd 101 (by omega))) C.wd.2.1 q 0 h2 rfl (n_in hz h0 h1) hd ?_
  rw [n_cl hz]
  exact h3
theorem tyA_r {t : Nat} (ht : t ∈ [204, 205, 207, 299]) : t ∈ kinds ∧ 200 ≤ t ∧ ∃ C, tyA t = .object C := by
  simp at ht
  rcases ht with rfl | rfl | rfl | rfl
  · exact ⟨kd _ (by omega), by omega, _, rfl⟩
  · exact ⟨kd _ (by omega), by omega, _, rfl⟩
  · exact ⟨kd _ (by omega), by omega, _, rfl⟩
  · exact ⟨kd _ (by omega), by omega, _, rfl⟩
theorem g_aald {t : Nat} (hd : decode (mB k) pc = .ok (.aaload, 1)) (hn : nx = pc + 1) (ht : t ∈ [204, 205, 207, 299]) (hq : lay q = (t, m)) (hqn : q < n) (h0 : 0 ≤ z) (h1 : z < (m : Int))
    (h : ∀ w, F q z.toNat = w → Go G d k n0 n nx lv (.inl w :: r) F I Q) : Go G d k n0 n pc lv (.inr (.inl z) :: .inl (some q) :: r) F I Q := by
  intro p e s mm args below meth c H locs ls C hl hs
  subst hn
  obtain ⟨hk, h200, E, hE⟩ := tyA_r ht
  have hz : iR z := ok_h hs
  have h2 := wL_at G F I hqn
  rw [cE_r hq h200] at h2
  have h3 := h _ rfl p e s mm args below meth c H locs ls C hl (ok_c trivial (ok_t (ok_t hs)))
  show W p (gL G) e (Rm d k n0) s mm args below meth c H locs (n - n0) (sz n - sz n0) _ (F0 mm pc ls (tr G (.inr (.inl z)) :: tr G (.inl (some q)) :: r.map (tr G)))
  rw [tr_w C.wd.ext hqn]
  have hK := C.kx.K hk
  rw [hE] at hK
  refine va_aldq (D := gD G) (cl := vwCl) C.1 C.2.1 hK C.wd.2.1 q 0 h2 rfl (n_in hz h0 h1) hd ?_
  rw [n_cl hz, va_rf_tr]
  exact h3
theorem cE_ast (hq : lay q = (100, m)) : cE G F (uI I q i x) q = .inl (gC G 100, m, .inl (upd (fun j => Int32.ofInt (I q j)) i (Int32.ofInt x))) := by
  rw [cE_i hq, upd_i]
  refine congrArg (fun g => Sum.inl (gC G 100, m, Sum.inl g)) (funext fun j => ?_)
  unfold uI
  by_cases hj : j = i
  · rw [if_pos ⟨rfl, hj⟩, if_pos hj]
  · rw [if_neg (fun z => hj z.2), if_neg hj]
theorem cE_bst (hq : lay q = (101, m)) : cE G F (uI I q i x) q = .inl (gC G 101, m, .inl (upd (fun j => Int32.ofInt (I q j)) i (Int32.ofInt x))) := by
  rw [cE_b hq, upd_i]
  refine congrArg (fun g => Sum.inl (gC G 101, m, Sum.inl g)) (funext fun j => ?_)
  unfold uI
  by_cases hj : j = i
  · rw [if_pos ⟨rfl, hj⟩, if_pos hj]
  · rw [if_neg (fun z => hj z.2), if_neg hj]
theorem g_iast (hd : decode (mB k) pc = .ok (.iastore, 1)) (hn : nx = pc + 1) (hq : lay q = (100, m)) (hqn : q < n) (h0 : 0 ≤ z) (h1 : z < (m : Int))
    (h : Go G d k n0 n nx lv r F (uI I q z.toNat x) Q) : Go G d k n0 n pc lv (.inr (.inl x) :: .inr (.inl z) :: .inl (some q) :: r) F I Q := by
  intro p e s mm args below meth c H locs ls C hl hs
  subst hn
  have hz : iR z := ok_h (ok_t hs)
  have h2 := wL_at G F I hqn
  rw [cE_i hq] at h2
  show W p (gL G) e (Rm d k n0) s mm args below meth c H locs (n - n0) (sz n - sz n0) _ (F0 mm pc ls (tr G (.inr (.inl x)) :: tr G (.inr (.inl z)) :: tr G (.inl (some q)) :: r.map (tr G)))
  rw [tr_w C.wd.ext hqn]
  refine va_iast (D := gD G) (cl := vwCl) C.1 C.2.1 (C.kx.K (kd 100 (Or.inl rfl))) C.wd.2.1 (wL_D G n F I) C.S q 0 h2 rfl (n_in hz h0 h1) hd (fun H1 locs1 hP hD hS => ?_)
  rw [n_cl hz, wL_set (F' := F) (I' := uI I q z.toNat x) (cE_ast hq) (fun k hk => cE_ne (fun _ => rfl) (uI_ne hk))] at hP
  exact after C hl (ok_t (ok_t (ok_t hs))) h hP hS (uI_R C.wd.R (ok_h hs) q _) (by_uI C.wd.by (by rw [hq]; show 100 ≠ 101; omega))
theorem nar_b (x : Int) (hx : iR x) : vp_nar .byte (Int32.ofInt x) = Int32.ofInt (wb x) := n_i2b hx
theorem g_bast (hd : decode (mB k) pc = .ok (.bastore, 1)) (hn : nx = pc + 1) (hq : lay q = (101, m)) (hqn : q < n) (h0 : 0 ≤ z) (h1 : z < (m : Int))
    (h : Go G d k n0 n nx lv r F (uI I q z.toNat (wb x)) Q) : Go G d k n0 n pc lv (.inr (.inl x) :: .inr (.inl z) :: .inl (some q) :: r) F I Q := by
  intro p e s mm args below meth c H locs ls C hl hs
  subst hn
  have hz : iR z := ok_h (ok_t hs)
  have hx : iR x := ok_h hs
  have h2 := wL_at G F I hqn
  rw [cE_b hq] at h2
  show W p (gL G) e (Rm d k n0) s mm args below meth c H locs (n - n0) (sz n - sz n0) _ (F0 mm pc ls (tr G (.inr (.inl x)) :: tr G (.inr (.inl z)) :: tr G (.inl (some q)) :: r.map (tr G)))
  rw [tr_w C.wd.ext hqn]
  refine va_bast (D := gD G) (cl := vwCl) C.1 C.2.1 (C.kx.K (kd 101 (by omega))) C.wd.2.1 (wL_D G n F I) C.S q 0 h2 rfl (n_in hz h0 h1) hd (fun H1 locs1 hP hD hS => ?_)
  rw [n_cl hz, nar_b x hx, wL_set (F' := F) (I' := uI I q z.toNat (wb x)) (cE_bst hq) (fun k hk => cE_ne (fun _ => rfl) (uI_ne hk))] at hP
  refine after C hl (ok_t (ok_t (ok_t hs))) h hP hS (uI_R C.wd.R (wb_R x) q _) (fun k hk j => ?_)
  unfold uI
  split
  · unfold wb; omega
  · exact C.wd.by k hk j
theorem cE_rst {t w : Nat} (hq : lay q = (t, m)) (ht : 200 ≤ t) : cE G (uF F q i (some w)) I q = .inl (gC G t, m, .inr (.inr (.inr (.inr (va_up (fun j => (F q j).map (ad G)) i (some (ad G w))))))) := by
  rw [cE_r hq ht]
  refine congrArg (fun g => Sum.inl (gC G t, m, Sum.inr (Sum.inr (Sum.inr (Sum.inr g))))) (funext fun j => ?_)
  unfold uF va_up
  by_cases hj : j = i
  · rw [if_pos ⟨rfl, hj⟩, if_pos hj]; rfl
  · rw [if_neg (fun z => hj z.2), if_neg hj]
theorem g_aast {t y : Nat} (hd : decode (mB k) pc = .ok (.aastore, 1)) (hn : nx = pc + 1) (hq : lay q = (t, m)) (hqn : q < n) (h0 : 0 ≤ z) (h1 : z < (m : Int))
    (hv : (∃ j, t = 299 ∧ j < 18 ∧ y = EXT + 10 + j) ∨ (∃ c m', t = 200 + c ∧ c ∈ [4, 5, 7] ∧ lay y = (c, m') ∧ y < n))
    (h : Go G d k n0 n nx lv r (uF F q z.toNat (some y)) I Q) : Go G d k n0 n pc lv (.inl (some y) :: .inr (.inl z) :: .inl (some q) :: r) F I Q := by
  intro p e s mm args below meth c H locs ls C hl hs
  subst hn
  have ht : t ∈ [204, 205, 207, 299] := by
    rcases hv with ⟨j, rfl, -, -⟩ | ⟨c', m', rfl, hc, -, -⟩
    · simp
    · simp at hc ⊢
      omega
  obtain ⟨hk, h200, E, hE⟩ := tyA_r ht
  have hz : iR z := ok_h (ok_t hs)
  have h2 := wL_at G F I hqn
  rw [cE_r hq h200] at h2
  show W p (gL G) e (Rm d k n0) s mm args below meth c H locs (n - n0) (sz n - sz n0) _ (F0 mm pc ls (.ref (ad G y) :: tr G (.inr (.inl z)) :: tr G (.inl (some q)) :: r.map (tr G)))
  rw [tr_w C.wd.ext hqn]
  have hK := C.kx.K hk
  rw [hE] at hK
  have hany : va_Any E s H (ad G y) := by
    rcases hv with ⟨j, rfl, hj, rfl⟩ | ⟨c', m', rfl, hc, hy, hyn⟩
    · have hE2 : FieldType.object RJ0 = .object E := hE
      cases hE2
      obtain ⟨cell, f1, f2, f3, f4⟩ := (C.kx.txt j hj).1
      have e1 := C.S.2.1 (ad G (EXT + 10 + j)) (Array.getElem?_eq_some_iff.mp f1).1 f4
      refine ⟨cell, e1.trans f1, f2, Vm.classAt_of_findClass f3, fun comp hc => ?_⟩
      cases hc.symm.trans f3
      exact Vm.assignable_self _ _
    · have hc13 : c' < 13 := by simp at hc; omega
      have h5 := wL_at G F I hyn
      rw [cE_obj hy hc13] at h5
      rw [ad_w G (by have := C.wd.ext; omega)]
      have hE2 : E = clC c' := by
        simp at hc
        rcases hc with rfl | rfl | rfl
        · have : FieldType.object RX4 = .object E := hE
          cases this; rfl
        · have : FieldType.object RX5 = .object E := hE
          cases this; rfl
        · have : FieldType.object RX7 = .object E := hE
          cases this; rfl
      subst hE2
      refine va_rAny C.kx.K0 C.wd.2.1 h5 (cl_get hc13) (fun comp c0 f1 f2 => ?_)
      have h6 := (C.kx.cls c' _ (cl_get hc13)).2
      have h7 := h6.1
      cases f1.symm.trans h7
      cases f2.symm.trans h7
      exact va_assign h6
  refine va_astqM (D := gD G) (cl := vwCl) C.1 C.2.1 hK C.wd.2.1 (wL_D G n F I) C.S q 0 h2 rfl hany (n_in hz h0 h1) hd (fun H1 locs1 hP hD hS => ?_)
  rw [n_cl hz, wL_set (F' := uF F q z.toNat (some y)) (I' := I) (cE_rst hq h200) (fun k hk => cE_ne (uF_ne hk) (fun _ => rfl))] at hP
  exact after C hl (ok_t (ok_t (ok_t hs))) h hP hS C.wd.R C.wd.by
theorem g_alen {t : Nat} (hd : decode (mB k) pc = .ok (.arraylength, 1)) (hn : nx = pc + 1) (ht : t ∈ [100, 101]) (hq : lay q = (t, m)) (hqn : q < n) (hm : m < 100000)
    (h : Go G d k n0 n nx lv (.inr (.inl (m : Int)) :: r) F I Q) : Go G d k n0 n pc lv (.inl (some q) :: r) F I Q := by
  intro p e s mm args below meth c H locs ls C hl hs
  subst hn
  have h3 := h p e s mm args below meth c H locs ls C hl (ok_c (by show iR _; unfold iR; omega) (ok_t hs))
  have h2 := wL_at G F I hqn
  show W p (gL G) e (Rm d k n0) s mm args below meth c H locs (n - n0) (sz n - sz n0) _ (F0 mm pc ls (tr G (.inl (some q)) :: r.map (tr G)))
  rw [tr_w C.wd.ext hqn]
  simp at ht
  rcases ht with rfl | rfl
  · rw [cE_i hq] at h2
    exact va_alen (D := gD G) (cl := vwCl) C.1 C.2.1 (C.kx.K (kd 100 (Or.inl rfl))) C.wd.2.1 q 0 h2 rfl (Int32.ofInt_eq_ofNat).symm hd h3
  · rw [cE_b hq] at h2
    exact va_alen (D := gD G) (cl := vwCl) C.1 C.2.1 (C.kx.K (kd 101 (by omega))) C.wd.2.1 q 0 h2 rfl (Int32.ofInt_eq_ofNat).symm hd h3
end ARR
end
section
/-! new cells; copies; what was there before, for the walking machine. Own work. -/
theorem sz_s (n : Nat) : sz (n + 1) = sz n + (lay n).2 := by
  unfold sz
  rw [List.range_succ, List.map_append, List.sum_append]
  simp
theorem sz_le {a b : Nat} (h : a ≤ b) : sz a ≤ sz b := by
  induction h with
  | refl => exact Nat.le_refl _
  | step _ ih => rw [sz_s]; omega
theorem cA_lt {a : Nat} (h : a < 13) : clA a = clC a := by unfold clA; rw [if_pos h]
section NEW
variable {G : pG} {d k n0 n pc nx a b i q m : Nat} {lv : List (Option pV)} {r : List pV} {F : pF} {I : pI} {Q : Option pV → pF → pI → Prop} {x y z : Int} {v : pV}
theorem zI_ne {I : pI} {q k : Nat} (h : k ≠ q) (j : Nat) : zI I q k j = I k j := by unfold zI; rw [if_neg h]
theorem zF_ne {F : pF} {q k : Nat} (h : k ≠ q) (j : Nat) : zF F q k j = F k j := by unfold zF; rw [if_neg h]
theorem zI_eq (I : pI) (q j : Nat) : zI I q q j = 0 := by unfold zI; rw [if_pos rfl]
theorem zF_eq (F : pF) (q j : Nat) : zF F q q j = none := by unfold zF; rw [if_pos rfl]
theorem wL_z (G : pG) (n : Nat) (F : pF) (I : pI) : wL G n (zF F n) (zI I n) = wL G n F I := by
  apply List.ext_getElem?
  intro i
  by_cases hi : i < n
  · rw [wL_at _ _ _ hi, wL_at _ _ _ hi, cE_ne (zF_ne (by omega)) (zI_ne (by omega))]
  · rw [List.getElem?_eq_none (by rw [wL_len]; omega), List.getElem?_eq_none (by rw [wL_len]; omega)]
/-- a new cell stands at the next place -/
theorem new_at {p : Program} {e : Env} {s : State} {mm : MethodId} {args : Array Value} {below : List Frame} {meth : Method} {c : Code} {H H1 : Heap} {locs : List Loc} {ls : Array Slot} {st : List pV} {pc' qq sl : Nat} {e0 : va_E}
    (C : Ct G d k n0 n F I p e s mm args meth c H locs) (hl : Hs G k ls lv) (hs : ∀ v ∈ st, okV v) (h : Go G d k n0 (n + 1) pc' lv (.inl (some n) :: st) (zF F n) (zI I n) Q)
    (h1 : n + 1 ≤ n0 + alc k) (hx : n + 1 ≤ EXT) (he : cE G (zF F n) (zI I n) n = e0) (hsl : (lay n).2 = sl)
    (hP : va_P (gD G) vwCl (wL G n F I ++ [(qq, e0)]) H1) (hD : va_D (A0 G) (wL G n F I ++ [(qq, e0)])) (hS : va_S (A0 G) s.heap H1 locs) :
    W p (gL G) e (Rm d k n0) s mm args below meth c H1 locs (n - n0 + 1) (sz n - sz n0 + sl) (MQ below (fun a st o t => Qc G (n0 + alc k) Q a st o t ∧ va_F (A0 G) st t) args s (alc k) (sz (n0 + alc k) - sz n0) (A0 G)) (F0 mm pc' ls (.ref qq :: st.map (tr G))) := by
  have hn0 := C.n0
  have hz0 := C.sz0
  refine W_sz fun hz => ?_
  have hat : (wL G n F I ++ [(qq, e0)])[n]? = some (qq, e0) := by rw [List.getElem?_append_right (by rw [wL_len]; omega), wL_len]; simp
  have hq1 : qq < H1.size := (hP n _ hat).lt
  have hq2 : gH G ≤ qq := hD.2 n _ hat
  have hqq : qq = gH G + n := by
    by_cases hlt : qq < gH G + n
    · exfalso
      have hi : qq - gH G < n := by omega
      have h5 : (wL G n F I ++ [(qq, e0)])[qq - gH G]? = some (gH G + (qq - gH G), cE G F I (qq - gH G)) := by
        rw [List.getElem?_append_left (by rw [wL_len]; exact hi)]
        exact wL_at G F I hi
      have := hD.1 _ _ _ _ h5 hat (by show gH G + (qq - gH G) = qq; omega)
      omega
    · omega
  subst hqq
  have hw : wL G (n + 1) (zF F n) (zI I n) = wL G n F I ++ [(gH G + n, e0)] := by rw [wL_push, wL_z, he]
  rw [← hw] at hP
  have hz' : H1.size = gH G + (n + 1) := sz_of (n := n + 1) C.sz0 (by omega) hP hS (by omega)
  have e1 : n - n0 + 1 = n + 1 - n0 := by omega
  have e2 : sz n - sz n0 + sl = sz (n + 1) - sz n0 := by
    have := sz_le hn0
    rw [sz_s]
    omega
  rw [e1, e2]
  have e3 : Value.ref (gH G + n) :: st.map (tr G) = (Sum.inl (some n) :: st : List pV).map (tr G) := by
    show _ = Value.ref (ad G n) :: _
    rw [ad_w G (by omega)]
  rw [e3]
  refine h p e s mm args below meth c H1 locs ls (C.mv (by omega) h1 ⟨hz', hP, hx, ?_, ?_⟩ hS) hl (ok_c trivial hs)
  · intro kk j
    unfold zI
    split
    · exact iR0
    · exact C.wd.R kk j
  · intro kk hk j
    unfold zI
    split
    · omega
    · exact C.wd.by kk hk j
theorem fr_ty : ∀ c, c < 13 → ∀ j, j < clN c → defaultValue (tyF c j) = if frf c j = true then Value.null else Value.int 0 := by decide +kernel
theorem g_new (hd : decode (mB k) pc = .ok (.new i, 3)) (hn : nx = pc + 3) (ha : a < 13) (hcl : Jvm.Cond.classLink (mY k).cls i (clA a) ∈ goods) (hin : Jvm.Cond.instantiable (clC a) (clN a) ∈ goods) (hini : Jvm.Cond.initialized (clC a) ∈ goods)
    (hq : lay n = (a, b)) (h1 : n + 1 ≤ n0 + alc k) (hx : n + 1 ≤ EXT)
    (h : Go G d k n0 (n + 1) nx lv (.inl (some n) :: r) (zF F n) (zI I n) Q) : Go G d k n0 n pc lv r F I Q := by
  intro p e s mm args below meth c H locs ls C hl hs
  subst hn
  have hm := lay_cl hq ha
  subst hm
  have hce : cE G (zF F n) (zI I n) n = .inr (a, (List.range (clN a)).map (fun j => if frf a j = true then Value.null else Value.int 0)) := by
    rw [cE_obj hq ha]
    refine congrArg (fun w => Sum.inr (a, w)) (List.map_congr_left fun j _ => ?_)
    unfold fV
    rw [zF_eq, zI_eq]
    rfl
  have hs1 := sz_le (show n + 1 ≤ n0 + alc k from h1)
  have hs2 := sz_s n
  rw [hq] at hs2
  have hs3 := sz_le C.n0
  refine va_new (D := gD G) (cl := vwCl) C.1 C.2.1 C.hts (cl_in a ha) (tyF a) (cl_ty a ha) C.own (C.hts _ (cA_lt ha ▸ hcl)) (C.hts _ hin) (C.hts _ hini) C.kx.K0 C.wd.2.1 (wL_D G n F I) C.S (fun q hq => Nat.le_trans (by rw [C.sz0]; omega) hq) (cl_get ha)
    (fs := (List.range (clN a)).map (fun j => if frf a j = true then Value.null else Value.int 0)) (fun j hj => ?_) ?_ ?_ hd (fun qq H1 hP hD hS => new_at C hl hs h h1 hx hce (by rw [hq]) hP hD hS)
  · rw [fr_ty a ha j hj]
    simp [vp_V, hj]
  · show n - n0 + 1 ≤ alc k
    have := C.n0
    omega
  · show sz n - sz n0 + clN a ≤ sz (n0 + alc k) - sz n0
    simp only at hs2
    omega
theorem nn_i {x : Int} (hx : iR x) (h0 : 0 ≤ x) : ¬ Int32.ofInt x < 0 := by rw [z0, n_lt hx iR0]; omega
/-- the class of a row is the one that the tables name -/
theorem ra_uniq {s : State} {c1 c2 : ClassId} {t : FieldType} (h1 : va_RA s c1 t) (h2 : va_RA s c2 t) : c1 = c2 := by
  cases t <;> first
    | (obtain ⟨_, _, _, _, _, e1⟩ := h1; obtain ⟨_, _, _, _, _, e2⟩ := h2; exact Option.some.inj (e1.symm.trans e2))
    | exact Option.some.inj (h1.symm.trans h2)
theorem g_newa {at_ : ArrayType} (hd : decode (mB k) pc = .ok (.newarray at_, 2)) (hn : nx = pc + 2) (hat : (at_ = .int ∧ a = 100) ∨ (at_ = .byte ∧ a = 101)) (hac : Jvm.Cond.arrayClass (newarray.typeOf at_) ∈ goods)
    (hq : lay n = (a, x.toNat)) (h0 : 0 ≤ x) (hx2 : x < 100000) (h1 : n + 1 ≤ n0 + alc k) (hx : n + 1 ≤ EXT)
    (h : Go G d k n0 (n + 1) nx lv (.inl (some n) :: r) (zF F n) (zI I n) Q) : Go G d k n0 n pc lv (.inr (.inl x) :: r) F I Q := by
  intro p e s mm args below meth c H locs ls C hl hs
  subst hn
  have hxr : iR x := ok_h hs
  have hs1 := sz_le (show n + 1 ≤ n0 + alc k from h1)
  have hs2 := sz_s n
  rw [hq] at hs2
  have hs3 := sz_le C.n0
  have hcells : n - n0 + 1 ≤ (Rm d k n0).cells := by
    show n - n0 + 1 ≤ alc k
    have := C.n0
    omega
  have hslots : sz n - sz n0 + x.toNat ≤ (Rm d k n0).slots := by
    show sz n - sz n0 + x.toNat ≤ sz (n0 + alc k) - sz n0
    simp only at hs2
    omega
  rcases hat with ⟨rfl, rfl⟩ | ⟨rfl, rfl⟩
  · have hce : cE G (zF F n) (zI I n) n = .inl (gC G 100, (x.toNat, .inl (fun _ => 0))) := by
      rw [cE_i hq]
      refine congrArg (fun g => Sum.inl (gC G 100, x.toNat, Sum.inl g)) (funext fun j => ?_)
      rw [zI_eq]
      rfl
    refine va_newa (D := gD G) (cl := vwCl) (atype := .int) (ty := .int) C.1 C.2.1 (C.hts _ hac) rfl C.kx.K0 C.wd.2.1 (wL_D G n F I) C.S (fun q hq => Nat.le_trans (by rw [C.sz0]; omega) hq)
      (n := Int32.ofInt x) (a0 := (x.toNat, .inl (fun _ => 0))) (fun cA => rfl) (nn_i hxr h0) (n_cl hxr) (by show x.toNat * 4 ≤ 536870912; omega) hcells hslots hd (fun qq cA H1 hK hP hD hS => ?_)
    have hc : cA = gC G 100 := ra_uniq (hK.2 0 (cA, .int) rfl).2 (C.kx.arr 100 (kd 100 (by omega))).2
    subst hc
    exact new_at C hl (ok_t hs) h h1 hx hce (by rw [hq]) hP hD hS
  · have hce : cE G (zF F n) (zI I n) n = .inl (gC G 101, (x.toNat, .inl (fun _ => 0))) := by
      rw [cE_b hq]
      refine congrArg (fun g => Sum.inl (gC G 101, x.toNat, Sum.inl g)) (funext fun j => ?_)
      rw [zI_eq]
      rfl
    refine va_newa (D := gD G) (cl := vwCl) (atype := .byte) (ty := .byte) C.1 C.2.1 (C.hts _ hac) rfl C.kx.K0 C.wd.2.1 (wL_D G n F I) C.S (fun q hq => Nat.le_trans (by rw [C.sz0]; omega) hq)
      (n := Int32.ofInt x) (a0 := (x.toNat, .inl (fun _ => 0))) (fun cA => rfl) (nn_i hxr h0) (n_cl hxr) (by show x.toNat * 1 ≤ 536870912; omega) hcells hslots hd (fun qq cA H1 hK hP hD hS => ?_)
    have hc : cA = gC G 101 := ra_uniq (hK.2 0 (cA, .byte) rfl).2 (C.kx.arr 101 (kd 101 (by omega))).2
    subst hc
    exact new_at C hl (ok_t hs) h h1 hx hce (by rw [hq]) hP hD hS
theorem g_anew (hd : decode (mB k) pc = .ok (.anewarray i, 3)) (hn : nx = pc + 3) (ha : a ∈ [204, 205, 207, 299]) (hcl : Jvm.Cond.classLink (mY k).cls i (clA a) ∈ goods)
    (hq : lay n = (a, x.toNat)) (h0 : 0 ≤ x) (hx2 : x < 100000) (h1 : n + 1 ≤ n0 + alc k) (hx : n + 1 ≤ EXT)
    (h : Go G d k n0 (n + 1) nx lv (.inl (some n) :: r) (zF F n) (zI I n) Q) : Go G d k n0 n pc lv (.inr (.inl x) :: r) F I Q := by
  intro p e s mm args below meth c H locs ls C hl hs
  subst hn
  have hxr : iR x := ok_h hs
  have hs1 := sz_le (show n + 1 ≤ n0 + alc k from h1)
  have hs2 := sz_s n
  rw [hq] at hs2
  have hs3 := sz_le C.n0
  have hcells : n - n0 + 1 ≤ (Rm d k n0).cells := by
    show n - n0 + 1 ≤ alc k
    have := C.n0
    omega
  have hslots : sz n - sz n0 + x.toNat ≤ (Rm d k n0).slots := by
    show sz n - sz n0 + x.toNat ≤ sz (n0 + alc k) - sz n0
    simp only at hs2
    omega
  obtain ⟨hk, h200, -⟩ := tyA_r ha
  have hty : tyA a = .object (clA a) := by
    simp at ha
    rcases ha with rfl | rfl | rfl | rfl <;> rfl
  have hao : va_AO (clA a) s := by
    obtain ⟨g1, g2, g3, g4⟩ := C.kx.ao
    simp at ha
    rcases ha with rfl | rfl | rfl | rfl
    · exact g1
    · exact g2
    · exact g3
    · exact g4
  have hce : cE G (zF F n) (zI I n) n = .inl (gC G a, (x.toNat, .inr (.inr (.inr (.inr (fun _ => none)))))) := by
    rw [cE_r hq h200]
    refine congrArg (fun g => Sum.inl (gC G a, x.toNat, Sum.inr (Sum.inr (Sum.inr (Sum.inr g))))) (funext fun j => ?_)
    rw [zF_eq]
    rfl
  refine va_newq (D := gD G) (cl := vwCl) C.1 C.2.1 C.own (C.hts _ hcl) hao C.kx.K0 C.wd.2.1 (wL_D G n F I) C.S (fun q hq => Nat.le_trans (by rw [C.sz0]; omega) hq)
    (n := Int32.ofInt x) (nn_i hxr h0) (n_cl hxr) (by omega) hcells hslots hd (fun qq cA H1 hK hP hD hS => ?_)
  have h9 := (C.kx.arr a hk).2
  rw [hty] at h9
  have hc : cA = gC G a := ra_uniq (hK.2 0 (cA, .object (clA a)) rfl).2 h9
  subst hc
  exact new_at C hl (ok_t hs) h h1 hx hce (by rw [hq]) hP hD hS
end NEW
end
section
/-! copies; constants; what was there before, for the walking machine. Own work. -/
theorem ctgs_sum (G : pG) : ∀ r : List pV, ((r.map (tr G)).map fun v => v.category).sum = ctgs r
  | [] => rfl
  | .inr (.inr z) :: t => by
    have := ctgs_sum G t
    show 2 + _ = 2 + ctgs t
    rw [← this]
    rfl
  | .inr (.inl z) :: t => by
    have := ctgs_sum G t
    show 1 + _ = 1 + ctgs t
    rw [← this]
    rfl
  | .inl none :: t => by
    have := ctgs_sum G t
    show 1 + _ = 1 + ctgs t
    rw [← this]
    rfl
  | .inl (some _) :: t => by
    have := ctgs_sum G t
    show 1 + _ = 1 + ctgs t
    rw [← this]
    rfl
section EXTS
variable {G : pG} {d k n0 n pc nx a b i q m : Nat} {lv : List (Option pV)} {r : List pV} {F : pF} {I : pI} {Q : Option pV → pF → pI → Prop} {x y z : Int} {v : pV}
theorem cI_ne {I : pI} {q sp p dp n k : Nat} (h : k ≠ p) (j : Nat) : cI I q sp p dp n k j = I k j := by unfold cI; rw [if_neg (fun z => h z.1)]
theorem cE_cpyi {p m2 sp dp len : Nat} (hp : lay p = (100, m2)) : cE G F (cI I q sp p dp len) p = .inl (gC G 100, m2, .inl (va_cpy (fun j => Int32.ofInt (I q j)) (fun j => Int32.ofInt (I p j)) sp dp len)) := by
  rw [cE_i hp]
  refine congrArg (fun g => Sum.inl (gC G 100, m2, Sum.inl g)) (funext fun j => ?_)
  unfold cI va_cpy
  by_cases h : dp ≤ j ∧ j < dp + len
  · rw [if_pos ⟨rfl, h⟩, if_pos h]
  · rw [if_neg (fun z => h z.2), if_neg h]
theorem cE_cpyb {p m2 sp dp len : Nat} (hp : lay p = (101, m2)) : cE G F (cI I q sp p dp len) p = .inl (gC G 101, m2, .inl (va_cpy (fun j => Int32.ofInt (I q j)) (fun j => Int32.ofInt (I p j)) sp dp len)) := by
  rw [cE_b hp]
  refine congrArg (fun g => Sum.inl (gC G 101, m2, Sum.inl g)) (funext fun j => ?_)
  unfold cI va_cpy
  by_cases h : dp ≤ j ∧ j < dp + len
  · rw [if_pos ⟨rfl, h⟩, if_pos h]
  · rw [if_neg (fun z => h z.2), if_neg h]
theorem fit_b {x : Int} (h : -128 ≤ x ∧ x ≤ 127) : fits .byte (.int (Int32.ofInt x)) = true := by
  have h1 : iR x := by unfold iR; omega
  show (decide ((-128 : Int32) ≤ Int32.ofInt x) && decide (Int32.ofInt x ≤ (127 : Int32))) = true
  rw [show (-128 : Int32) = Int32.ofInt (-128) from rfl, show (127 : Int32) = Int32.ofInt 127 from rfl]
  rw [decide_eq_true ((n_le (by unfold iR; omega) h1).mpr h.1), decide_eq_true ((n_le h1 (by unfold iR; omega)).mpr h.2)]
  rfl
theorem g_copy {t p m1 m2 : Nat} {sp dp len : Int} (hd : decode (mB k) pc = .ok (.invokestatic i, 3)) (hn : nx = pc + 3)
    (hlink : Jvm.Cond.methodLink (mY k).cls i arraycopyName ∈ goods) (hnat : Jvm.Cond.native arraycopyName ∈ goods) (hstat : Jvm.Cond.static arraycopyName ∈ goods) (hini : Jvm.Cond.initialized "java/lang/System" ∈ goods)
    (ht : t ∈ [100, 101]) (hq : lay q = (t, m1)) (hp : lay p = (t, m2)) (hqn : q < n) (hpn : p < n) (h0 : 0 ≤ sp) (h1 : 0 ≤ dp) (h2 : 0 ≤ len) (h3 : sp + len ≤ (m1 : Int)) (h4 : dp + len ≤ (m2 : Int)) (hr : ctgs r ≤ 8) (hd1 : 1 ≤ d)
    (h : Go G d k n0 n nx lv r F (cI I q sp.toNat p dp.toNat len.toNat) Q) : Go G d k n0 n pc lv (.inr (.inl len) :: .inr (.inl dp) :: .inl (some p) :: .inr (.inl sp) :: .inl (some q) :: r) F I Q := by
  intro pp e s mm args below meth c H locs ls C hl hs
  subst hn
  have r1 : iR len := ok_h hs
  have r2 : iR dp := ok_h (ok_t hs)
  have r3 : iR sp := ok_h (ok_t (ok_t (ok_t hs)))
  have hrs := ok_t (ok_t (ok_t (ok_t (ok_t hs))))
  have hw1 := wL_at G F I hqn
  have hw2 := wL_at G F I hpn
  show W pp (gL G) e (Rm d k n0) s mm args below meth c H locs (n - n0) (sz n - sz n0) _ (F0 mm pc ls (tr G (.inr (.inl len)) :: tr G (.inr (.inl dp)) :: tr G (.inl (some p)) :: tr G (.inr (.inl sp)) :: tr G (.inl (some q)) :: r.map (tr G)))
  rw [tr_w C.wd.ext hqn, tr_w C.wd.ext hpn]
  have hloc : ((r.map (tr G)).map fun v => v.category).sum + (nativeFrameWords "java/lang/System" "arraycopy" 5 + 11) ≤ (Rm d k n0).locals := by
    rw [ctgs_sum]
    show ctgs r + (nativeFrameWords "java/lang/System" "arraycopy" 5 + 11) ≤ 64 * d
    have : nativeFrameWords "java/lang/System" "arraycopy" 5 ≤ 40 := by decide +kernel
    omega
  have hml : c.maxLocals = ls.size := by rw [C.2.2.2.2.1, hl.1]
  simp at ht
  rcases ht with rfl | rfl
  · rw [cE_i hq] at hw1
    rw [cE_i hp] at hw2
    refine va_copyi (D := gD G) (cl := vwCl) (ty := .int) C.1 C.2.1 hml C.own (C.hts _ hlink) (C.hts _ hnat) (C.hts _ hstat) (C.hts _ hini) (C.kx.K (kd 100 (Or.inl rfl))) C.wd.2.1 (wL_D G n F I) C.S q p 0 0 hw1 hw2 rfl rfl rfl
      (nn_i r3 h0) (nn_i r2 h1) (nn_i r1 h2) (by rw [n_cl r3, n_cl r1]; omega) (by rw [n_cl r2, n_cl r1]; omega) (fun _ _ => rfl) hd1 hloc hd (fun H1 locs1 hP hD hS => ?_)
    rw [n_cl r3, n_cl r2, n_cl r1, wL_set (F' := F) (I' := cI I q sp.toNat p dp.toNat len.toNat) (cE_cpyi hp) (fun k hk => cE_ne (fun _ => rfl) (cI_ne hk))] at hP
    refine after C hl hrs h hP hS (fun kk j => ?_) (fun kk hk j => ?_)
    · unfold cI
      split
      · exact C.wd.R _ _
      · exact C.wd.R _ _
    · rw [cI_ne (fun z => by rw [z, hp] at hk; cases hk) j]
      exact C.wd.by kk hk j
  · rw [cE_b hq] at hw1
    rw [cE_b hp] at hw2
    refine va_copyi (D := gD G) (cl := vwCl) (ty := .byte) C.1 C.2.1 hml C.own (C.hts _ hlink) (C.hts _ hnat) (C.hts _ hstat) (C.hts _ hini) (C.kx.K (kd 101 (by omega))) C.wd.2.1 (wL_D G n F I) C.S q p 0 0 hw1 hw2 rfl rfl rfl
      (nn_i r3 h0) (nn_i r2 h1) (nn_i r1 h2) (by rw [n_cl r3, n_cl r1]; omega) (by rw [n_cl r2, n_cl r1]; omega) (fun _ _ => fit_b (C.wd.by q (by rw [hq]) _)) hd1 hloc hd (fun H1 locs1 hP hD hS => ?_)
    rw [n_cl r3, n_cl r2, n_cl r1, wL_set (F' := F) (I' := cI I q sp.toNat p dp.toNat len.toNat) (cE_cpyb hp) (fun k hk => cE_ne (fun _ => rfl) (cI_ne hk))] at hP
    refine after C hl hrs h hP hS (fun kk j => ?_) (fun kk hk j => ?_)
    · unfold cI
      split
      · exact C.wd.R _ _
      · exact C.wd.R _ _
    · unfold cI
      split
      · exact C.wd.by q (by rw [hq]) _
      · exact C.wd.by kk hk j
theorem g_ldc (hd : decode (mB k) pc = .ok (.ldc i, 2)) (hn : nx = pc + 2) (hc : Jvm.Cond.constant (mY k).cls i (Int32.ofInt x) ∈ goods) (hx : iR x) (h : Go G d k n0 n nx lv (.inr (.inl x) :: r) F I Q) : Go G d k n0 n pc lv r F I Q := by
  intro p e s mm args below meth c H locs ls C hl hs
  subst hn
  exact lv_ldc C.1 C.2.1 C.own (C.hts _ hc) hd (h p e s mm args below meth c H locs ls C hl (ok_c hx hs))
theorem g_ldcw (hd : decode (mB k) pc = .ok (.ldc_w i, 3)) (hn : nx = pc + 3) (hc : Jvm.Cond.constant (mY k).cls i (Int32.ofInt x) ∈ goods) (hx : iR x) (h : Go G d k n0 n nx lv (.inr (.inl x) :: r) F I Q) : Go G d k n0 n pc lv r F I Q := by
  intro p e s mm args below meth c H locs ls C hl hs
  subst hn
  exact lv_ldcw C.1 C.2.1 C.own (C.hts _ hc) hd (h p e s mm args below meth c H locs ls C hl (ok_c hx hs))
theorem g_ldc2 (hd : decode (mB k) pc = .ok (.ldc2_w i, 3)) (hn : nx = pc + 3) (hc : Jvm.Cond.constantLong (mY k).cls i (Int64.ofInt x) ∈ goods) (hx : lR x) (h : Go G d k n0 n nx lv (.inr (.inr x) :: r) F I Q) : Go G d k n0 n pc lv r F I Q := by
  intro p e s mm args below meth c H locs ls C hl hs
  subst hn
  exact lv_ldc2 C.1 C.2.1 C.own (C.hts _ hc) hd (h p e s mm args below meth c H locs ls C hl (ok_c hx hs))
theorem g_ldcS (hd : decode (mB k) pc = .ok (.ldc i, 2)) (hn : nx = pc + 2) (ha : a < 18) (hi : (strO.getD a ("", 0, "", 0)).2.1 = i) (ho : (strO.getD a ("", 0, "", 0)).1 = (mY k).cls) (h : Go G d k n0 n nx lv (.inl (some (EXT + 10 + a)) :: r) F I Q) : Go G d k n0 n pc lv r F I Q := by
  intro p e s mm args below meth c H locs ls C hl hs
  subst hn
  obtain ⟨-, -, -, -, h5⟩ := C.kx.txt a ha
  rw [hi, ho] at h5
  exact va_ldcS C.1 C.2.1 C.own h5 hd (h p e s mm args below meth c H locs ls C hl (ok_c trivial hs))
theorem g_val (hd : decode (mB k) pc = .ok (.getfield i, 3)) (hn : nx = pc + 3) (hw : Jvm.Cond.fieldLink (mY k).cls i "java/lang/String" "value" "[B" ∈ goods) (ha : a < 18) (hq : q = EXT + 10 + a) (h : Go G d k n0 n nx lv (.inl (some (q + 30)) :: r) F I Q) : Go G d k n0 n pc lv (.inl (some q) :: r) F I Q := by
  intro p e s mm args below meth c H locs ls C hl hs
  subst hn
  subst hq
  obtain ⟨-, -, h3, -, -⟩ := C.kx.txt a ha
  have h9 := h p e s mm args below meth c H locs ls C hl (ok_c trivial (ok_t hs))
  refine vk_getf C.1 C.2.1 h3 C.S C.own (C.hts _ hw) (fun _ z => z) hd ?_
  rw [show EXT + 40 + a = EXT + 10 + a + 30 by omega]
  exact h9
theorem g_cod (hd : decode (mB k) pc = .ok (.getfield i, 3)) (hn : nx = pc + 3) (hw : Jvm.Cond.fieldLink (mY k).cls i "java/lang/String" "coder" "B" ∈ goods) (ha : a < 18) (hq : q = EXT + 10 + a) (h : Go G d k n0 n nx lv (.inr (.inl 0) :: r) F I Q) : Go G d k n0 n pc lv (.inl (some q) :: r) F I Q := by
  intro p e s mm args below meth c H locs ls C hl hs
  subst hn
  subst hq
  obtain ⟨-, h2, -, -, -⟩ := C.kx.txt a ha
  exact vk_getf C.1 C.2.1 h2 C.S C.own (C.hts _ hw) (fun _ z => z) hd (h p e s mm args below meth c H locs ls C hl (ok_c iR0 (ok_t hs)))
theorem str_R : ∀ j, j < 18 → ∀ b, b ∈ strB.getD j [] → -128 ≤ b ∧ b ≤ 127 := by decide +kernel
theorem getD_R {l : List Int} (h : ∀ b, b ∈ l → -128 ≤ b ∧ b ≤ 127) (i : Nat) : iR (l.getD i 0) := by
  rw [List.getD_eq_getElem?_getD]
  cases hi : l[i]? with
  | none => exact iR0
  | some b =>
    have := h b (List.mem_of_getElem? hi)
    show iR b
    unfold iR
    omega
theorem g_strb (hd : decode (mB k) pc = .ok (.baload, 1)) (hn : nx = pc + 1) (ha : a < 18) (hq : q = EXT + 40 + a) (h0 : 0 ≤ z) (h1 : z < (strL.getD a 0 : Int)) (h : Go G d k n0 n nx lv (.inr (.inl ((strB.getD a []).getD z.toNat 0)) :: r) F I Q) : Go G d k n0 n pc lv (.inr (.inl z) :: .inl (some q) :: r) F I Q := by
  intro p e s mm args below meth c H locs ls C hl hs
  subst hn
  subst hq
  have hz : iR z := ok_h hs
  obtain ⟨-, -, -, h4, -⟩ := C.kx.txt a ha
  exact va_tb C.1 C.2.1 h4 C.S (n_in hz h0 h1) (by rw [n_cl hz]; rfl) hd (h p e s mm args below meth c H locs ls C hl (ok_c (getD_R (str_R a ha) _) (ok_t (ok_t hs))))
theorem strL_R : ∀ j, j < 18 → strL.getD j 0 < 100 := by decide +kernel
theorem g_strl (hd : decode (mB k) pc = .ok (.arraylength, 1)) (hn : nx = pc + 1) (ha : a < 18) (hq : q = EXT + 40 + a) (h : Go G d k n0 n nx lv (.inr (.inl (strL.getD a 0 : Int)) :: r) F I Q) : Go G d k n0 n pc lv (.inl (some q) :: r) F I Q := by
  intro p e s mm args below meth c H locs ls C hl hs
  subst hn
  subst hq
  obtain ⟨-, -, -, h4, -⟩ := C.kx.txt a ha
  have := strL_R a ha
  exact va_tlen C.1 C.2.1 h4 C.S Int32.ofInt_eq_ofNat.symm hd (h p e s mm args below meth c H locs ls C hl (ok_c (by show iR _; unfold iR; omega) (ok_t hs)))
theorem above_R : ∀ b, b ∈ aboveT → -128 ≤ b ∧ b ≤ 127 := by decide +kernel
theorem bodies_R : ∀ b, b ∈ bodiesT → -128 ≤ b ∧ b ≤ 127 := by decide +kernel
theorem g_above (hd : decode (mB k) pc = .ok (.iaload, 1)) (hn : nx = pc + 1) (hq : q = EXT + 1) (h0 : 0 ≤ z) (h1 : z < 6) (h : Go G d k n0 n nx lv (.inr (.inl (aboveT.getD z.toNat 0)) :: r) F I Q) : Go G d k n0 n pc lv (.inr (.inl z) :: .inl (some q) :: r) F I Q := by
  intro p e s mm args below meth c H locs ls C hl hs
  subst hn
  subst hq
  have hz : iR z := ok_h hs
  exact va_ti C.1 C.2.1 C.kx.2.1.1 C.S (n_in hz h0 (by omega)) (by rw [n_cl hz]; rfl) hd (h p e s mm args below meth c H locs ls C hl (ok_c (getD_R above_R _) (ok_t (ok_t hs))))
theorem g_bodies (hd : decode (mB k) pc = .ok (.iaload, 1)) (hn : nx = pc + 1) (hq : q = EXT + 2) (h0 : 0 ≤ z) (h1 : z < 24) (h : Go G d k n0 n nx lv (.inr (.inl (bodiesT.getD z.toNat 0)) :: r) F I Q) : Go G d k n0 n pc lv (.inr (.inl z) :: .inl (some q) :: r) F I Q := by
  intro p e s mm args below meth c H locs ls C hl hs
  subst hn
  subst hq
  have hz : iR z := ok_h hs
  exact va_ti C.1 C.2.1 C.kx.2.2.1.1 C.S (n_in hz h0 (by omega)) (by rw [n_cl hz]; rfl) hd (h p e s mm args below meth c H locs ls C hl (ok_c (getD_R bodies_R _) (ok_t (ok_t hs))))
theorem g_abovel (hd : decode (mB k) pc = .ok (.arraylength, 1)) (hn : nx = pc + 1) (hq : q = EXT + 1) (h : Go G d k n0 n nx lv (.inr (.inl 6) :: r) F I Q) : Go G d k n0 n pc lv (.inl (some q) :: r) F I Q := by
  intro p e s mm args below meth c H locs ls C hl hs
  subst hn
  subst hq
  exact va_tlen C.1 C.2.1 C.kx.2.1.1 C.S rfl hd (h p e s mm args below meth c H locs ls C hl (ok_c (by show iR _; unfold iR; omega) (ok_t hs)))
theorem g_bodiesl (hd : decode (mB k) pc = .ok (.arraylength, 1)) (hn : nx = pc + 1) (hq : q = EXT + 2) (h : Go G d k n0 n nx lv (.inr (.inl 24) :: r) F I Q) : Go G d k n0 n pc lv (.inl (some q) :: r) F I Q := by
  intro p e s mm args below meth c H locs ls C hl hs
  subst hn
  subst hq
  exact va_tlen C.1 C.2.1 C.kx.2.2.1.1 C.S rfl hd (h p e s mm args below meth c H locs ls C hl (ok_c (by show iR _; unfold iR; omega) (ok_t hs)))
theorem g_scr (hd : decode (mB k) pc = .ok (.iaload, 1)) (hn : nx = pc + 1) (hq : q = EXT) (h0 : 0 ≤ z) (h1 : z < (gN G : Int)) (h : Go G d k n0 n nx lv (.inr (.inl (gX G z.toNat).toInt) :: r) F I Q) : Go G d k n0 n pc lv (.inr (.inl z) :: .inl (some q) :: r) F I Q := by
  intro p e s mm args below meth c H locs ls C hl hs
  subst hn
  subst hq
  have hz : iR z := ok_h hs
  have h9 := h p e s mm args below meth c H locs ls C hl (ok_c (toInt_R _) (ok_t (ok_t hs)))
  have hb : ad G EXT < s.heap.size := by rw [C.sz0]; have := C.kx.1.2; omega
  refine va_sld C.1 C.2.1 C.kx.1.1 hb (Nat.not_le.mpr C.kx.1.2) C.S (n_in hz h0 h1) hd ?_
  rw [n_cl hz]
  have h8 : tr G (.inr (.inl (gX G z.toNat).toInt)) = .int (gX G z.toNat) := congrArg Value.int (Int32.ofInt_toInt _)
  rw [← h8]
  exact h9
theorem g_scrl (hd : decode (mB k) pc = .ok (.arraylength, 1)) (hn : nx = pc + 1) (hq : q = EXT) (h : Go G d k n0 n nx lv (.inr (.inl (Int32.ofNat (gN G)).toInt) :: r) F I Q) : Go G d k n0 n pc lv (.inl (some q) :: r) F I Q := by
  intro p e s mm args below meth c H locs ls C hl hs
  subst hn
  subst hq
  have h9 := h p e s mm args below meth c H locs ls C hl (ok_c (toInt_R _) (ok_t hs))
  have hb : ad G EXT < s.heap.size := by rw [C.sz0]; have := C.kx.1.2; omega
  refine va_slen C.1 C.2.1 C.kx.1.1 hb (Nat.not_le.mpr C.kx.1.2) C.S hd ?_
  have h8 : tr G (.inr (.inl (Int32.ofNat (gN G)).toInt)) = .int (Int32.ofNat (gN G)) := congrArg Value.int (Int32.ofInt_toInt _)
  rw [← h8]
  exact h9
theorem g_stat {Cn nm ds : String} (hd : decode (mB k) pc = .ok (.getstatic i, 3)) (hn : nx = pc + 3) (hw : Jvm.Cond.fieldLink (mY k).cls i Cn nm ds ∈ goods) (hZ : ∀ s H, KX G s H → va_Z Cn nm ds (tr G v) (A0 G) s H) (hv : okV v) (h : Go G d k n0 n nx lv (v :: r) F I Q) : Go G d k n0 n pc lv r F I Q := by
  intro p e s mm args below meth c H locs ls C hl hs
  subst hn
  exact va_gets C.1 C.2.1 (hZ s s.heap C.kx) C.S C.own (C.hts _ hw) (fun _ z => z) hd (h p e s mm args below meth c H locs ls C hl (ok_c hv hs))
theorem g_obj (hd : decode (mB k) pc = .ok (.invokespecial i, 3)) (hn : nx = pc + 3) (hlink : Jvm.Cond.methodLink (mY k).cls i objectInit ∈ goods) (hinst : Jvm.Cond.instanceMethod objectInit ∈ goods) (hcode : Jvm.Cond.code objectInit ⟨#[0xb1]⟩ 1 none ∈ goods) (hr : ctgs r ≤ 8) (hd1 : 1 ≤ d)
    (h : Go G d k n0 n nx lv r F I Q) : Go G d k n0 n pc lv (.inl (some q) :: r) F I Q := by
  intro p e s mm args below meth c H locs ls C hl hs
  subst hn
  refine W.objInit C.1 C.2.1 C.own (C.hts _ hlink) (C.hts _ hinst) (C.hts _ hcode) rfl (by rw [C.2.2.2.2.1]; exact hl.1) rfl hd hd1 ?_ (h p e s mm args below meth c H locs ls C hl (ok_t hs))
  show 2 * 0 + ((r.map (tr G)).map fun v => v.category).sum + 12 ≤ 64 * d
  rw [ctgs_sum]
  omega
end EXTS
end
section
/-! calls, returns, entries, for the walking machine. Own work. -/
theorem nest_warm {w : Jvm.Cond} (hn : isNest w = true) {s U : State} (hW : s.WarmedH U.vm) (h : va_Nw w s) : va_Nw w U := by
  cases w <;> first | (cases hn; done) | exact va_Nw.warmF hW h | exact va_Nw.warmM hW h
theorem KX.mv {G : pG} {s U : State} {H H' : Heap} (h : KX G s H) (hW : s.WarmedH U.vm) (hq : ∀ q : Nat, q < H.size → ¬ A0 G q → H'[q]? = H[q]?) : KX G U H' := by
  obtain ⟨⟨h1, h1'⟩, ⟨h2, h2'⟩, ⟨h3, h3'⟩, h4, h5, h6, h7, h8, h9, ⟨a1, a2, a3, a4⟩, h11⟩ := h
  have hv := hW.alike
  refine ⟨⟨(h1.kept ?_).moved hv, h1'⟩, ⟨(h2.kept hq).moved hv, (h2'.kept hq).moved hv⟩, ⟨(h3.kept hq).moved hv, (h3'.kept hq).moved hv⟩, (h4.kept hq).moved hv, (h5.kept hq).moved hv, fun i hi => ?_, fun c q hc => u_Kn_moved hv (h7 c q hc), fun t ht => ⟨arrOfT_moved hv (h8 t ht).1, (h8 t ht).2.moved hv⟩, fun w hw hn => nest_warm hn hW (h9 w hw hn), ⟨a1.moved hv, a2.moved hv, a3.moved hv, a4.moved hv⟩, h11⟩
  · obtain ⟨scr, g1, -⟩ := h1
    exact hq _ (Array.getElem?_eq_some_iff.mp g1).1 (Nat.not_le.mpr h1')
  · obtain ⟨t1, t2, t3, t4, t5⟩ := h6 i hi
    exact ⟨(t1.kept hq).moved hv, (t2.kept hq).moved hv, (t3.kept hq).moved hv, (t4.kept hq).moved hv, t5.warm hW⟩
theorem Pc_blind (G : pG) (as : List pV) (n : Nat) (F : pF) (I : pI) : FrameBlind (Pc G as n F I) := by
  intro a U g mk h
  exact ⟨h.1, h.2.1.mv (State.WarmedH.refl U) (fun _ _ _ => rfl), h.2.2⟩
section CALLS
variable {p : Program} {l : Launch} {e : Env} {R : Room} {s : State} {m : MethodId} {args : Array Value} {below : List Frame} {meth : Method} {c : Code} {H : Heap} {locs : List Loc} {cells slots : Nat} {Q : State → Prop}
variable {pc : Nat} {ls : Array Slot} {rest st0 : List Value} {A1 : Nat → Prop} {mc ms : Nat} {free : Addr → Prop} {Qa : State → Outcome → State → Prop}
theorem after_call (hr : va_Run p l e R s m args below meth c H locs cells slots mc ms (F0 m pc ls st0) rest Qa free)
    (kk : ∀ (v : Option Value) (st t : State) (L : List Loc), st.heap = H → Qa st (.returned v) t → (∀ q ∈ L, free q.base) → W p l e R s m args below meth c t.heap (locs ++ L) (cells + mc) (slots + ms) Q (F0 m (pc + 3) ls (v.toList ++ rest))) : W p l e R s m args below meth c H locs cells slots Q (F0 m pc ls st0) := by
  intro T hT X
  obtain ⟨v, st₀, t, T', L, h0, X', hL, e1, e2, hqa, st⟩ := hr T hT X
  obtain ⟨t2, a1, b1⟩ := kk v st₀ t L h0 hqa hL T' e1 X'
  exact ⟨t2, st t2 a1, b1⟩
end CALLS
/-- what the tables say of method j -/
def mOK (j : Nat) : Prop := Jvm.Cond.code (mY j) (mB j) (mL j) (mR j) ∈ goods ∧ Jvm.Cond.initialized (mY j).cls ∈ goods ∧ ((mY j).cls ≠ "java/lang/invoke/MethodHandle" ∧ (mY j).cls ≠ "java/lang/invoke/VarHandle") ∧ (parseMethodDescriptor (mY j).desc).map (fun d => d.parameters.length) = some (mN j) ∧ mL j ≤ 40
section CL
variable {G : pG} {d k n0 n pc nx a b i q mm j : Nat} {lv : List (Option pV)} {r as : List pV} {F : pF} {I : pI} {Q : Option pV → pF → pI → Prop} {x y z : Int} {v : pV}
theorem good_word {w : Jvm.Cond} (h : w ∈ goods) : (w.onTables && w.keeps) = true ∨ ∃ ty, w = .arrayClass ty := good_of_word (List.mem_filter.mp h).2
/-- the words of a callee hold later, too -/
theorem ws_later {s : State} {args : Array Value} (hts : ∀ w ∈ goods, w.before args s = true) (hj : Jvm.Cond.code (mY j) (mB j) (mL j) (mR j) ∈ goods) : ∀ w ∈ mW j, ∀ (a' : Array Value) (U : State), s.WarmedH U.vm → w.before a' U = true := by
  intro w hw a' U hW
  have hg : w ∈ goods := by
    rcases List.mem_cons.mp hw with rfl | h
    · exact hj
    · exact h
  exact word_at hW (good_word hg) (hts w hg)
theorem back_to {p : Program} {e : Env} {s : State} {m : MethodId} {args : Array Value} {below : List Frame} {meth : Method} {c : Code} {H : Heap} {locs : List Loc} {ls : Array Slot} {st0 : List Value} {rest : List pV} {arr : Array Value}
    (C : Ct G d k n0 n F I p e s m args meth c H locs) (hl : Hs G k ls lv) (hrs : ∀ v ∈ rest, okV v) (hnz : n + alc j ≤ n0 + alc k)
    (hr : va_Run p (gL G) e (Rm d k n0) s m args below meth c H locs (n - n0) (sz n - sz n0) (alc j) (sz (n + alc j) - sz n) (F0 m pc ls st0) (rest.map (tr G)) (fun st o t => Qc G (n + alc j) (fun rv F' I' => match rv with
      | none => Go G d k n0 (n + alc j) (pc + 3) lv rest F' I' Q
      | some w => Go G d k n0 (n + alc j) (pc + 3) lv (w :: rest) F' I' Q) arr st o t ∧ va_F (A0 G) st t) (A0 G)) :
    W p (gL G) e (Rm d k n0) s m args below meth c H locs (n - n0) (sz n - sz n0) (MQ below (fun a st o t => Qc G (n0 + alc k) Q a st o t ∧ va_F (A0 G) st t) args s (alc k) (sz (n0 + alc k) - sz n0) (A0 G)) (F0 m pc ls st0) := by
  refine after_call hr (fun v st t L h0 hq hL => ?_)
  obtain ⟨⟨rv, F', I', e1, e2, e3, e4⟩, e5⟩ := hq
  have hn0 := C.n0
  have g1 := sz_le hn0
  have g2 := sz_le (Nat.le_add_right n (alc j))
  rw [show n - n0 + alc j = n + alc j - n0 by omega, show sz n - sz n0 + (sz (n + alc j) - sz n) = sz (n + alc j) - sz n0 by omega]
  have hS : va_S (A0 G) s.heap t.heap (locs ++ L) := by
    refine ⟨Nat.le_trans C.S.1 (by rw [← h0]; exact e5.1), fun q g3 g4 => ?_, fun q hq => ?_⟩
    · rw [e5.2 q (by rw [h0]; exact Nat.lt_of_lt_of_le g3 C.S.1) g4, h0]
      exact C.S.2.1 q g3 g4
    · rcases List.mem_append.mp hq with h | h
      · exact C.S.2.2 q h
      · exact hL q h
  cases rv with
  | none =>
    cases e1
    exact e2 p e s m args below meth c t.heap (locs ++ L) ls (C.mv (by omega) hnz e3 hS) hl hrs
  | some w =>
    cases e1
    exact e2 p e s m args below meth c t.heap (locs ++ L) ls (C.mv (by omega) hnz e3 hS) hl (ok_c (e4 w rfl) hrs)
theorem room_ok (hn : n0 ≤ n) (hj : mL j ≤ 40) (hnz : n + alc j ≤ n0 + alc k) : ((Rm d j n).cells = alc j ∧ (Rm d j n).slots = sz (n + alc j) - sz n ∧ (Rm d j n).frames + 1 ≤ (Rm (d + 1) k n0).frames ∧ 8 + (mL j + 11) + (Rm d j n).locals ≤ (Rm (d + 1) k n0).locals) ∧ (n - n0 + alc j ≤ (Rm (d + 1) k n0).cells ∧ sz n - sz n0 + (sz (n + alc j) - sz n) ≤ (Rm (d + 1) k n0).slots) := by
  have h1 := sz_le hn
  have h2 := sz_le (Nat.le_add_right n (alc j))
  have h3 := sz_le hnz
  refine ⟨⟨rfl, rfl, Nat.le_refl _, ?_⟩, ?_, ?_⟩
  · show 8 + (mL j + 11) + 64 * d ≤ 64 * (d + 1)
    omega
  · show n - n0 + alc j ≤ alc k
    omega
  · show sz n - sz n0 + (sz (n + alc j) - sz n) ≤ sz (n0 + alc k) - sz n0
    omega
theorem args_arr (G : pG) (as : List pV) : (as.map (tr G)).toArray = (as.map (tr G)).toArray := rfl
theorem pre_at {p : Program} {e : Env} {s : State} {m : MethodId} {args : Array Value} {meth : Method} {c : Code} {H : Heap} {locs : List Loc} (C : Ct G d k n0 n F I p e s m args meth c H locs) : ∀ U : State, U.heap = H → s.WarmedH U.vm → Pc G as n F I (as.map (tr G)).toArray U := by
  intro U hU hW
  refine ⟨rfl, C.kx.mv hW (fun q g1 g2 => ?_), by rw [hU]; exact C.wd⟩
  rw [hU]
  exact C.S.2.1 q g1 g2
theorem g_callS (hd : decode (mB k) pc = .ok (.invokestatic i, 3)) (hn : nx = pc + 3) (hj : mOK j) (hst : Jvm.Cond.static (mY j) ∈ goods) (hlk : Jvm.Cond.methodLink (mY k).cls i (mY j) ∈ goods) (hlen : as.length = mN j) (hr : ctgs r ≤ 8) (hz : alc j = 0)
    (h : Call G d j as n F I (fun rv F' I' => match rv with
      | none => Go G (d + 1) k n0 (n + alc j) nx lv r F' I' Q
      | some w => Go G (d + 1) k n0 (n + alc j) nx lv (w :: r) F' I' Q)) : Go G (d + 1) k n0 n pc lv (as.reverse ++ r) F I Q := by
  intro p e s m args below meth c H locs ls C hl hs
  subst hn
  obtain ⟨j1, j2, j3, j4, j5⟩ := hj
  have hnz : n + alc j ≤ n0 + alc k := by rw [hz]; exact C.n1
  obtain ⟨⟨q1, q2, q3, q4⟩, q5⟩ := room_ok (d := d) C.n0 j5 hnz
  have hok : ∀ v ∈ as, okV v := fun v hv => hs v (List.mem_append_left _ (List.mem_reverse.mpr hv))
  have hM := h hok
  refine back_to C hl (fun v hv => hs v (List.mem_append_right _ hv)) hnz (arr := (as.map (tr G)).toArray) ?_
  refine va_runS (As := as.map (tr G)) (Ts := goods) (nL := mL k) ⟨C.1, C.2.1, C.2.2.2.2.1, C.own, C.hts⟩ hM ⟨⟨q1, q2, q3, q4, ws_later C.hts j1, List.mem_cons_self, C.hts _ j1, C.hts _ j2, j3, fun sig hsig => ?_, C.hts _ hlk⟩, C.hts _ hst⟩ ⟨Pc_blind G as n F I, pre_at C⟩ rfl rfl hl.1 (by show List.map (tr G) (as.reverse ++ r) = _; rw [List.map_append, List.map_reverse]) (lv_room (by rw [ctgs_sum]; exact hr)) hd q5
  · rw [hsig] at j4
    rw [List.length_map, hlen]
    exact (Option.some.inj j4).symm
theorem g_callSN {host : String} (hd : decode (mB k) pc = .ok (.invokestatic i, 3)) (hn : nx = pc + 3) (hj : mOK j) (hst : Jvm.Cond.static (mY j) ∈ goods) (hlk : Jvm.Cond.methodLinkNest (mY k).cls i (mY j) host ∈ lw_tbl) (hlen : as.length = mN j) (hr : ctgs r ≤ 8) (hz : alc j = 0)
    (h : Call G d j as n F I (fun rv F' I' => match rv with
      | none => Go G (d + 1) k n0 (n + alc j) nx lv r F' I' Q
      | some w => Go G (d + 1) k n0 (n + alc j) nx lv (w :: r) F' I' Q)) : Go G (d + 1) k n0 n pc lv (as.reverse ++ r) F I Q := by
  intro p e s m args below meth c H locs ls C hl hs
  subst hn
  obtain ⟨j1, j2, j3, j4, j5⟩ := hj
  have hnz : n + alc j ≤ n0 + alc k := by rw [hz]; exact C.n1
  obtain ⟨⟨q1, q2, q3, q4⟩, q5⟩ := room_ok (d := d) C.n0 j5 hnz
  have hok : ∀ v ∈ as, okV v := fun v hv => hs v (List.mem_append_left _ (List.mem_reverse.mpr hv))
  have hM := h hok
  refine back_to C hl (fun v hv => hs v (List.mem_append_right _ hv)) hnz (arr := (as.map (tr G)).toArray) ?_
  refine va_runSN (As := as.map (tr G)) (Ts := goods) (nL := mL k) (host := host) ⟨C.1, C.2.1, C.2.2.2.2.1, C.own, C.hts⟩ hM ⟨⟨⟨q1, q2, q3, q4, ws_later C.hts j1, List.mem_cons_self⟩, C.hts _ j1, C.hts _ j2, j3, fun sig hsig => ?_, va_Nw.use rfl (C.kx.nest _ hlk rfl)⟩, C.hts _ hst, trivial⟩ ⟨Pc_blind G as n F I, pre_at C⟩ rfl rfl hl.1 (by show List.map (tr G) (as.reverse ++ r) = _; rw [List.map_append, List.map_reverse]) (lv_room (by rw [ctgs_sum]; exact hr)) hd q5
  · rw [hsig] at j4
    rw [List.length_map, hlen]
    exact (Option.some.inj j4).symm
/-- the receiver of a call -/
def Rcv (G : pG) (n q : Nat) (C : String) : Prop := (∃ c m, c < 13 ∧ C = clC c ∧ lay q = (c, m) ∧ q < n) ∨ (∃ i, i < 18 ∧ q = EXT + 10 + i ∧ C = "java/lang/String")
theorem rcv_at {Cn : String} {p : Program} {e : Env} {s : State} {m : MethodId} {args : Array Value} {meth : Method} {c : Code} {H : Heap} {locs : List Loc} (C : Ct G d k n0 n F I p e s m args meth c H locs) (h : Rcv G n q Cn) : ∃ cellB : Cell, H[ad G q]? = some cellB ∧ cellB.vm.isStatics = false ∧ s.vm.findClass Cn = some cellB.cls := by
  rcases h with ⟨c0, m0, hc, rfl, hq, hqn⟩ | ⟨i0, hi, rfl, rfl⟩
  · have h0 := wL_at G F I hqn
    rw [cE_obj hq hc] at h0
    rw [ad_w G (by have := C.wd.ext; omega)]
    exact va_recv C.kx.K0 C.wd.2.1 (cl_get hc) h0
  · obtain ⟨cell, f1, f2, f3, f4⟩ := (C.kx.txt i0 hi).1
    exact ⟨cell, (C.S.2.1 _ (Array.getElem?_eq_some_iff.mp f1).1 f4).trans f1, f2, f3⟩
theorem g_callV (hd : decode (mB k) pc = .ok (.invokevirtual i, 3)) (hn : nx = pc + 3) (hj : mOK j) (hst : Jvm.Cond.instanceMethod (mY j) ∈ goods) (hsel : Jvm.Cond.selects (mY j).cls (mY j) (mY j) ∈ goods) (hlk : Jvm.Cond.methodLink (mY k).cls i (mY j) ∈ goods) (hrc : Rcv G n q (mY j).cls) (hlen : as.length = mN j) (hr : ctgs r ≤ 8) (hz : alc j = 0)
    (h : Call G d j (.inl (some q) :: as) n F I (fun rv F' I' => match rv with
      | none => Go G (d + 1) k n0 (n + alc j) nx lv r F' I' Q
      | some w => Go G (d + 1) k n0 (n + alc j) nx lv (w :: r) F' I' Q)) : Go G (d + 1) k n0 n pc lv (as.reverse ++ .inl (some q) :: r) F I Q := by
  intro p e s m args below meth c H locs ls C hl hs
  subst hn
  obtain ⟨j1, j2, j3, j4, j5⟩ := hj
  have hnz : n + alc j ≤ n0 + alc k := by rw [hz]; exact C.n1
  obtain ⟨⟨q1, q2, q3, q4⟩, q5⟩ := room_ok (d := d) C.n0 j5 hnz
  have hok : ∀ v ∈ (.inl (some q) :: as : List pV), okV v := ok_c trivial (fun v hv => hs v (List.mem_append_left _ (List.mem_reverse.mpr hv)))
  have hM := h hok
  refine back_to C hl (fun v hv => hs v (List.mem_append_right _ (List.mem_cons_of_mem _ hv))) hnz (arr := ((.inl (some q) :: as : List pV).map (tr G)).toArray) ?_
  refine va_runV (As := as.map (tr G)) (Ts := goods) (nL := mL k) (C := (mY j).cls) (b := ad G q) ⟨C.1, C.2.1, C.2.2.2.2.1, C.own, C.hts⟩ hM ⟨⟨q1, q2, q3, q4, ws_later C.hts j1, List.mem_cons_self, C.hts _ j1, C.hts _ j2, j3, fun sig hsig => ?_, C.hts _ hlk⟩, C.hts _ hst, C.hts _ hsel⟩ ⟨Pc_blind G _ n F I, rcv_at C hrc, pre_at (as := .inl (some q) :: as) C⟩ rfl rfl hl.1 (by show List.map (tr G) (as.reverse ++ .inl (some q) :: r) = _; rw [List.map_append, List.map_reverse]; rfl) (lv_room (by rw [ctgs_sum]; exact hr)) hd q5
  · rw [hsig] at j4
    rw [List.length_map, hlen]
    exact (Option.some.inj j4).symm
theorem g_callVN {host : String} (hd : decode (mB k) pc = .ok (.invokevirtual i, 3)) (hn : nx = pc + 3) (hj : mOK j) (hst : Jvm.Cond.instanceMethod (mY j) ∈ goods) (hsel : Jvm.Cond.selects (mY j).cls (mY j) (mY j) ∈ goods) (hlk : Jvm.Cond.methodLinkNest (mY k).cls i (mY j) host ∈ lw_tbl) (hrc : Rcv G n q (mY j).cls) (hlen : as.length = mN j) (hr : ctgs r ≤ 8) (hz : alc j = 0)
    (h : Call G d j (.inl (some q) :: as) n F I (fun rv F' I' => match rv with
      | none => Go G (d + 1) k n0 (n + alc j) nx lv r F' I' Q
      | some w => Go G (d + 1) k n0 (n + alc j) nx lv (w :: r) F' I' Q)) : Go G (d + 1) k n0 n pc lv (as.reverse ++ .inl (some q) :: r) F I Q := by
  intro p e s m args below meth c H locs ls C hl hs
  subst hn
  obtain ⟨j1, j2, j3, j4, j5⟩ := hj
  have hnz : n + alc j ≤ n0 + alc k := by rw [hz]; exact C.n1
  obtain ⟨⟨q1, q2, q3, q4⟩, q5⟩ := room_ok (d := d) C.n0 j5 hnz
  have hok : ∀ v ∈ (.inl (some q) :: as : List pV), okV v := ok_c trivial (fun v hv => hs v (List.mem_append_left _ (List.mem_reverse.mpr hv)))
  have hM := h hok
  refine back_to C hl (fun v hv => hs v (List.mem_append_right _ (List.mem_cons_of_mem _ hv))) hnz (arr := ((.inl (some q) :: as : List pV).map (tr G)).toArray) ?_
  refine va_runVN (As := as.map (tr G)) (Ts := goods) (nL := mL k) (C := (mY j).cls) (b := ad G q) (host := host) ⟨C.1, C.2.1, C.2.2.2.2.1, C.own, C.hts⟩ hM ⟨⟨⟨q1, q2, q3, q4, ws_later C.hts j1, List.mem_cons_self⟩, C.hts _ j1, C.hts _ j2, j3, fun sig hsig => ?_, va_Nw.use rfl (C.kx.nest _ hlk rfl)⟩, C.hts _ hst, C.hts _ hsel⟩ ⟨Pc_blind G _ n F I, rcv_at C hrc, pre_at (as := .inl (some q) :: as) C⟩ rfl rfl hl.1 (by show List.map (tr G) (as.reverse ++ .inl (some q) :: r) = _; rw [List.map_append, List.map_reverse]; rfl) (lv_room (by rw [ctgs_sum]; exact hr)) hd q5
  · rw [hsig] at j4
    rw [List.length_map, hlen]
    exact (Option.some.inj j4).symm
theorem g_callI (hd : decode (mB k) pc = .ok (.invokespecial i, 3)) (hn : nx = pc + 3) (hj : mOK j) (hnm : (mY j).name = "<init>") (hret : mR j = none) (hst : Jvm.Cond.instanceMethod (mY j) ∈ goods) (hlk : Jvm.Cond.methodLink (mY k).cls i (mY j) ∈ goods) (hlen : as.length = mN j) (hr : ctgs r ≤ 8) (hnz : n + alc j ≤ n0 + alc k)
    (h : Call G d j (.inl (some q) :: as) n F I (fun rv F' I' => match rv with
      | none => Go G (d + 1) k n0 (n + alc j) nx lv r F' I' Q
      | some w => Go G (d + 1) k n0 (n + alc j) nx lv (w :: r) F' I' Q)) : Go G (d + 1) k n0 n pc lv (as.reverse ++ .inl (some q) :: r) F I Q := by
  intro p e s m args below meth c H locs ls C hl hs
  subst hn
  obtain ⟨j1, j2, j3, j4, j5⟩ := hj
  obtain ⟨⟨q1, q2, q3, q4⟩, q5⟩ := room_ok (d := d) C.n0 j5 hnz
  have hok : ∀ v ∈ (.inl (some q) :: as : List pV), okV v := ok_c trivial (fun v hv => hs v (List.mem_append_left _ (List.mem_reverse.mpr hv)))
  have hM := h hok
  refine back_to C hl (fun v hv => hs v (List.mem_append_right _ (List.mem_cons_of_mem _ hv))) hnz (arr := ((.inl (some q) :: as : List pV).map (tr G)).toArray) ?_
  have hcode : Jvm.Cond.code (mY j) (mB j) (mL j) none ∈ mW j := by rw [← hret]; exact List.mem_cons_self
  refine va_runI (As := as.map (tr G)) (Ts := goods) (nL := mL k) (b := ad G q) (bytes := mB j) (maxL := mL j) ⟨C.1, C.2.1, C.2.2.2.2.1, C.own, C.hts⟩ hM ⟨⟨q1, q2, q3, q4, ws_later C.hts j1, hcode, by rw [← hret]; exact C.hts _ j1, C.hts _ j2, j3, fun sig hsig => ?_, C.hts _ hlk⟩, hnm, C.hts _ hst⟩ ⟨Pc_blind G _ n F I, pre_at (as := .inl (some q) :: as) C⟩ rfl rfl hl.1 (by show List.map (tr G) (as.reverse ++ .inl (some q) :: r) = _; rw [List.map_append, List.map_reverse]; rfl) (lv_room (by rw [ctgs_sum]; exact hr)) hd q5
  · rw [hsig] at j4
    rw [List.length_map, hlen]
    exact (Option.some.inj j4).symm
theorem g_callIN {host : String} (hd : decode (mB k) pc = .ok (.invokespecial i, 3)) (hn : nx = pc + 3) (hj : mOK j) (hnm : (mY j).name = "<init>") (hret : mR j = none) (hst : Jvm.Cond.instanceMethod (mY j) ∈ goods) (hlk : Jvm.Cond.methodLinkNest (mY k).cls i (mY j) host ∈ lw_tbl) (hlen : as.length = mN j) (hr : ctgs r ≤ 8) (hnz : n + alc j ≤ n0 + alc k)
    (h : Call G d j (.inl (some q) :: as) n F I (fun rv F' I' => match rv with
      | none => Go G (d + 1) k n0 (n + alc j) nx lv r F' I' Q
      | some w => Go G (d + 1) k n0 (n + alc j) nx lv (w :: r) F' I' Q)) : Go G (d + 1) k n0 n pc lv (as.reverse ++ .inl (some q) :: r) F I Q := by
  intro p e s m args below meth c H locs ls C hl hs
  subst hn
  obtain ⟨j1, j2, j3, j4, j5⟩ := hj
  obtain ⟨⟨q1, q2, q3, q4⟩, q5⟩ := room_ok (d := d) C.n0 j5 hnz
  have hok : ∀ v ∈ (.inl (some q) :: as : List pV), okV v := ok_c trivial (fun v hv => hs v (List.mem_append_left _ (List.mem_reverse.mpr hv)))
  have hM := h hok
  refine back_to C hl (fun v hv => hs v (List.mem_append_right _ (List.mem_cons_of_mem _ hv))) hnz (arr := ((.inl (some q) :: as : List pV).map (tr G)).toArray) ?_
  have hcode : Jvm.Cond.code (mY j) (mB j) (mL j) none ∈ mW j := by rw [← hret]; exact List.mem_cons_self
  refine va_runIN (As := as.map (tr G)) (Ts := goods) (nL := mL k) (b := ad G q) (host := host) (bytes := mB j) (maxL := mL j) ⟨C.1, C.2.1, C.2.2.2.2.1, C.own, C.hts⟩ hM ⟨⟨⟨q1, q2, q3, q4, ws_later C.hts j1, hcode⟩, by rw [← hret]; exact C.hts _ j1, C.hts _ j2, j3, fun sig hsig => ?_, va_Nw.use rfl (C.kx.nest _ hlk rfl)⟩, hnm, C.hts _ hst⟩ ⟨Pc_blind G _ n F I, pre_at (as := .inl (some q) :: as) C⟩ rfl rfl hl.1 (by show List.map (tr G) (as.reverse ++ .inl (some q) :: r) = _; rw [List.map_append, List.map_reverse]; rfl) (lv_room (by rw [ctgs_sum]; exact hr)) hd q5
  · rw [hsig] at j4
    rw [List.length_map, hlen]
    exact (Option.some.inj j4).symm
end CL
end
section
/-! returns, entries; what is checked of a table; the walking machine is right. Own work. -/
section RET
variable {G : pG} {d k n0 n pc nx a : Nat} {lv : List (Option pV)} {r : List pV} {F : pF} {I : pI} {Q : Option pV → pF → pI → Prop} {x y z : Int} {v : pV}
theorem q_end {p : Program} {e : Env} {s t : State} {m : MethodId} {args : Array Value} {meth : Method} {c : Code} {H : Heap} {locs : List Loc} {rv : Option pV} (C : Ct G d k n0 (n0 + alc k) F I p e s m args meth c H locs) (hq : Q rv F I) (hv : ∀ v, rv = some v → okV v) (ht : t.heap = H) :
    Qc G (n0 + alc k) Q args s (.returned (rv.map (tr G))) t ∧ va_F (A0 G) s t := ⟨⟨rv, F, I, rfl, hq, by rw [ht]; exact C.wd, hv⟩, C.S.F ht⟩
theorem g_iret {ty : FieldType} (hd : decode (mB k) pc = .ok (.ireturn, 1)) (hr : mR k = some ty) (hn : narrow ty (.int (Int32.ofInt x)) = .int (Int32.ofInt x)) (hz : n = n0 + alc k) (h : Q (some (.inr (.inl x))) F I) : Go G d k n0 n pc lv [.inr (.inl x)] F I Q := by
  intro p e s m args below meth c H locs ls C hl hs
  subst hz
  rw [Nat.add_sub_cancel_left]
  exact W.zret C.1 C.2.1 (by rw [C.2.2.1, hr]) hn (fun t ht hW => q_end (rv := some (.inr (.inl x))) C h (fun v e => by cases e; exact ok_h hs) ht) C.S.2.2 hd C.2.2.2.1
theorem g_lret (hd : decode (mB k) pc = .ok (.lreturn, 1)) (hr : mR k = some .long) (hz : n = n0 + alc k) (h : Q (some (.inr (.inr x))) F I) : Go G d k n0 n pc lv [.inr (.inr x)] F I Q := by
  intro p e s m args below meth c H locs ls C hl hs
  subst hz
  rw [Nat.add_sub_cancel_left]
  exact W.lret C.1 C.2.1 (by rw [C.2.2.1, hr]) (fun t ht hW => q_end (rv := some (.inr (.inr x))) C h (fun v e => by cases e; exact ok_h hs) ht) C.S.2.2 hd C.2.2.2.1
theorem g_aret {w : Option Nat} {rt : FieldType} (hd : decode (mB k) pc = .ok (.areturn, 1)) (hr : mR k = some rt) (hrt : (∃ n, rt = .object n) ∨ ∃ t, rt = .array t) (hz : n = n0 + alc k) (h : Q (some (.inl w)) F I) : Go G d k n0 n pc lv [.inl w] F I Q := by
  intro p e s m args below meth c H locs ls C hl hs
  subst hz
  rw [Nat.add_sub_cancel_left]
  have h7 : tr G (.inl w) = .null ∨ ∃ a, tr G (.inl w) = .ref a := by
    cases w with
    | none => exact Or.inl rfl
    | some w => exact Or.inr ⟨_, rfl⟩
  exact W.aret (v := tr G (.inl w)) C.1 C.2.1 (by rw [C.2.2.1, hr]) hrt h7 (fun t ht hW => q_end (rv := some (.inl w)) C h (fun v e => by cases e; trivial) ht) C.S.2.2 hd C.2.2.2.1
theorem g_vret (hd : decode (mB k) pc = .ok (.return_, 1)) (hr : mR k = none) (hz : n = n0 + alc k) (h : Q none F I) : Go G d k n0 n pc lv [] F I Q := by
  intro p e s m args below meth c H locs ls C hl hs
  subst hz
  rw [Nat.add_sub_cancel_left]
  exact W.vret C.1 C.2.1 (by rw [C.2.2.1, hr]) (fun t ht hW => q_end (rv := none) C h (fun v e => by cases e) ht) C.S.2.2 hd C.2.2.2.1
theorem lvA_sl (G : pG) : ∀ as : List pV, (lg_sl (as.map (tr G))).length = (lvA as).length
  | [] => rfl
  | .inr (.inr z) :: t => by
    have := lvA_sl G t
    show (Slot.val _ :: Slot.second :: lg_sl (t.map (tr G))).length = _
    simp [lvA, this]
  | .inr (.inl z) :: t => by
    have := lvA_sl G t
    show (Slot.val _ :: lg_sl (t.map (tr G))).length = _
    simp [lvA, this]
  | .inl none :: t => by
    have := lvA_sl G t
    show (Slot.val _ :: lg_sl (t.map (tr G))).length = _
    simp [lvA, this]
  | .inl (some q) :: t => by
    have := lvA_sl G t
    show (Slot.val _ :: lg_sl (t.map (tr G))).length = _
    simp [lvA, this]
theorem lvA_in (G : pG) : ∀ (as : List pV) (j i : Nat) (w : pV), (lvA as)[i]? = some (some w) → w ∈ as ∧ (j + i, tr G w) ∈ lv_args j (as.map (tr G))
  | [], j, i, w, h => by simp [lvA] at h
  | .inr (.inr z) :: t, j, 0, w, h => by
    have h : some (some (Sum.inr (Sum.inr z))) = some (some w) := h
    cases h
    exact ⟨List.mem_cons_self, List.mem_cons_self⟩
  | .inr (.inr z) :: t, j, 1, w, h => by
    have h : some none = some (some w) := h
    cases h
  | .inr (.inr z) :: t, j, i + 2, w, h => by
    obtain ⟨h1, h2⟩ := lvA_in G t (j + 2) i w h
    refine ⟨List.mem_cons_of_mem _ h1, List.mem_cons_of_mem _ ?_⟩
    show (j + (i + 2), tr G w) ∈ lv_args (j + 2) (t.map (tr G))
    rw [show j + (i + 2) = j + 2 + i by omega]
    exact h2
  | .inr (.inl z) :: t, j, 0, w, h => by
    have h : some (some (Sum.inr (Sum.inl z))) = some (some w) := h
    cases h
    exact ⟨List.mem_cons_self, List.mem_cons_self⟩
  | .inr (.inl z) :: t, j, i + 1, w, h => by
    obtain ⟨h1, h2⟩ := lvA_in G t (j + 1) i w h
    refine ⟨List.mem_cons_of_mem _ h1, List.mem_cons_of_mem _ ?_⟩
    show (j + (i + 1), tr G w) ∈ lv_args (j + 1) (t.map (tr G))
    rw [show j + (i + 1) = j + 1 + i by omega]
    exact h2
  | .inl r :: t, j, 0, w, h => by
    have h : some (some (Sum.inl r)) = some (some w) := h
    cases h
    exact ⟨List.mem_cons_self, List.mem_cons_self⟩
  | .inl r :: t, j, i + 1, w, h => by
    obtain ⟨h1, h2⟩ := lvA_in G t (j + 1) i w h
    refine ⟨List.mem_cons_of_mem _ h1, List.mem_cons_of_mem _ ?_⟩
    show (j + (i + 1), tr G w) ∈ lv_args (if (tr G (.inl r)).category = 2 then j + 2 else j + 1) (t.map (tr G))
    rw [if_neg (by rw [ctg_tr]; show ¬ 1 = 2; omega), show j + (i + 1) = j + 1 + i by omega]
    exact h2
theorem lvN_none : ∀ (c i : Nat) (w : pV), (lvN c)[i]? ≠ some (some w)
  | 0, i, w => by simp [lvN]
  | c + 1, 0, w => by simp [lvN]
  | c + 1, i + 1, w => by simpa [lvN] using lvN_none c i w
theorem lvN_len : ∀ c, (lvN c).length = c
  | 0 => rfl
  | c + 1 => by simp [lvN, lvN_len c]
/-- the locals with which a method begins -/
def lvE (k : Nat) (as : List pV) : List (Option pV) := lvA as ++ lvN (mL k - (lvA as).length)
theorem Call_Go {as : List pV} (hj : mOK k) (hpl : plainFor (mY k) = true) (hin : mK k = 2 → (mY k).name = "<init>") (hlen : (lvA as).length ≤ mL k) (h : Go G d k n n 0 (lvE k as) [] F I Q) : Call G d k as n F I Q := by
  intro hok
  refine va_MetF (cc := mB k) (maxL := mL k) (ret := mR k) (ws' := goods) hpl rfl ?_
  intro p e s m args below meth c s₁ B hml hv
  obtain ⟨rfl, hX, hW⟩ := hv
  have hts : ∀ w ∈ mW k, w.before ((as.map (tr G)).toArray) s = true := atoms_spec (ws := mW k) B.pre
  have hown : s.vm.findClass (mY k).cls = some m.cls := findClass_of_methodNamed B.named
  have hC : Ct G d k n n F I p e s m ((as.map (tr G)).toArray) meth c s.heap [] :=
    ⟨B.exec, B.bytes, B.returns, B.notSynchronized, hml, hown, fun w hw => hts w (List.mem_cons_of_mem _ hw), fun hk => (name_of_methodNamed B.named B.method).1.trans (hin hk), hX, hW.1, Nat.le_refl _, Nat.le_add_right _ _, hW, va_S.rf⟩
  have hl := lv_entry (as.map (tr G)) (n := mL k) (by rw [lvA_sl]; exact hlen)
  rw [lg_entry_eq]
  generalize (lg_sl (as.map (tr G)) ++ List.replicate (mL k - (lg_sl (as.map (tr G))).length) Slot.unset).toArray = ls at hl ⊢
  have hH : Hs G k ls (lvE k as) := by
    refine ⟨hl.1, hl.2.1, ?_, fun i w hw => ?_⟩
    · unfold lvE
      rw [List.length_append, lvN_len]
      omega
    · unfold lvE at hw
      by_cases hi : i < (lvA as).length
      · rw [List.getElem?_append_left hi] at hw
        obtain ⟨h1, h2⟩ := lvA_in G as 0 i w hw
        rw [Nat.zero_add] at h2
        exact ⟨hok w h1, hl.2.2 _ h2⟩
      · rw [List.getElem?_append_right (by omega)] at hw
        exact absurd hw (lvN_none _ _ w)
  have := h p e s m _ below meth c s.heap [] ls hC hH (fun v hv => by cases hv)
  rw [Nat.sub_self, Nat.sub_self] at this
  exact this
end RET
def v32 (v : pV) (c : Int32) : Bool := match v with
  | .inr (.inl x) => decide (c = Int32.ofInt x) && (decide (-2147483648 ≤ x) && decide (x < 2147483648))
  | _ => false
def v64 (v : pV) (c : Int64) : Bool := match v with
  | .inr (.inr x) => decide (c = Int64.ofInt x) && (decide (-9223372036854775808 ≤ x) && decide (x < 9223372036854775808))
  | _ => false
theorem v32_ok {v : pV} {c : Int32} (h : v32 v c = true) : ∃ x, v = .inr (.inl x) ∧ c = Int32.ofInt x ∧ iR x := by
  unfold v32 at h
  split at h
  next x =>
    simp only [Bool.and_eq_true, decide_eq_true_eq] at h
    exact ⟨x, rfl, h.1, h.2⟩
  next => cases h
theorem v64_ok {v : pV} {c : Int64} (h : v64 v c = true) : ∃ x, v = .inr (.inr x) ∧ c = Int64.ofInt x ∧ lR x := by
  unfold v64 at h
  split at h
  next x =>
    simp only [Bool.and_eq_true, decide_eq_true_eq] at h
    exact ⟨x, rfl, h.1, h.2⟩
  next => cases h
def tsw (pc : Nat) (lo : Int) : List Int → List (Int × Nat)
  | [] => []
  | o :: r => (lo, ((pc : Int) + o).toNat) :: tsw pc (lo + 1) r
def chkI (k pc : Nat) (e : pE) : Bool := match e with
  | (ins, nx, a, b, h, f, z, v, sw) => match ins with
  | .iconst i => decide (nx = pc + 1) && v32 v (Int32.ofInt i)
  | .bipush i => decide (nx = pc + 2) && v32 v (Int8.ofInt i).toInt32
  | .sipush i => decide (nx = pc + 3) && v32 v (Int16.ofInt i).toInt32
  | .lconst i => decide (nx = pc + 1) && v64 v (Int64.ofNat (i : Nat))
  | .ldc i => decide (nx = pc + 2) && (match f with
    | 1 => decide (a < 18) && (decide (dA SDT h = some (mO k, i, a)) && decide (v = .inl (some (EXT + 10 + a))))
    | _ => (match v with
      | .inr (.inl x) => (decide (-2147483648 ≤ x) && decide (x < 2147483648)) && decide (dA CDT h = some (mO k, i, x))
      | _ => false))
  | .ldc_w i => decide (nx = pc + 3) && (match v with
      | .inr (.inl x) => (decide (-2147483648 ≤ x) && decide (x < 2147483648)) && decide (dA CDT h = some (mO k, i, x))
      | _ => false)
  | .ldc2_w i => decide (nx = pc + 3) && (match v with
      | .inr (.inr x) => (decide (-9223372036854775808 ≤ x) && decide (x < 9223372036854775808)) && decide (dA CLT h = some (mO k, i, x))
      | _ => false)
  | .aconst_null => decide (nx = pc + 1)
  | .iload_n i => decide (nx = pc + 1) && decide ((i : Nat) = a)
  | .lload_n i => decide (nx = pc + 1) && decide ((i : Nat) = a)
  | .aload_n i => decide (nx = pc + 1) && decide ((i : Nat) = a)
  | .iload i => decide (nx = pc + 2) && decide (i = a)
  | .lload i => decide (nx = pc + 2) && decide (i = a)
  | .aload i => decide (nx = pc + 2) && decide (i = a)
  | .istore_n i => decide (nx = pc + 1) && (decide ((i : Nat) = a) && decide (a < mL k))
  | .astore_n i => decide (nx = pc + 1) && (decide ((i : Nat) = a) && decide (a < mL k))
  | .lstore_n i => decide (nx = pc + 1) && (decide ((i : Nat) = a) && decide (a + 1 < mL k))
  | .istore i => decide (nx = pc + 2) && (decide (i = a) && decide (a < mL k))
  | .astore i => decide (nx = pc + 2) && (decide (i = a) && decide (a < mL k))
  | .lstore i => decide (nx = pc + 2) && (decide (i = a) && decide (a + 1 < mL k))
  | .iinc i c => decide (nx = pc + 3) && (decide (i = a) && (decide (a < mL k) && decide (v = .inr (.inl c))))
  | .goto off => decide (nx = pc + 3) && decide ((pc : Int) + off = (a : Int))
  | .if_icmp _ off => decide (nx = pc + 3) && decide ((pc : Int) + off = (a : Int))
  | .ifCond _ off => decide (nx = pc + 3) && decide ((pc : Int) + off = (a : Int))
  | .ifnull off => decide (nx = pc + 3) && decide ((pc : Int) + off = (a : Int))
  | .ifnonnull off => decide (nx = pc + 3) && decide ((pc : Int) + off = (a : Int))
  | .tableswitch df lo hi offs => decide ((pc : Int) + df = (a : Int)) && (decide (sw = tsw pc lo offs.toList) && (decide (hi + 1 = lo + (offs.toList.length : Int)) && (offs.toList.all (fun o => decide (0 ≤ (pc : Int) + o)) && (decide (-2147483648 ≤ lo) && decide (hi < 2147483648)))))
  | .lookupswitch df ps => decide ((pc : Int) + df = (a : Int)) && (decide (ps.toList.map (fun q => (q.1, ((pc : Int) + q.2).toNat)) = sw) && ((ps.toList.zip (ps.toList.drop 1)).all (fun (a, next) => a.1 < next.1) && ps.toList.all (fun q => decide (0 ≤ (pc : Int) + q.2))))
  | .getstatic i => decide (nx = pc + 3) && (match a with
    | 1 => decide (v = .inl (some (EXT + 1))) && decide (dA SPT h = some (mO k, i, 1))
    | 2 => decide (v = .inl (some (EXT + 2))) && decide (dA SPT h = some (mO k, i, 2))
    | 3 => decide (v = .inr (.inl 1)) && decide (dA SPT h = some (mO k, i, 3))
    | 4 => decide (dA SPT h = some (mO k, i, 4))
    | _ => false)
  | .getfield i => decide (nx = pc + 3) && (match f with
    | 6 => decide (dA SPT h = some (mO k, i, 5))
    | 7 => decide (dA SPT h = some (mO k, i, 6))
    | 0 => decide (a < 13) && (decide (b < clN a) && (decide (frf a b = false) && decide (dA FDT h = some (mO k, i, a, b))))
    | 2 => decide (a < 13) && (decide (b < clN a) && (decide (frf a b = false) && decide (dA FDT h = some (mO k, i, a, b))))
    | 1 => decide (a < 13) && (decide (b < clN a) && (decide (frf a b = false) && decide (dA FNT h = some (mO k, i, a, b))))
    | 3 => decide (a < 13) && (decide (b < clN a) && (decide (frf a b = false) && decide (dA FNT h = some (mO k, i, a, b))))
    | 4 => decide (a < 13) && (decide (b < clN a) && (decide (frf a b = true) && decide (dA FDT h = some (mO k, i, a, b))))
    | 5 => decide (a < 13) && (decide (b < clN a) && (decide (frf a b = true) && decide (dA FNT h = some (mO k, i, a, b))))
    | _ => false)
  | .putfield i => decide (nx = pc + 3) && (decide (a < 13) && (decide (b < clN a) && (match f with
    | 0 => decide (frf a b = false) && (decide ((clT a b).2.2.2 = false) && (decide (tyF a b = .int) && decide (dA FDT h = some (mO k, i, a, b))))
    | 1 => decide (frf a b = false) && (decide ((clT a b).2.2.2 = false) && (decide (tyF a b = .int) && decide (dA FNT h = some (mO k, i, a, b))))
    | 2 => decide (frf a b = false) && (decide ((clT a b).2.2.2 = false) && (decide (tyF a b = .boolean) && decide (dA FDT h = some (mO k, i, a, b))))
    | 3 => decide (frf a b = false) && (decide ((clT a b).2.2.2 = false) && (decide (tyF a b = .boolean) && decide (dA FNT h = some (mO k, i, a, b))))
    | 4 => decide (frf a b = true) && (decide ((clT a b).2.2.2 = false) && (isR (tyF a b) && decide (dA FDT h = some (mO k, i, a, b))))
    | 14 => decide (frf a b = true) && (decide ((clT a b).2.2.2 = true) && (isR (tyF a b) && (decide (mK k = 2) && (decide (mO k = a) && decide (dA FDT h = some (mO k, i, a, b))))))
    | _ => false)))
  | .new i => decide (nx = pc + 3) && (decide (a < 13) && decide (dA LDT h = some (mO k, i, a)))
  | .newarray t => decide (nx = pc + 2) && ((decide (t = .int) && decide (a = 100)) || (decide (t = .byte) && decide (a = 101)))
  | .anewarray i => decide (nx = pc + 3) && (decide (a ∈ [204, 205, 207, 299]) && decide (dA LDT h = some (mO k, i, a)))
  | .invokestatic i => decide (nx = pc + 3) && (match f with
    | 99 => decide (dA SPT h = some (mO k, i, 7))
    | 0 => decide (a < NM) && (decide (b = mN a) && (decide (alc a = 0) && (decide (mK a = 0) && decide (dA MDT h = some (mO k, i, a)))))
    | 1 => decide (a < NM) && (decide (b = mN a) && (decide (alc a = 0) && (decide (mK a = 0) && decide (dA MNT h = some (mO k, i, a)))))
    | _ => false)
  | .invokevirtual i => decide (nx = pc + 3) && (decide (a < NM) && (decide (b = mN a) && (decide (alc a = 0) && (decide (mK a = 1) && ((match v with
    | .inl (some c) => bif Nat.beq c 130 then decide (mO a = 14) else decide (c < 13) && decide (mO a = c)
    | _ => false) && (match f with
    | 2 => decide (dA MDT h = some (mO k, i, a))
    | 3 => decide (dA MNT h = some (mO k, i, a))
    | _ => false))))))
  | .invokespecial i => decide (nx = pc + 3) && (match f with
    | 98 => decide (dA SPT h = some (mO k, i, 8))
    | 4 => decide (a < NM) && (decide (b = mN a) && (decide (alc a = z) && (decide (mK a = 2) && decide (dA MDT h = some (mO k, i, a)))))
    | 5 => decide (a < NM) && (decide (b = mN a) && (decide (alc a = z) && (decide (mK a = 2) && decide (dA MNT h = some (mO k, i, a)))))
    | _ => false)
  | .ireturn => decide (nx = pc + 1) && (match f with
    | 0 => decide (mR k = some .int)
    | 1 => decide (mR k = some .boolean)
    | 2 => decide (mR k = some .char)
    | _ => decide (mR k = some .byte))
  | .lreturn => decide (nx = pc + 1) && decide (mR k = some .long)
  | .areturn => decide (nx = pc + 1) && (match mR k with
    | some (.object _) => true
    | some (.array _) => true
    | _ => false)
  | .return_ => decide (nx = pc + 1) && decide (mR k = none)
  | _ => decide (nx = pc + 1)
def chkE (k pc : Nat) (e : pE) : Bool := decide (decode (mB k) pc = .ok (e.1, e.2.1 - pc)) && chkI k pc e
def chkT (k : Nat) (t : pT) : Bool := t.all (fun ch => ch.all (fun q => chkE k q.1 q.2))
theorem pf_mem : ∀ {l : List (Nat × pE)} {pc : Nat} {e : pE}, pf l pc = some e → (pc, e) ∈ l
  | [], pc, e, h => by simp [pf] at h
  | (q, e0) :: t, pc, e, h => by
    unfold pf at h
    cases hq : Nat.beq q pc with
    | true =>
      rw [hq] at h
      have h : some e0 = some e := h
      cases h
      have := Nat.eq_of_beq_eq_true hq
      subst this
      exact List.mem_cons_self
    | false =>
      rw [hq] at h
      exact List.mem_cons_of_mem _ (pf_mem h)
theorem pg_mem : ∀ {t : pT} {i : Nat} {q : Nat × pE}, q ∈ pg t i → ∃ ch ∈ t, q ∈ ch
  | [], i, q, h => by simp [pg] at h
  | c :: t, 0, q, h => ⟨c, List.mem_cons_self, h⟩
  | c :: t, i + 1, q, h => by
    obtain ⟨ch, h1, h2⟩ := pg_mem (t := t) (i := i) h
    exact ⟨ch, List.mem_cons_of_mem _ h1, h2⟩
theorem pAt_chk {k pc : Nat} {t : pT} {e : pE} (hc : chkT k t = true) (h : pAt t pc = some e) : chkE k pc e = true := by
  obtain ⟨ch, h1, h2⟩ := pg_mem (pf_mem h)
  exact List.all_eq_true.mp (List.all_eq_true.mp hc ch h1) (pc, e) h2
end
section
/-! the walking machine is right: what wp says of a stretch of code holds of the machine. Own work (rows laid by wip/pm/gen9.py). -/
theorem b2 {a b : Bool} (h : (a && b) = true) : a = true ∧ b = true := by simpa using h
theorem dt {p : Prop} [Decidable p] (h : decide p = true) : p := of_decide_eq_true h
theorem j_ok {j : Nat} (h : j < NM) : mOK j := by
  obtain ⟨⟨h1, h2, h3, h4⟩, -⟩ := jAll j h
  obtain ⟨h5, h6⟩ := mO_lt j h
  have h7 := oC_ne _ h5
  rw [h3] at h7
  exact ⟨h1, h2, h7, h4, h6⟩
theorem j_s {j : Nat} (h : j < NM) (hk : mK j = 0) : Jvm.Cond.static (mY j) ∈ goods := by
  rcases (jAll j h).2 with ⟨_, g⟩ | ⟨e, _⟩ | ⟨e, _⟩
  · exact g
  · omega
  · omega
theorem j_v {j : Nat} (h : j < NM) (hk : mK j = 1) : Jvm.Cond.instanceMethod (mY j) ∈ goods ∧ Jvm.Cond.selects (mY j).cls (mY j) (mY j) ∈ goods := by
  rcases (jAll j h).2 with ⟨e, _⟩ | ⟨_, g⟩ | ⟨e, _⟩
  · omega
  · exact g
  · omega
theorem j_i {j : Nat} (h : j < NM) (hk : mK j = 2) : Jvm.Cond.instanceMethod (mY j) ∈ goods ∧ (mY j).name = "<init>" ∧ mR j = none := by
  rcases (jAll j h).2 with ⟨e, _⟩ | ⟨e, _⟩ | ⟨_, g⟩
  · omega
  · omega
  · exact g
theorem j_o {j : Nat} (h : j < NM) : oC (mO j) = (mY j).cls := (jAll j h).1.2.2.1
theorem j_pn {j : Nat} (h : j < NM) : plainFor (mY j) = true := j_pl h (mO_lt j h).1 (j_o h)

theorem ins_all : ∀ a, a < 13 → Jvm.Cond.instantiable (clC a) (clN a) ∈ goods := c13 ins_0 ins_1 ins_2 ins_3 ins_4 ins_5 ins_6 ins_7 ins_8 ins_9 ins_10 ins_11 ins_12
theorem ini_all : ∀ a, a < 13 → Jvm.Cond.initialized (clC a) ∈ goods := c13 ini_0 ini_1 ini_2 ini_3 ini_4 ini_5 ini_6 ini_7 ini_8 ini_9 ini_10 ini_11 ini_12
theorem lay_m : ∀ q, (lay q).2 < 100000 := by
  intro q
  by_cases h : q < 256
  · have : ∀ q, q < 256 → (lay q).2 < 100000 := by decide +kernel
    exact this q h
  · rw [lay_big (by omega)]
    decide
theorem popN_spec {k : List pV → List pV → Prop} : ∀ (c : Nat) (st acc : List pV), popN c st acc k → ∃ as r, as.length = c ∧ st = as.reverse ++ r ∧ k (as ++ acc) r
  | 0, st, acc, h => ⟨[], st, rfl, rfl, h⟩
  | c + 1, [], acc, h => h.elim
  | c + 1, x :: t, acc, h => by
    obtain ⟨as, r, h1, h2, h3⟩ := popN_spec c t (x :: acc) h
    exact ⟨as ++ [x], r, by simp [h1], by simp [h2], by simpa using h3⟩
theorem swp_spec {x : Int} {d : Nat} {K : Nat → Prop} : ∀ {l : List (Int × Nat)}, swp x d K l → (∃ v t, (v, t) ∈ l ∧ x = v ∧ K t) ∨ ((∀ q ∈ l, x ≠ q.1) ∧ K d)
  | [], h => Or.inr ⟨fun q hq => by (cases hq), h⟩
  | (v, t) :: r, h => by
    by_cases hx : x = v
    · exact Or.inl ⟨v, t, List.mem_cons_self, hx, h.1 hx⟩
    · rcases swp_spec (h.2 hx) with ⟨v', t', h1, h2, h3⟩ | ⟨h1, h2⟩
      · exact Or.inl ⟨v', t', List.mem_cons_of_mem _ h1, h2, h3⟩
      · refine Or.inr ⟨fun q hq => ?_, h2⟩
        rcases List.mem_cons.mp hq with rfl | hq
        · exact hx
        · exact h1 q hq
theorem tsw_mem {pc : Nat} : ∀ {l : List Int} {lo v : Int} {t : Nat}, (v, t) ∈ tsw pc lo l → ∃ (j : Nat) (o : Int), l[j]? = some o ∧ v = lo + (j : Int) ∧ t = ((pc : Int) + o).toNat
  | [], lo, v, t, h => by (cases h)
  | o :: r, lo, v, t, h => by
    rcases List.mem_cons.mp h with h | h
    · cases h
      exact ⟨0, o, rfl, by simp, rfl⟩
    · obtain ⟨j, o', h1, h2, h3⟩ := tsw_mem h
      exact ⟨j + 1, o', by simpa using h1, by rw [h2]; push_cast; omega, h3⟩
theorem mem_tsw {pc : Nat} : ∀ {l : List Int} {lo : Int} {j : Nat}, j < l.length → ∃ t, (lo + (j : Int), t) ∈ tsw pc lo l
  | [], lo, j, h => by simp at h
  | o :: r, lo, 0, h => ⟨((pc : Int) + o).toNat, by simp [tsw]⟩
  | o :: r, lo, j + 1, h => by
    obtain ⟨t, ht⟩ := mem_tsw (pc := pc) (l := r) (lo := lo + 1) (j := j) (by simpa using h)
    refine ⟨t, List.mem_cons_of_mem _ ?_⟩
    rw [show lo + ((j + 1 : Nat) : Int) = lo + 1 + (j : Int) by push_cast; omega]
    exact ht
section MAIN
variable {G : pG} {d k n0 n pc nx a b : Nat} {lv : List (Option pV)} {st r : List pV} {F : pF} {I : pI} {Q : Option pV → pF → pI → Prop} {x : Int} {sw : List (Int × Nat)}
theorem g_tab {df lo hi : Int} {offs : Array Int} {len : Nat} (hd : decode (mB k) pc = .ok (.tableswitch df lo hi offs, len)) (h1 : (pc : Int) + df = (a : Int)) (h2 : sw = tsw pc lo offs.toList) (h3 : hi + 1 = lo + (offs.toList.length : Int)) (h4 : ∀ o ∈ offs.toList, 0 ≤ (pc : Int) + o)
    (h : swp x a (fun t => Go G d k n0 n t lv r F I Q) sw) : Go G d k n0 n pc lv (.inr (.inl x) :: r) F I Q := by
  subst h2
  intro p e s m args below meth c H locs ls C hl hs
  have hx : iR x := ok_h hs
  rcases swp_spec h with ⟨v, t, g1, g2, g3⟩ | ⟨g1, g2⟩
  · obtain ⟨j, o, e1, e2, e3⟩ := tsw_mem g1
    have e4 := h4 o (List.mem_of_getElem? e1)
    have hj : j < offs.toList.length := (List.getElem?_eq_some_iff.mp e1).1
    refine lv_tableIn (x := Int32.ofInt x) (off := o) (tgt := t) C.1 C.2.1 hd (by rw [tI hx]; omega) (by rw [tI hx]; omega) ?_ (by rw [e3]; omega) (g3 p e s m args below meth c H locs ls C hl (ok_t hs))
    rw [tI hx, show (x - lo).toNat = j by omega]
    simpa using e1
  · refine lv_tableOut (x := Int32.ofInt x) (tgt := a) C.1 C.2.1 hd ?_ h1 (g2 p e s m args below meth c H locs ls C hl (ok_t hs))
    rw [tI hx]
    by_cases q1 : x < lo
    · exact Or.inl q1
    · by_cases q2 : hi < x
      · exact Or.inr q2
      · exfalso
        obtain ⟨t, ht⟩ := mem_tsw (pc := pc) (l := offs.toList) (lo := lo) (j := (x - lo).toNat) (by omega)
        refine g1 _ ht ?_
        show x = lo + ((x - lo).toNat : Int)
        omega
theorem lk_off {pc : Nat} {df : Int} {x : Int} : ∀ {l : List (Int × Int)} {P : Nat → Prop}, (∀ q ∈ l, 0 ≤ (pc : Int) + q.2) → (pc : Int) + df = (a : Int) → swp x a P (l.map (fun q => (q.1, ((pc : Int) + q.2).toNat))) → ∃ t, P t ∧ (pc : Int) + Op.lookupswitch.offset l df x = (t : Int)
  | [], P, h1, h2, h3 => ⟨a, h3, h2⟩
  | (v, o) :: l, P, h1, h2, h3 => by
    rw [Op.lookupswitch.offset_cons]
    have h4 := h1 (v, o) List.mem_cons_self
    by_cases hx : x = v
    · rw [if_pos hx.symm]
      refine ⟨((pc : Int) + o).toNat, h3.1 hx, ?_⟩
      simp only at h4
      omega
    · rw [if_neg (fun z => hx z.symm)]
      exact lk_off (fun q hq => h1 q (List.mem_cons_of_mem _ hq)) h2 (h3.2 hx)
theorem g_lks {df : Int} {ps : Array (Int × Int)} {len : Nat} (hd : decode (mB k) pc = .ok (.lookupswitch df ps, len)) (h1 : (pc : Int) + df = (a : Int)) (h2 : ps.toList.map (fun q => (q.1, ((pc : Int) + q.2).toNat)) = sw) (h3 : (ps.toList.zip (ps.toList.drop 1)).all (fun (a, next) => a.1 < next.1) = true) (h4 : ∀ q ∈ ps.toList, 0 ≤ (pc : Int) + q.2)
    (h : swp x a (fun t => Go G d k n0 n t lv r F I Q) sw) : Go G d k n0 n pc lv (.inr (.inl x) :: r) F I Q := by
  subst h2
  intro p e s m args below meth c H locs ls C hl hs
  have hx : iR x := ok_h hs
  obtain ⟨t, g1, g2⟩ := lk_off h4 h1 h
  exact lv_lookup (x := Int32.ofInt x) (tgt := t) C.1 C.2.1 hd h3 rfl (by rw [tI hx]; exact g2) (g1 p e s m args below meth c H locs ls C hl (ok_t hs))
theorem swp_mono {P P' : Nat → Prop} (hp : ∀ t, P t → P' t) : ∀ {l : List (Int × Nat)}, swp x a P l → swp x a P' l
  | [], h => hp _ h
  | (v, t) :: r, h => ⟨fun z => hp _ (h.1 z), fun z => swp_mono hp (h.2 z)⟩
theorem br_mono {c : Jvm.ClassFile.Cond} {x y : Int} {P P' R R' : Prop} (h1 : P → P') (h2 : R → R') (h : br c x y P R) : br c x y P' R' := by
  cases c <;> exact ⟨fun z => h1 (h.1 z), fun z => h2 (h.2 z)⟩
theorem ls1_mono {P P' : List (Option pV) → Prop} (hp : ∀ t, P t → P' t) {v : pV} : ∀ {lv : List (Option pV)} {a : Nat}, ls1 lv a v P → ls1 lv a v P' := by
  intro lv
  induction lv generalizing P P' with
  | nil => intro a h; exact hp _ h
  | cons x t ih =>
    intro a h
    match a, h with
    | 0, h => exact hp _ h
    | 1, h =>
      match x, h with
      | none, h => exact ih (P := fun t' => P (none :: t')) (P' := fun t' => P' (none :: t')) (fun t h => hp _ h) h
      | some (.inl r), h => exact ih (P := fun t' => P (some (.inl r) :: t')) (P' := fun t' => P' (some (.inl r) :: t')) (fun t h => hp _ h) h
      | some (.inr (.inl z)), h => exact ih (P := fun t' => P (some (.inr (.inl z)) :: t')) (P' := fun t' => P' (some (.inr (.inl z)) :: t')) (fun t h => hp _ h) h
      | some (.inr (.inr z)), h => exact ih (P := fun t' => P (none :: t')) (P' := fun t' => P' (none :: t')) (fun t h => hp _ h) h
    | j + 2, h => exact ih (P := fun t' => P (x :: t')) (P' := fun t' => P' (x :: t')) (fun t h => hp _ h) h
theorem ls2_mono {P P' : List (Option pV) → Prop} (hp : ∀ t, P t → P' t) {v : pV} : ∀ {lv : List (Option pV)} {a : Nat}, ls2 lv a v P → ls2 lv a v P' := by
  intro lv
  induction lv generalizing P P' with
  | nil => intro a h; exact hp _ h
  | cons x t ih =>
    intro a h
    match a, h with
    | 0, h =>
      match t, h with
      | [], h => exact hp _ h
      | _ :: _, h => exact hp _ h
    | 1, h =>
      match x, h with
      | none, h => exact ih (P := fun t' => P (none :: t')) (P' := fun t' => P' (none :: t')) (fun t h => hp _ h) h
      | some (.inl r), h => exact ih (P := fun t' => P (some (.inl r) :: t')) (P' := fun t' => P' (some (.inl r) :: t')) (fun t h => hp _ h) h
      | some (.inr (.inl z)), h => exact ih (P := fun t' => P (some (.inr (.inl z)) :: t')) (P' := fun t' => P' (some (.inr (.inl z)) :: t')) (fun t h => hp _ h) h
      | some (.inr (.inr z)), h => exact ih (P := fun t' => P (none :: t')) (P' := fun t' => P' (none :: t')) (fun t h => hp _ h) h
    | j + 2, h => exact ih (P := fun t' => P (x :: t')) (P' := fun t' => P' (x :: t')) (fun t h => hp _ h) h
theorem Met.mono {l : Launch} {y : MethodName} {ws : List Jvm.Cond} {rm : Room} {Pc : Array Value → State → Prop} {Q1 Q2 : Array Value → State → Outcome → State → Prop} {mc ms : Nat} {free : Addr → Prop} (hq : ∀ a st o t, Q1 a st o t → Q2 a st o t) (h : Met l y ws rm Pc Q1 mc ms free) : Met l y ws rm Pc Q2 mc ms free := by
  intro p e ha hc hk s m args below hf hap hP hK
  obtain ⟨t, o, h1, h2, h3, h4, h5⟩ := h p e ha hc hk s m args below hf hap hP hK
  exact ⟨t, o, h1, h2, h3, hq _ _ _ _ h4, h5⟩
theorem Call_mono {j : Nat} {as : List pV} {Q1 Q2 : Option pV → pF → pI → Prop} (hq : ∀ r F I, Q1 r F I → Q2 r F I) (h : Call G d j as n F I Q1) : Call G d j as n F I Q2 := by
  intro hok
  refine Met.mono (fun a st o t g => ⟨?_, g.2⟩) (h hok)
  obtain ⟨r, F', I', g1, g2, g3⟩ := g.1
  exact ⟨r, F', I', g1, hq _ _ _ g2, g3⟩
end MAIN
theorem nar_by {x : Int} (h : -128 ≤ x ∧ x < 128) : narrow .byte (.int (Int32.ofInt x)) = .int (Int32.ofInt x) := by
  show Value.int (Int32.ofInt x).toInt8.toInt32 = _
  rw [n_i2b (by unfold iR; omega), show wb x = x by unfold wb; omega]
theorem nar_c {x : Int} (h : 0 ≤ x ∧ x < 65536) : narrow .char (.int (Int32.ofInt x)) = .int (Int32.ofInt x) := by
  show Value.int ((Int32.ofInt x).toUInt32 % 65536).toInt32 = _
  rw [n_i2c (by unfold iR; omega), show x % 65536 = x by omega]

section STEP
variable {G : pG} {d k n0 n pc : Nat} {lv : List (Option pV)} {st : List pV} {F : pF} {I : pI} {Q : Option pV → pF → pI → Prop} {K : Nat → List (Option pV) → List pV → Nat → pF → pI → Prop} {e : pE}
theorem oc_c {j : Nat} (h : mO j < 13) : oC (mO j) = clC (mO j) := by
  have : ∀ o, o < 13 → oC o = clC o := c13 rfl rfl rfl rfl rfl rfl rfl rfl rfl rfl rfl rfl rfl
  exact this _ h
theorem cl_dc : ∀ a, a < 13 → ∀ b, b < clN a → (clT a b).1 = clC a := by
  have h : ∀ a, a < 13 → ∀ b, b < clN a → (clT a b).1 = clC a := c13 (by decide) (by decide) (by decide) (by decide) (by decide) (by decide) (by decide) (by decide) (by decide) (by decide) (by decide) (by decide) (by decide)
  exact h
set_option maxHeartbeats 4000000 in
theorem stp_Go (ho : oC (mO k) = (mY k).cls) (hc : chkE k pc e = true) (hK : ∀ pc' lv' st' n' F' I', K pc' lv' st' n' F' I' → Go G d k n0 n' pc' lv' st' F' I' Q) (hS : stp G d k n0 e lv st n F I Q K) : Go G d k n0 n pc lv st F I Q := by
  obtain ⟨ins, nx, a, b, h, f, z, v, sw⟩ := e
  obtain ⟨hd0, hi⟩ := b2 hc
  have hd : decode (mB k) pc = .ok (ins, nx - pc) := dt hd0
  clear hd0 hc
  cases ins with
  | iconst i =>
    dsimp only [stp, chkI] at hS hi
    obtain ⟨hn, hi⟩ := b2 hi
    have hn := dt hn
    rw [show nx - pc = 1 by omega] at hd
    obtain ⟨x, rfl, h1, h2⟩ := v32_ok hi
    exact g_iconst hd hn h1 h2 (hK _ _ _ _ _ _ hS)
  | bipush i =>
    dsimp only [stp, chkI] at hS hi
    obtain ⟨hn, hi⟩ := b2 hi
    have hn := dt hn
    rw [show nx - pc = 2 by omega] at hd
    obtain ⟨x, rfl, h1, h2⟩ := v32_ok hi
    exact g_bipush hd hn h1 h2 (hK _ _ _ _ _ _ hS)
  | sipush i =>
    dsimp only [stp, chkI] at hS hi
    obtain ⟨hn, hi⟩ := b2 hi
    have hn := dt hn
    rw [show nx - pc = 3 by omega] at hd
    obtain ⟨x, rfl, h1, h2⟩ := v32_ok hi
    exact g_sipush hd hn h1 h2 (hK _ _ _ _ _ _ hS)
  | lconst i =>
    dsimp only [stp, chkI] at hS hi
    obtain ⟨hn, hi⟩ := b2 hi
    have hn := dt hn
    rw [show nx - pc = 1 by omega] at hd
    obtain ⟨x, rfl, h1, h2⟩ := v64_ok hi
    exact g_lconst hd hn h1 h2 (hK _ _ _ _ _ _ hS)
  | ldc i =>
    dsimp only [stp, chkI] at hS hi
    obtain ⟨hn, hi⟩ := b2 hi
    have hn := dt hn
    rw [show nx - pc = 2 by omega] at hd
    split at hi
    next =>
      obtain ⟨h1, hi⟩ := b2 hi
      obtain ⟨h2, h3⟩ := b2 hi
      have h4 := dA_all SD_all (dt h2)
      have h3 := dt h3
      subst h3
      exact g_ldcS hd hn (dt h1) h4.2 (h4.1.trans ho) (hK _ _ _ _ _ _ hS)
    next =>
      split at hi
      next x =>
        obtain ⟨h1, h2⟩ := b2 hi
        obtain ⟨h1, h3⟩ := b2 h1
        have h4 := dA_all CD_all (dt h2)
        unfold cWd at h4
        rw [ho] at h4
        exact g_ldc hd hn h4 ⟨dt h1, dt h3⟩ (hK _ _ _ _ _ _ hS)
      next => cases hi
  | ldc_w i =>
    dsimp only [stp, chkI] at hS hi
    obtain ⟨hn, hi⟩ := b2 hi
    have hn := dt hn
    rw [show nx - pc = 3 by omega] at hd
    split at hi
    next x =>
      obtain ⟨h1, h2⟩ := b2 hi
      obtain ⟨h1, h3⟩ := b2 h1
      have h4 := dA_all CD_all (dt h2)
      unfold cWd at h4
      rw [ho] at h4
      exact g_ldcw hd hn h4 ⟨dt h1, dt h3⟩ (hK _ _ _ _ _ _ hS)
    next => cases hi
  | ldc2_w i =>
    dsimp only [stp, chkI] at hS hi
    obtain ⟨hn, hi⟩ := b2 hi
    have hn := dt hn
    rw [show nx - pc = 3 by omega] at hd
    split at hi
    next x =>
      obtain ⟨h1, h2⟩ := b2 hi
      obtain ⟨h1, h3⟩ := b2 h1
      have h4 := dA_all CL_all (dt h2)
      unfold lWd at h4
      rw [ho] at h4
      exact g_ldc2 hd hn h4 ⟨dt h1, dt h3⟩ (hK _ _ _ _ _ _ hS)
    next => cases hi
  | aconst_null =>
    dsimp only [stp, chkI] at hS hi
    have hn := dt hi
    rw [show nx - pc = 1 by omega] at hd
    exact g_null hd hn (hK _ _ _ _ _ _ hS)
  | iload_n i =>
    dsimp only [stp, chkI] at hS hi
    obtain ⟨hn, hi⟩ := b2 hi
    have hn := dt hn
    rw [show nx - pc = 1 by omega] at hd
    split at hS
    next x hx => exact g_iload_n hd hn (dt hi) hx (hK _ _ _ _ _ _ hS)
    next => exact hS.elim
  | lload_n i =>
    dsimp only [stp, chkI] at hS hi
    obtain ⟨hn, hi⟩ := b2 hi
    have hn := dt hn
    rw [show nx - pc = 1 by omega] at hd
    split at hS
    next x hx => exact g_lload_n hd hn (dt hi) hx (hK _ _ _ _ _ _ hS)
    next => exact hS.elim
  | aload_n i =>
    dsimp only [stp, chkI] at hS hi
    obtain ⟨hn, hi⟩ := b2 hi
    have hn := dt hn
    rw [show nx - pc = 1 by omega] at hd
    split at hS
    next x hx => exact g_aload_n hd hn (dt hi) hx (hK _ _ _ _ _ _ hS)
    next => exact hS.elim
  | iload i =>
    dsimp only [stp, chkI] at hS hi
    obtain ⟨hn, hi⟩ := b2 hi
    have hn := dt hn
    rw [show nx - pc = 2 by omega] at hd
    have hi := dt hi
    subst hi
    split at hS
    next x hx => exact g_iload hd hn hx (hK _ _ _ _ _ _ hS)
    next => exact hS.elim
  | lload i =>
    dsimp only [stp, chkI] at hS hi
    obtain ⟨hn, hi⟩ := b2 hi
    have hn := dt hn
    rw [show nx - pc = 2 by omega] at hd
    have hi := dt hi
    subst hi
    split at hS
    next x hx => exact g_lload hd hn hx (hK _ _ _ _ _ _ hS)
    next => exact hS.elim
  | aload i =>
    dsimp only [stp, chkI] at hS hi
    obtain ⟨hn, hi⟩ := b2 hi
    have hn := dt hn
    rw [show nx - pc = 2 by omega] at hd
    have hi := dt hi
    subst hi
    split at hS
    next x hx => exact g_aload hd hn hx (hK _ _ _ _ _ _ hS)
    next => exact hS.elim
  | istore_n i =>
    dsimp only [stp, chkI] at hS hi
    obtain ⟨hn, hi⟩ := b2 hi
    have hn := dt hn
    rw [show nx - pc = 1 by omega] at hd
    obtain ⟨h1, h2⟩ := b2 hi
    split at hS
    next => exact g_istore_n hd hn (dt h1) (dt h2) (ls1_mono (fun _ g => hK _ _ _ _ _ _ g) hS)
    next => exact hS.elim
  | astore_n i =>
    dsimp only [stp, chkI] at hS hi
    obtain ⟨hn, hi⟩ := b2 hi
    have hn := dt hn
    rw [show nx - pc = 1 by omega] at hd
    obtain ⟨h1, h2⟩ := b2 hi
    split at hS
    next => exact g_astore_n hd hn (dt h1) (dt h2) (ls1_mono (fun _ g => hK _ _ _ _ _ _ g) hS)
    next => exact hS.elim
  | lstore_n i =>
    dsimp only [stp, chkI] at hS hi
    obtain ⟨hn, hi⟩ := b2 hi
    have hn := dt hn
    rw [show nx - pc = 1 by omega] at hd
    obtain ⟨h1, h2⟩ := b2 hi
    split at hS
    next => exact g_lstore_n hd hn (dt h1) (dt h2) (ls2_mono (fun _ g => hK _ _ _ _ _ _ g) hS)
    next => exact hS.elim
  | istore i =>
    dsimp only [stp, chkI] at hS hi
    obtain ⟨hn, hi⟩ := b2 hi
    have hn := dt hn
    rw [show nx - pc = 2 by omega] at hd
    obtain ⟨h1, h2⟩ := b2 hi
    have h1 := dt h1
    subst h1
    split at hS
    next => exact g_istore hd hn (dt h2) (ls1_mono (fun _ g => hK _ _ _ _ _ _ g) hS)
    next => exact hS.elim
  | astore i =>
    dsimp only [stp, chkI] at hS hi
    obtain ⟨hn, hi⟩ := b2 hi
    have hn := dt hn
    rw [show nx - pc = 2 by omega] at hd
    obtain ⟨h1, h2⟩ := b2 hi
    have h1 := dt h1
    subst h1
    split at hS
    next => exact g_astore hd hn (dt h2) (ls1_mono (fun _ g => hK _ _ _ _ _ _ g) hS)
    next => exact hS.elim
  | lstore i =>
    dsimp only [stp, chkI] at hS hi
    obtain ⟨hn, hi⟩ := b2 hi
    have hn := dt hn
    rw [show nx - pc = 2 by omega] at hd
    obtain ⟨h1, h2⟩ := b2 hi
    have h1 := dt h1
    subst h1
    split at hS
    next => exact g_lstore hd hn (dt h2) (ls2_mono (fun _ g => hK _ _ _ _ _ _ g) hS)
    next => exact hS.elim
  | iinc i c =>
    dsimp only [stp, chkI] at hS hi
    obtain ⟨hn, hi⟩ := b2 hi
    have hn := dt hn
    rw [show nx - pc = 3 by omega] at hd
    obtain ⟨h1, hi⟩ := b2 hi
    obtain ⟨h2, h3⟩ := b2 hi
    have h1 := dt h1
    have h3 := dt h3
    subst h1
    subst h3
    split at hS
    next x hx => exact g_iinc hd hn (dt h2) hx (ls1_mono (fun _ g => hK _ _ _ _ _ _ g) hS)
    next => exact hS.elim
  | iadd =>
    dsimp only [stp, chkI] at hS hi
    have hn := dt hi
    rw [show nx - pc = 1 by omega] at hd
    split at hS
    next => exact g_iadd hd hn (hK _ _ _ _ _ _ hS)
    next => exact hS.elim
  | isub =>
    dsimp only [stp, chkI] at hS hi
    have hn := dt hi
    rw [show nx - pc = 1 by omega] at hd
    split at hS
    next => exact g_isub hd hn (hK _ _ _ _ _ _ hS)
    next => exact hS.elim
  | imul =>
    dsimp only [stp, chkI] at hS hi
    have hn := dt hi
    rw [show nx - pc = 1 by omega] at hd
    split at hS
    next => exact g_imul hd hn (hK _ _ _ _ _ _ hS)
    next => exact hS.elim
  | iand =>
    dsimp only [stp, chkI] at hS hi
    have hn := dt hi
    rw [show nx - pc = 1 by omega] at hd
    split at hS
    next => exact g_iand hd hn (hK _ _ _ _ _ _ hS)
    next => exact hS.elim
  | ior =>
    dsimp only [stp, chkI] at hS hi
    have hn := dt hi
    rw [show nx - pc = 1 by omega] at hd
    split at hS
    next => exact g_ior hd hn (hK _ _ _ _ _ _ hS)
    next => exact hS.elim
  | ixor =>
    dsimp only [stp, chkI] at hS hi
    have hn := dt hi
    rw [show nx - pc = 1 by omega] at hd
    split at hS
    next => exact g_ixor hd hn (hK _ _ _ _ _ _ hS)
    next => exact hS.elim
  | ishl =>
    dsimp only [stp, chkI] at hS hi
    have hn := dt hi
    rw [show nx - pc = 1 by omega] at hd
    split at hS
    next => exact g_ishl hd hn (hK _ _ _ _ _ _ hS)
    next => exact hS.elim
  | ishr =>
    dsimp only [stp, chkI] at hS hi
    have hn := dt hi
    rw [show nx - pc = 1 by omega] at hd
    split at hS
    next => exact g_ishr hd hn (hK _ _ _ _ _ _ hS)
    next => exact hS.elim
  | iushr =>
    dsimp only [stp, chkI] at hS hi
    have hn := dt hi
    rw [show nx - pc = 1 by omega] at hd
    split at hS
    next => exact g_iushr hd hn (hK _ _ _ _ _ _ hS)
    next => exact hS.elim
  | ladd =>
    dsimp only [stp, chkI] at hS hi
    have hn := dt hi
    rw [show nx - pc = 1 by omega] at hd
    split at hS
    next => exact g_ladd hd hn (hK _ _ _ _ _ _ hS)
    next => exact hS.elim
  | lsub =>
    dsimp only [stp, chkI] at hS hi
    have hn := dt hi
    rw [show nx - pc = 1 by omega] at hd
    split at hS
    next => exact g_lsub hd hn (hK _ _ _ _ _ _ hS)
    next => exact hS.elim
  | lmul =>
    dsimp only [stp, chkI] at hS hi
    have hn := dt hi
    rw [show nx - pc = 1 by omega] at hd
    split at hS
    next => exact g_lmul hd hn (hK _ _ _ _ _ _ hS)
    next => exact hS.elim
  | land =>
    dsimp only [stp, chkI] at hS hi
    have hn := dt hi
    rw [show nx - pc = 1 by omega] at hd
    split at hS
    next => exact g_land hd hn (hK _ _ _ _ _ _ hS)
    next => exact hS.elim
  | lor =>
    dsimp only [stp, chkI] at hS hi
    have hn := dt hi
    rw [show nx - pc = 1 by omega] at hd
    split at hS
    next => exact g_lor hd hn (hK _ _ _ _ _ _ hS)
    next => exact hS.elim
  | lshl =>
    dsimp only [stp, chkI] at hS hi
    have hn := dt hi
    rw [show nx - pc = 1 by omega] at hd
    split at hS
    next => exact g_lshl hd hn (hK _ _ _ _ _ _ hS)
    next => exact hS.elim
  | lshr =>
    dsimp only [stp, chkI] at hS hi
    have hn := dt hi
    rw [show nx - pc = 1 by omega] at hd
    split at hS
    next => exact g_lshr hd hn (hK _ _ _ _ _ _ hS)
    next => exact hS.elim
  | lcmp =>
    dsimp only [stp, chkI] at hS hi
    have hn := dt hi
    rw [show nx - pc = 1 by omega] at hd
    split at hS
    next => exact g_lcmp hd hn (hK _ _ _ _ _ _ hS)
    next => exact hS.elim
  | ineg =>
    dsimp only [stp, chkI] at hS hi
    have hn := dt hi
    rw [show nx - pc = 1 by omega] at hd
    split at hS
    next => exact g_ineg hd hn (hK _ _ _ _ _ _ hS)
    next => exact hS.elim
  | lneg =>
    dsimp only [stp, chkI] at hS hi
    have hn := dt hi
    rw [show nx - pc = 1 by omega] at hd
    split at hS
    next => exact g_lneg hd hn (hK _ _ _ _ _ _ hS)
    next => exact hS.elim
  | i2l =>
    dsimp only [stp, chkI] at hS hi
    have hn := dt hi
    rw [show nx - pc = 1 by omega] at hd
    split at hS
    next => exact g_i2l hd hn (hK _ _ _ _ _ _ hS)
    next => exact hS.elim
  | l2i =>
    dsimp only [stp, chkI] at hS hi
    have hn := dt hi
    rw [show nx - pc = 1 by omega] at hd
    split at hS
    next => exact g_l2i hd hn (hK _ _ _ _ _ _ hS)
    next => exact hS.elim
  | i2b =>
    dsimp only [stp, chkI] at hS hi
    have hn := dt hi
    rw [show nx - pc = 1 by omega] at hd
    split at hS
    next => exact g_i2b hd hn (hK _ _ _ _ _ _ hS)
    next => exact hS.elim
  | i2s =>
    dsimp only [stp, chkI] at hS hi
    have hn := dt hi
    rw [show nx - pc = 1 by omega] at hd
    split at hS
    next => exact g_i2s hd hn (hK _ _ _ _ _ _ hS)
    next => exact hS.elim
  | i2c =>
    dsimp only [stp, chkI] at hS hi
    have hn := dt hi
    rw [show nx - pc = 1 by omega] at hd
    split at hS
    next => exact g_i2c hd hn (hK _ _ _ _ _ _ hS)
    next => exact hS.elim
  | idiv =>
    dsimp only [stp, chkI] at hS hi
    have hn := dt hi
    rw [show nx - pc = 1 by omega] at hd
    split at hS
    next => exact g_idiv hd hn hS.1 (hK _ _ _ _ _ _ hS.2)
    next => exact hS.elim
  | irem =>
    dsimp only [stp, chkI] at hS hi
    have hn := dt hi
    rw [show nx - pc = 1 by omega] at hd
    split at hS
    next => exact g_irem hd hn hS.1 (hK _ _ _ _ _ _ hS.2)
    next => exact hS.elim
  | ldiv =>
    dsimp only [stp, chkI] at hS hi
    have hn := dt hi
    rw [show nx - pc = 1 by omega] at hd
    split at hS
    next => exact g_ldiv hd hn hS.1 (hK _ _ _ _ _ _ hS.2)
    next => exact hS.elim
  | dup =>
    dsimp only [stp, chkI] at hS hi
    have hn := dt hi
    rw [show nx - pc = 1 by omega] at hd
    split at hS
    next => exact g_dupI hd hn (hK _ _ _ _ _ _ hS)
    next => exact g_dupA hd hn (hK _ _ _ _ _ _ hS)
    next => exact hS.elim
  | dup2 =>
    dsimp only [stp, chkI] at hS hi
    have hn := dt hi
    rw [show nx - pc = 1 by omega] at hd
    split at hS
    next => exact g_dup2 hd hn (hK _ _ _ _ _ _ hS)
    next => exact hS.elim
  | pop =>
    dsimp only [stp, chkI] at hS hi
    have hn := dt hi
    rw [show nx - pc = 1 by omega] at hd
    split at hS
    next => exact g_popI hd hn (hK _ _ _ _ _ _ hS)
    next => exact g_popA hd hn (hK _ _ _ _ _ _ hS)
    next => exact hS.elim
  | goto off =>
    dsimp only [stp, chkI] at hS hi
    obtain ⟨hn, hi⟩ := b2 hi
    have hn := dt hn
    rw [show nx - pc = 3 by omega] at hd
    exact g_goto hd (dt hi) (hK _ _ _ _ _ _ hS)
  | if_icmp c off =>
    dsimp only [stp, chkI] at hS hi
    obtain ⟨hn, hi⟩ := b2 hi
    have hn := dt hn
    rw [show nx - pc = 3 by omega] at hd
    split at hS
    next => exact g_icmp hd hn (dt hi) (br_mono (fun g => hK _ _ _ _ _ _ g) (fun g => hK _ _ _ _ _ _ g) hS)
    next => exact hS.elim
  | ifCond c off =>
    dsimp only [stp, chkI] at hS hi
    obtain ⟨hn, hi⟩ := b2 hi
    have hn := dt hn
    rw [show nx - pc = 3 by omega] at hd
    split at hS
    next => exact g_if hd hn (dt hi) (br_mono (fun g => hK _ _ _ _ _ _ g) (fun g => hK _ _ _ _ _ _ g) hS)
    next => exact hS.elim
  | ifnull off =>
    dsimp only [stp, chkI] at hS hi
    obtain ⟨hn, hi⟩ := b2 hi
    have hn := dt hn
    rw [show nx - pc = 3 by omega] at hd
    split at hS
    next => exact g_ifnullN hd (dt hi) (hK _ _ _ _ _ _ hS)
    next => exact g_ifnullS hd hn (hK _ _ _ _ _ _ hS)
    next => exact hS.elim
  | ifnonnull off =>
    dsimp only [stp, chkI] at hS hi
    obtain ⟨hn, hi⟩ := b2 hi
    have hn := dt hn
    rw [show nx - pc = 3 by omega] at hd
    split at hS
    next => exact g_ifnonnullN hd hn (hK _ _ _ _ _ _ hS)
    next => exact g_ifnonnullS hd (dt hi) (hK _ _ _ _ _ _ hS)
    next => exact hS.elim
  | tableswitch df lo hi0 offs =>
    dsimp only [stp, chkI] at hS hi
    obtain ⟨h1, hi⟩ := b2 hi
    obtain ⟨h2, hi⟩ := b2 hi
    obtain ⟨h3, hi⟩ := b2 hi
    obtain ⟨h4, hi⟩ := b2 hi
    split at hS
    next => exact g_tab hd (dt h1) (dt h2) (dt h3) (fun o ho => dt (List.all_eq_true.mp h4 o ho)) (swp_mono (fun _ g => hK _ _ _ _ _ _ g) hS)
    next => exact hS.elim
  | lookupswitch df ps =>
    dsimp only [stp, chkI] at hS hi
    obtain ⟨h1, hi⟩ := b2 hi
    obtain ⟨h2, hi⟩ := b2 hi
    obtain ⟨h3, h4⟩ := b2 hi
    split at hS
    next => exact g_lks hd (dt h1) (dt h2) h3 (fun o ho => dt (List.all_eq_true.mp h4 o ho)) (swp_mono (fun _ g => hK _ _ _ _ _ _ g) hS)
    next => exact hS.elim
  | getstatic i =>
    dsimp only [stp, chkI] at hS hi
    obtain ⟨hn, hi⟩ := b2 hi
    have hn := dt hn
    rw [show nx - pc = 3 by omega] at hd
    split at hi
    next =>
      obtain ⟨h1, h2⟩ := b2 hi
      have h1 := dt h1
      subst h1
      have h4 : sWd (mO k, i, 1) ∈ goods := dA_all SP_all (dt h2)
      have h4 : Jvm.Cond.fieldLink (oC (mO k)) i "StrengthHouse$Piece" "ABOVE" "[I" ∈ goods := h4
      rw [ho] at h4
      exact g_stat (v := .inl (some (EXT + 1))) hd hn h4 (fun s H hX => hX.2.1.2) trivial (hK _ _ _ _ _ _ hS)
    next =>
      obtain ⟨h1, h2⟩ := b2 hi
      have h1 := dt h1
      subst h1
      have h4 : sWd (mO k, i, 2) ∈ goods := dA_all SP_all (dt h2)
      have h4 : Jvm.Cond.fieldLink (oC (mO k)) i "StrengthHouse$Voices" "BODIES" "[I" ∈ goods := h4
      rw [ho] at h4
      exact g_stat (v := .inl (some (EXT + 2))) hd hn h4 (fun s H hX => hX.2.2.1.2) trivial (hK _ _ _ _ _ _ hS)
    next =>
      obtain ⟨h1, h2⟩ := b2 hi
      have h1 := dt h1
      subst h1
      have h4 : sWd (mO k, i, 3) ∈ goods := dA_all SP_all (dt h2)
      have h4 : Jvm.Cond.fieldLink (oC (mO k)) i "java/lang/String" "COMPACT_STRINGS" "Z" ∈ goods := h4
      rw [ho] at h4
      exact g_stat (v := .inr (.inl 1)) hd hn h4 (fun s H hX => hX.2.2.2.1) (by show iR 1; unfold iR; omega) (hK _ _ _ _ _ _ hS)
    next =>
      have h4 : sWd (mO k, i, 4) ∈ goods := dA_all SP_all (dt hi)
      have h4 : Jvm.Cond.fieldLink (oC (mO k)) i "jdk/internal/util/Preconditions" "SIOOBE_FORMATTER" "Ljava/util/function/BiFunction;" ∈ goods := h4
      rw [ho] at h4
      intro p e s m args below meth c H locs ls C hl hs
      have hok : okV (gS G) := by rcases C.kx.sio with q | q <;> (rw [q]; trivial)
      exact g_stat hd hn h4 (fun s H hX => hX.2.2.2.2.1) hok (hK _ _ _ _ _ _ hS) p e s m args below meth c H locs ls C hl hs
    next => cases hi
  | getfield i =>
    dsimp only [stp, chkI] at hS hi
    obtain ⟨hn, hi⟩ := b2 hi
    have hn := dt hn
    rw [show nx - pc = 3 by omega] at hd
    split at hS
    next q r =>
      split at hi
      next =>
        obtain ⟨j, g1, g2, g3⟩ := hS
        have h4 : sWd (mO k, i, 5) ∈ goods := dA_all SP_all (dt hi)
        have h4 : Jvm.Cond.fieldLink (oC (mO k)) i "java/lang/String" "value" "[B" ∈ goods := h4
        rw [ho] at h4
        exact g_val hd hn h4 g1 g2 (hK _ _ _ _ _ _ g3)
      next =>
        obtain ⟨j, g1, g2, g3⟩ := hS
        have h4 : sWd (mO k, i, 6) ∈ goods := dA_all SP_all (dt hi)
        have h4 : Jvm.Cond.fieldLink (oC (mO k)) i "java/lang/String" "coder" "B" ∈ goods := h4
        rw [ho] at h4
        exact g_cod hd hn h4 g1 g2 (hK _ _ _ _ _ _ g3)
      next =>
          obtain ⟨m, g1, g2, g3⟩ := hS
          obtain ⟨h1, hi⟩ := b2 hi
          obtain ⟨h2, hi⟩ := b2 hi
          obtain ⟨h3, h4⟩ := b2 hi
          have h5 := dA_all FD_all (dt h4)
          unfold fW at h5
          rw [ho] at h5
          exact g_getI hd hn (dt h1) (dt h2) (dt h3) h5 g1 g2 (hK _ _ _ _ _ _ g3)
      next =>
          obtain ⟨m, g1, g2, g3⟩ := hS
          obtain ⟨h1, hi⟩ := b2 hi
          obtain ⟨h2, hi⟩ := b2 hi
          obtain ⟨h3, h4⟩ := b2 hi
          have h5 := dA_all FD_all (dt h4)
          unfold fW at h5
          rw [ho] at h5
          exact g_getI hd hn (dt h1) (dt h2) (dt h3) h5 g1 g2 (hK _ _ _ _ _ _ g3)
      next =>
          obtain ⟨m, g1, g2, g3⟩ := hS
          obtain ⟨h1, hi⟩ := b2 hi
          obtain ⟨h2, hi⟩ := b2 hi
          obtain ⟨h3, h4⟩ := b2 hi
          have h5 := dA_all FN_all (dt h4)
          unfold fN at h5
          rw [ho] at h5
          exact g_getIN hd hn (dt h1) (dt h2) (dt h3) h5 g1 g2 (hK _ _ _ _ _ _ g3)
      next =>
          obtain ⟨m, g1, g2, g3⟩ := hS
          obtain ⟨h1, hi⟩ := b2 hi
          obtain ⟨h2, hi⟩ := b2 hi
          obtain ⟨h3, h4⟩ := b2 hi
          have h5 := dA_all FN_all (dt h4)
          unfold fN at h5
          rw [ho] at h5
          exact g_getIN hd hn (dt h1) (dt h2) (dt h3) h5 g1 g2 (hK _ _ _ _ _ _ g3)
      next =>
          obtain ⟨m, g1, g2, g3⟩ := hS
          obtain ⟨h1, hi⟩ := b2 hi
          obtain ⟨h2, hi⟩ := b2 hi
          obtain ⟨h3, h4⟩ := b2 hi
          have h5 := dA_all FD_all (dt h4)
          unfold fW at h5
          rw [ho] at h5
          exact g_getR hd hn (dt h1) (dt h2) (dt h3) h5 g1 g2 (fun w hw => hK _ _ _ _ _ _ (g3 w hw))
      next =>
          obtain ⟨m, g1, g2, g3⟩ := hS
          obtain ⟨h1, hi⟩ := b2 hi
          obtain ⟨h2, hi⟩ := b2 hi
          obtain ⟨h3, h4⟩ := b2 hi
          have h5 := dA_all FN_all (dt h4)
          unfold fN at h5
          rw [ho] at h5
          exact g_getRN hd hn (dt h1) (dt h2) (dt h3) h5 g1 g2 (fun w hw => hK _ _ _ _ _ _ (g3 w hw))
      next => cases hi
    next => exact hS.elim
  | putfield i =>
    dsimp only [stp, chkI] at hS hi
    obtain ⟨hn, hi⟩ := b2 hi
    have hn := dt hn
    rw [show nx - pc = 3 by omega] at hd
    obtain ⟨p1, hi⟩ := b2 hi
    obtain ⟨p2, hi⟩ := b2 hi
    have p1 := dt p1
    have p2 := dt p2
    split at hS
    next x q r =>
      split at hi
      next =>
        obtain ⟨m, g1, g2, g3⟩ := hS
        obtain ⟨h1, hi⟩ := b2 hi
        obtain ⟨h2, hi⟩ := b2 hi
        obtain ⟨h3, h4⟩ := b2 hi
        have h5 := dA_all FD_all (dt h4)
        unfold fW at h5
        rw [ho] at h5
        have h3 := dt h3
        exact g_putI hd hn p1 p2 (dt h1) (dt h2) h5 g1 g2 (by rw [h3]; exact fit_i x) (hK _ _ _ _ _ _ g3)
      next =>
        obtain ⟨m, g1, g2, g3⟩ := hS
        obtain ⟨h1, hi⟩ := b2 hi
        obtain ⟨h2, hi⟩ := b2 hi
        obtain ⟨h3, h4⟩ := b2 hi
        have h5 := dA_all FN_all (dt h4)
        unfold fN at h5
        rw [ho] at h5
        have h3 := dt h3
        exact g_putIN hd hn p1 p2 (dt h1) (dt h2) h5 g1 g2 (by rw [h3]; exact fit_i x) (hK _ _ _ _ _ _ g3)
      next =>
        obtain ⟨m, g1, g2, g0, g3⟩ := hS
        obtain ⟨h1, hi⟩ := b2 hi
        obtain ⟨h2, hi⟩ := b2 hi
        obtain ⟨h3, h4⟩ := b2 hi
        have h5 := dA_all FD_all (dt h4)
        unfold fW at h5
        rw [ho] at h5
        have h3 := dt h3
        exact g_putI hd hn p1 p2 (dt h1) (dt h2) h5 g1 g2 (by rw [h3]; exact fit_z g0) (hK _ _ _ _ _ _ g3)
      next =>
        obtain ⟨m, g1, g2, g0, g3⟩ := hS
        obtain ⟨h1, hi⟩ := b2 hi
        obtain ⟨h2, hi⟩ := b2 hi
        obtain ⟨h3, h4⟩ := b2 hi
        have h5 := dA_all FN_all (dt h4)
        unfold fN at h5
        rw [ho] at h5
        have h3 := dt h3
        exact g_putIN hd hn p1 p2 (dt h1) (dt h2) h5 g1 g2 (by rw [h3]; exact fit_z g0) (hK _ _ _ _ _ _ g3)
      next => exact hS.elim
      next => exact hS.elim
      next => cases hi
    next w q r =>
      split at hi
      next => exact hS.elim
      next => exact hS.elim
      next => exact hS.elim
      next => exact hS.elim
      next =>
        obtain ⟨m, g1, g2, g3⟩ := hS
        obtain ⟨h1, hi⟩ := b2 hi
        obtain ⟨h2, hi⟩ := b2 hi
        obtain ⟨h3, h4⟩ := b2 hi
        have h5 := dA_all FD_all (dt h4)
        unfold fW at h5
        rw [ho] at h5
        exact g_putR hd hn p1 p2 (dt h1) (dt h2) h3 h5 g1 g2 (hK _ _ _ _ _ _ g3)
      next =>
        obtain ⟨m, g1, g2, g3⟩ := hS
        obtain ⟨h1, hi⟩ := b2 hi
        obtain ⟨h2, hi⟩ := b2 hi
        obtain ⟨h3, hi⟩ := b2 hi
        obtain ⟨h4, hi⟩ := b2 hi
        obtain ⟨h6, h7⟩ := b2 hi
        have h5 := dA_all FD_all (dt h7)
        unfold fW at h5
        rw [ho] at h5
        have h6 := dt h6
        exact g_putF hd hn p1 p2 (dt h1) (dt h2) (dt h4) (by rw [cl_dc a p1 b p2, ← ho, h6]; exact (c13 (P := fun o => clC o = oC o) rfl rfl rfl rfl rfl rfl rfl rfl rfl rfl rfl rfl rfl) a p1) h3 h5 g1 g2 (hK _ _ _ _ _ _ g3)
      next => cases hi
    next => exact hS.elim
  | iaload =>
    dsimp only [stp, chkI] at hS hi
    have hn := dt hi
    rw [show nx - pc = 1 by omega] at hd
    split at hS
    next i q r =>
      split at hS
      next =>
        obtain ⟨m, g1, g2, g3, g4, g5⟩ := hS
        exact g_iald hd hn g1 g2 g3 g4 (hK _ _ _ _ _ _ g5)
      next => exact g_scr hd hn hS.1 hS.2.1 hS.2.2.1 (hK _ _ _ _ _ _ hS.2.2.2)
      next =>
        rcases hS with ⟨g1, g2, g3, g4⟩ | ⟨g1, g2, g3, g4⟩
        · exact g_above hd hn g1 g2 g3 (hK _ _ _ _ _ _ g4)
        · exact g_bodies hd hn g1 g2 g3 (hK _ _ _ _ _ _ g4)
    next => exact hS.elim
  | baload =>
    dsimp only [stp, chkI] at hS hi
    have hn := dt hi
    rw [show nx - pc = 1 by omega] at hd
    split at hS
    next i q r =>
      split at hS
      next =>
        obtain ⟨m, g1, g2, g3, g4, g5⟩ := hS
        exact g_bald hd hn g1 g2 g3 g4 (hK _ _ _ _ _ _ g5)
      next =>
        obtain ⟨j, g1, g2, g3, g4, g5⟩ := hS
        exact g_strb hd hn g1 g2 g3 g4 (hK _ _ _ _ _ _ g5)
    next => exact hS.elim
  | aaload =>
    dsimp only [stp, chkI] at hS hi
    have hn := dt hi
    rw [show nx - pc = 1 by omega] at hd
    split at hS
    next i q r =>
      obtain ⟨t, m, g0, g1, g2, g3, g4, g5⟩ := hS
      exact g_aald hd hn g0 g1 g2 g3 g4 (fun w hw => hK _ _ _ _ _ _ (g5 w hw))
    next => exact hS.elim
  | iastore =>
    dsimp only [stp, chkI] at hS hi
    have hn := dt hi
    rw [show nx - pc = 1 by omega] at hd
    split at hS
    next =>
      obtain ⟨m, g1, g2, g3, g4, g5⟩ := hS
      exact g_iast hd hn g1 g2 g3 g4 (hK _ _ _ _ _ _ g5)
    next => exact hS.elim
  | bastore =>
    dsimp only [stp, chkI] at hS hi
    have hn := dt hi
    rw [show nx - pc = 1 by omega] at hd
    split at hS
    next =>
      obtain ⟨m, g1, g2, g3, g4, g5⟩ := hS
      exact g_bast hd hn g1 g2 g3 g4 (hK _ _ _ _ _ _ g5)
    next => exact hS.elim
  | aastore =>
    dsimp only [stp, chkI] at hS hi
    have hn := dt hi
    rw [show nx - pc = 1 by omega] at hd
    split at hS
    next =>
      obtain ⟨t, m, g1, g2, g3, g4, g0, g5⟩ := hS
      exact g_aast hd hn g1 g2 g3 g4 g0 (hK _ _ _ _ _ _ g5)
    next => exact hS.elim
  | arraylength =>
    dsimp only [stp, chkI] at hS hi
    have hn := dt hi
    rw [show nx - pc = 1 by omega] at hd
    split at hS
    next q r =>
      split at hS
      next =>
        obtain ⟨t, m, g0, g1, g2, g3⟩ := hS
        exact g_alen hd hn g0 g1 g2 (by have := lay_m q; rw [g1] at this; exact this) (hK _ _ _ _ _ _ g3)
      next => exact g_scrl hd hn hS.1 (hK _ _ _ _ _ _ hS.2)
      next =>
        rcases hS with ⟨g1, g2⟩ | ⟨g1, g2⟩ | ⟨j, g1, g2, g3⟩
        · exact g_abovel hd hn g1 (hK _ _ _ _ _ _ g2)
        · exact g_bodiesl hd hn g1 (hK _ _ _ _ _ _ g2)
        · exact g_strl hd hn g1 g2 (hK _ _ _ _ _ _ g3)
    next => exact hS.elim
  | new i =>
    dsimp only [stp, chkI] at hS hi
    obtain ⟨hn, hi⟩ := b2 hi
    have hn := dt hn
    rw [show nx - pc = 3 by omega] at hd
    obtain ⟨h1, h2⟩ := b2 hi
    have h1 := dt h1
    have h5 := dA_all LD_all (dt h2)
    unfold kWd at h5
    rw [ho] at h5
    exact g_new hd hn h1 h5 (ins_all a h1) (ini_all a h1) hS.1 hS.2.1 hS.2.2.1 (hK _ _ _ _ _ _ hS.2.2.2)
  | newarray t =>
    dsimp only [stp, chkI] at hS hi
    obtain ⟨hn, hi⟩ := b2 hi
    have hn := dt hn
    rw [show nx - pc = 2 by omega] at hd
    split at hS
    next x r =>
      obtain ⟨g1, g2, g3, g4, g5, g6⟩ := hS
      rw [Bool.or_eq_true] at hi
      rcases hi with hi | hi
      · obtain ⟨h1, h2⟩ := b2 hi
        have h1 := dt h1
        have h2 := dt h2
        subst h1
        exact g_newa hd hn (Or.inl ⟨rfl, h2⟩) ac_i g1 g2 g3 g4 g5 (hK _ _ _ _ _ _ g6)
      · obtain ⟨h1, h2⟩ := b2 hi
        have h1 := dt h1
        have h2 := dt h2
        subst h1
        exact g_newa hd hn (Or.inr ⟨rfl, h2⟩) ac_b g1 g2 g3 g4 g5 (hK _ _ _ _ _ _ g6)
    next => exact hS.elim
  | anewarray i =>
    dsimp only [stp, chkI] at hS hi
    obtain ⟨hn, hi⟩ := b2 hi
    have hn := dt hn
    rw [show nx - pc = 3 by omega] at hd
    obtain ⟨h1, h2⟩ := b2 hi
    have h5 := dA_all LD_all (dt h2)
    unfold kWd at h5
    rw [ho] at h5
    split at hS
    next x r =>
      obtain ⟨g1, g2, g3, g4, g5, g6⟩ := hS
      exact g_anew hd hn (dt h1) h5 g1 g2 g3 g4 g5 (hK _ _ _ _ _ _ g6)
    next => exact hS.elim
  | invokestatic i =>
    dsimp only [stp, chkI] at hS hi
    obtain ⟨hn, hi⟩ := b2 hi
    have hn := dt hn
    rw [show nx - pc = 3 by omega] at hd
    split at hi
    next =>
      split at hS
      next =>
        split at hS
        next =>
          obtain ⟨t, m1, m2, g1, g2, g3, g4, g5, g6, g7, g8, g9, g10, g11, g12, g13⟩ := hS
          have h4 : sWd (mO k, i, 7) ∈ goods := dA_all SP_all (dt hi)
          have h4 : Jvm.Cond.methodLink (oC (mO k)) i arraycopyName ∈ goods := h4
          rw [ho] at h4
          exact g_copy hd hn h4 cp_nat cp_stat cp_ini g1 g2 g3 g4 g5 g6 g7 g8 g9 g10 g11 g12 (hK _ _ _ _ _ _ g13)
        next => exact hS.elim
      next hne => exact absurd rfl hne
    next =>
      obtain ⟨h1, hi⟩ := b2 hi
      obtain ⟨h2, hi⟩ := b2 hi
      obtain ⟨h3, hi⟩ := b2 hi
      obtain ⟨h4, h5⟩ := b2 hi
      have h1 := dt h1
      have h2 := dt h2
      have h3 := dt h3
      have h6 := dA_all MD_all (dt h5)
      unfold mWd at h6
      rw [ho] at h6
      cases d with
      | zero => exact hS.elim
      | succ d =>
        obtain ⟨as, r, e1, e2, e3⟩ := popN_spec _ _ _ hS
        rw [List.append_nil] at e3
        subst e2
        cases hb : Nat.ble (ctgs r) 8 with
        | false => rw [hb] at e3; exact e3.elim
        | true =>
          rw [hb] at e3
          have e3 : CallN G d a as n F I _ := e3
          obtain ⟨e3⟩ := e3
          refine g_callS (j := a) hd hn (j_ok h1) (j_s h1 (dt h4)) h6 (by rw [e1, h2]) (Nat.le_of_ble_eq_true hb) h3 (Call_mono (fun rv F' I' g => ?_) e3)
          rw [h3]
          cases rv with
          | none => exact hK _ _ _ _ _ _ g
          | some w => exact hK _ _ _ _ _ _ g
    next =>
      obtain ⟨h1, hi⟩ := b2 hi
      obtain ⟨h2, hi⟩ := b2 hi
      obtain ⟨h3, hi⟩ := b2 hi
      obtain ⟨h4, h5⟩ := b2 hi
      have h1 := dt h1
      have h2 := dt h2
      have h3 := dt h3
      have h6 := dA_all MN_all (dt h5)
      unfold mNd at h6
      rw [ho] at h6
      cases d with
      | zero => exact hS.elim
      | succ d =>
        obtain ⟨as, r, e1, e2, e3⟩ := popN_spec _ _ _ hS
        rw [List.append_nil] at e3
        subst e2
        cases hb : Nat.ble (ctgs r) 8 with
        | false => rw [hb] at e3; exact e3.elim
        | true =>
          rw [hb] at e3
          have e3 : CallN G d a as n F I _ := e3
          obtain ⟨e3⟩ := e3
          refine g_callSN (j := a) hd hn (j_ok h1) (j_s h1 (dt h4)) h6 (by rw [e1, h2]) (Nat.le_of_ble_eq_true hb) h3 (Call_mono (fun rv F' I' g => ?_) e3)
          rw [h3]
          cases rv with
          | none => exact hK _ _ _ _ _ _ g
          | some w => exact hK _ _ _ _ _ _ g
    next => cases hi
  | invokevirtual i =>
    dsimp only [stp, chkI] at hS hi
    obtain ⟨hn, hi⟩ := b2 hi
    have hn := dt hn
    rw [show nx - pc = 3 by omega] at hd
    obtain ⟨h1, hi⟩ := b2 hi
    obtain ⟨h2, hi⟩ := b2 hi
    obtain ⟨h3, hi⟩ := b2 hi
    obtain ⟨h4, hi⟩ := b2 hi
    obtain ⟨h5, hi⟩ := b2 hi
    have h1 := dt h1
    have h2 := dt h2
    have h3 := dt h3
    obtain ⟨iv1, iv2⟩ := j_v h1 (dt h4)
    cases d with
    | zero => exact hS.elim
    | succ d =>
      obtain ⟨as, r, e1, e2, e3⟩ := popN_spec _ _ _ hS
      rw [List.append_nil] at e3
      subst e2
      match as, e1, e3 with
      | [], e1, e3 => exact e3.elim
      | .inr _ :: _, e1, e3 => exact e3.elim
      | .inl none :: _, e1, e3 => exact e3.elim
      | .inl (some q) :: as, e1, e3 =>
        dsimp only at e3
        cases hb : Nat.ble (ctgs r) 8 with
        | false => rw [hb] at e3; exact e3.elim
        | true =>
          rw [hb] at e3
          obtain ⟨e3, ⟨e4⟩⟩ := e3
          have hrc : Rcv G n q (mY a).cls := by
            match v, h5, e3 with
            | .inl none, _, e3 => exact e3.elim
            | .inr _, _, e3 => exact e3.elim
            | .inl (some c), h5, e3 =>
              dsimp only at h5 e3
              cases hcb : Nat.beq c 130 with
              | true =>
                rw [hcb] at h5 e3
                obtain ⟨i0, g1, g2⟩ := e3
                refine Or.inr ⟨i0, g1, g2, ?_⟩
                rw [← j_o h1, dt h5]
                rfl
              | false =>
                rw [hcb] at h5 e3
                obtain ⟨m0, g1, g2⟩ := e3
                obtain ⟨f1, f2⟩ := b2 h5
                have f1 := dt f1
                have f2 := dt f2
                refine Or.inl ⟨c, m0, f1, ?_, g1, g2⟩
                rw [← j_o h1, oc_c (by rw [f2]; exact f1), f2]
          have hlen : as.length = mN a := by
            have : as.length + 1 = b + 1 := e1
            omega
          rw [show (Sum.inl (some q) :: as : List pV).reverse ++ r = as.reverse ++ .inl (some q) :: r by simp]
          have hk2 : ∀ (rv : Option pV) (F' : pF) (I' : pI), (match rv with
              | none => K nx lv r n F' I'
              | some w => K nx lv (w :: r) n F' I') → (match rv with
              | none => Go G (d + 1) k n0 (n + alc a) nx lv r F' I' Q
              | some w => Go G (d + 1) k n0 (n + alc a) nx lv (w :: r) F' I' Q) := by
            intro rv F' I' g
            rw [h3]
            cases rv with
            | none => exact hK _ _ _ _ _ _ g
            | some w => exact hK _ _ _ _ _ _ g
          split at hi
          next =>
            have h6 := dA_all MD_all (dt hi)
            unfold mWd at h6
            rw [ho] at h6
            exact g_callV (j := a) hd hn (j_ok h1) iv1 iv2 h6 hrc hlen (Nat.le_of_ble_eq_true hb) h3 (Call_mono hk2 e4)
          next =>
            have h6 := dA_all MN_all (dt hi)
            unfold mNd at h6
            rw [ho] at h6
            exact g_callVN (j := a) hd hn (j_ok h1) iv1 iv2 h6 hrc hlen (Nat.le_of_ble_eq_true hb) h3 (Call_mono hk2 e4)
          next => cases hi
  | invokespecial i =>
    dsimp only [stp, chkI] at hS hi
    obtain ⟨hn, hi⟩ := b2 hi
    have hn := dt hn
    rw [show nx - pc = 3 by omega] at hd
    split at hi
    next =>
      split at hS
      next =>
        split at hS
        next w r =>
          have h4 : sWd (mO k, i, 8) ∈ goods := dA_all SP_all (dt hi)
          have h4 : Jvm.Cond.methodLink (oC (mO k)) i objectInit ∈ goods := h4
          rw [ho] at h4
          exact g_obj hd hn h4 in_obj code_obj hS.1 hS.2.1 (hK _ _ _ _ _ _ hS.2.2)
        next => exact hS.elim
      next hne => exact absurd rfl hne
    next =>
      obtain ⟨h1, hi⟩ := b2 hi
      obtain ⟨h2, hi⟩ := b2 hi
      obtain ⟨h3, hi⟩ := b2 hi
      obtain ⟨h4, h5⟩ := b2 hi
      have h1 := dt h1
      have h2 := dt h2
      have h3 := dt h3
      subst h3
      obtain ⟨iv1, iv2, iv3⟩ := j_i h1 (dt h4)
      have h6 := dA_all MD_all (dt h5)
      unfold mWd at h6
      rw [ho] at h6
      cases d with
      | zero => exact hS.elim
      | succ d =>
        obtain ⟨as, r, e1, e2, e3⟩ := popN_spec _ _ _ hS
        rw [List.append_nil] at e3
        subst e2
        match as, e1, e3 with
        | [], e1, e3 => exact e3.elim
        | .inr _ :: _, e1, e3 => exact e3.elim
        | .inl none :: _, e1, e3 => exact e3.elim
        | .inl (some q) :: as, e1, e3 =>
          dsimp only at e3
          obtain ⟨g1, g2, ⟨g3⟩⟩ := e3
          have hlen : as.length = mN a := by
            have : as.length + 1 = b + 1 := e1
            omega
          rw [show (Sum.inl (some q) :: as : List pV).reverse ++ r = as.reverse ++ .inl (some q) :: r by simp]
          refine g_callI (j := a) hd hn (j_ok h1) iv2 iv3 iv1 h6 hlen g1 g2 (Call_mono (fun rv F' I' g => ?_) g3)
          cases rv with
          | none => exact hK _ _ _ _ _ _ g
          | some w => exact g.elim
    next =>
      obtain ⟨h1, hi⟩ := b2 hi
      obtain ⟨h2, hi⟩ := b2 hi
      obtain ⟨h3, hi⟩ := b2 hi
      obtain ⟨h4, h5⟩ := b2 hi
      have h1 := dt h1
      have h2 := dt h2
      have h3 := dt h3
      subst h3
      obtain ⟨iv1, iv2, iv3⟩ := j_i h1 (dt h4)
      have h6 := dA_all MN_all (dt h5)
      unfold mNd at h6
      rw [ho] at h6
      cases d with
      | zero => exact hS.elim
      | succ d =>
        obtain ⟨as, r, e1, e2, e3⟩ := popN_spec _ _ _ hS
        rw [List.append_nil] at e3
        subst e2
        match as, e1, e3 with
        | [], e1, e3 => exact e3.elim
        | .inr _ :: _, e1, e3 => exact e3.elim
        | .inl none :: _, e1, e3 => exact e3.elim
        | .inl (some q) :: as, e1, e3 =>
          dsimp only at e3
          obtain ⟨g1, g2, ⟨g3⟩⟩ := e3
          have hlen : as.length = mN a := by
            have : as.length + 1 = b + 1 := e1
            omega
          rw [show (Sum.inl (some q) :: as : List pV).reverse ++ r = as.reverse ++ .inl (some q) :: r by simp]
          refine g_callIN (j := a) hd hn (j_ok h1) iv2 iv3 iv1 h6 hlen g1 g2 (Call_mono (fun rv F' I' g => ?_) g3)
          cases rv with
          | none => exact hK _ _ _ _ _ _ g
          | some w => exact g.elim
    next => cases hi
  | ireturn =>
    dsimp only [stp, chkI] at hS hi
    obtain ⟨hn, hi⟩ := b2 hi
    have hn := dt hn
    rw [show nx - pc = 1 by omega] at hd
    split at hS
    next x =>
      obtain ⟨g1, g2⟩ := hS
      split at hi
      next => exact g_iret hd (dt hi) rfl g1 g2
      next => exact g_iret hd (dt hi) (fit_z (G := G) g2.1).1 g1 g2.2
      next => exact g_iret hd (dt hi) (nar_c g2.1) g1 g2.2
      next h0 h1 h2 =>
        have g2 : (-128 ≤ x ∧ x < 128) ∧ Q (some (.inr (.inl x))) F I := by
          split at g2
          next => exact absurd rfl h0
          next => exact absurd rfl h1
          next => exact absurd rfl h2
          next => exact g2
        exact g_iret hd (dt hi) (nar_by g2.1) g1 g2.2
    next => exact hS.elim
  | lreturn =>
    dsimp only [stp, chkI] at hS hi
    obtain ⟨hn, hi⟩ := b2 hi
    have hn := dt hn
    rw [show nx - pc = 1 by omega] at hd
    split at hS
    next => exact g_lret hd (dt hi) hS.1 hS.2
    next => exact hS.elim
  | areturn =>
    dsimp only [stp, chkI] at hS hi
    obtain ⟨hn, hi⟩ := b2 hi
    have hn := dt hn
    rw [show nx - pc = 1 by omega] at hd
    split at hS
    next =>
      split at hi
      next hr => exact g_aret hd hr (Or.inl ⟨_, rfl⟩) hS.1 hS.2
      next hr => exact g_aret hd hr (Or.inr ⟨_, rfl⟩) hS.1 hS.2
      next => cases hi
    next => exact hS.elim
  | return_ =>
    dsimp only [stp, chkI] at hS hi
    obtain ⟨hn, hi⟩ := b2 hi
    have hn := dt hn
    rw [show nx - pc = 1 by omega] at hd
    split at hS
    next => exact g_vret hd (dt hi) hS.1 hS.2
    next => exact hS.elim
  | _ => exact hS.elim
end STEP
theorem wp_Go {G : pG} {d k n0 : Nat} {t : pT} {cuts : List Nat} {Q : Option pV → pF → pI → Prop} (ho : oC (mO k) = (mY k).cls) (hc : chkT k t = true) : ∀ (N pc : Nat) (lv : List (Option pV)) (st : List pV) (n : Nat) (F : pF) (I : pI), wp G d k n0 t cuts Q N pc lv st n F I → Go G d k n0 n pc lv st F I Q
  | 0, _, _, _, _, _, _, h => h.elim id
  | N + 1, pc, lv, st, n, F, I, h => by
    unfold wp at h
    cases hp : pAt t pc with
    | none => rw [hp] at h; exact h.elim
    | some e =>
      rw [hp] at h
      refine stp_Go ho (pAt_chk hc hp) (fun pc' lv' st' n' F' I' g => ?_) h
      cases hm : mmb cuts pc' with
      | true => rw [hm] at g; exact g.elim id
      | false => rw [hm] at g; exact wp_Go ho hc N _ _ _ _ _ _ g
/-- a stretch of a method -/
theorem Go_wp {G : pG} {d k n0 n pc : Nat} {t : pT} {lv : List (Option pV)} {st : List pV} {F : pF} {I : pI} {Q : Option pV → pF → pI → Prop} (hk : k < NM) (hc : chkT k t = true) (cuts : List Nat) (h : wp G d k n0 t cuts Q 2000 pc lv st n F I) : GoN G d k n0 n pc lv st F I Q := ⟨wp_Go (j_o hk) hc _ _ _ _ _ _ _ h⟩
/-- a whole method -/
theorem Call_wp {G : pG} {d k n : Nat} {t : pT} {as : List pV} {lv : List (Option pV)} {F : pF} {I : pI} {Q : Option pV → pF → pI → Prop} (hk : k < NM) (hc : chkT k t = true) (cuts : List Nat) (hlv : lvE k as = lv) (hlen : Nat.ble (lvA as).length (mL k) = true) (h : wp G d k n t cuts Q 2000 0 lv [] n F I) : CallN G d k as n F I Q := by
  refine ⟨Call_Go (j_ok hk) (j_pn hk) (fun e => (j_i hk e).2.1) (Nat.le_of_ble_eq_true hlen) ?_⟩
  rw [hlv]
  exact (Go_wp hk hc cuts h).elim id
theorem CallN_mono {G : pG} {d j n : Nat} {as : List pV} {F : pF} {I : pI} {Q1 Q2 : Option pV → pF → pI → Prop} (hq : ∀ r F I, Q1 r F I → Q2 r F I) (h : CallN G d j as n F I Q1) : CallN G d j as n F I Q2 := ⟨Call_mono hq (h.elim id)⟩
end
