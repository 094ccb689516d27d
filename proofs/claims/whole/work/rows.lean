section
-- ===== PART A: goes FIRST, ahead of the names: the tables' words, and 'selects' of the private methods out of them =====
/-- a private method of a class that the tables say can be made, by its rows of tables_1 -/
def lw_okq (q : MethodName × Nat) : Prop := (q.1.cls ≠ "java/lang/invoke/MethodHandle" ∧ q.1.cls ≠ "java/lang/invoke/VarHandle") ∧ Cond.instantiable q.1.cls q.2 ∈ tables_1 ∧ Cond.privateMethod q.1 ∈ tables_1 ∧ Cond.instanceMethod q.1 ∈ tables_1
theorem lw_p0 : lw_okq (⟨"ForgiveCamp", "deny", "(I)Z"⟩, 20) := ⟨⟨by decide +kernel, by decide +kernel⟩, List.mem_of_getElem? (i := 22) (by decide +kernel), List.mem_of_getElem? (i := 554) (by decide +kernel), List.mem_of_getElem? (i := 555) (by decide +kernel)⟩
theorem lw_p1 : lw_okq (⟨"ForgiveCamp", "grant", "()Z"⟩, 20) := ⟨⟨by decide +kernel, by decide +kernel⟩, List.mem_of_getElem? (i := 22) (by decide +kernel), List.mem_of_getElem? (i := 563) (by decide +kernel), List.mem_of_getElem? (i := 564) (by decide +kernel)⟩
theorem lw_p2 : lw_okq (⟨"ForgiveCamp", "placeStatus", "(II)I"⟩, 20) := ⟨⟨by decide +kernel, by decide +kernel⟩, List.mem_of_getElem? (i := 22) (by decide +kernel), List.mem_of_getElem? (i := 571) (by decide +kernel), List.mem_of_getElem? (i := 572) (by decide +kernel)⟩
theorem lw_p3 : lw_okq (⟨"ForgiveCamp", "refuse", "(I)I"⟩, 20) := ⟨⟨by decide +kernel, by decide +kernel⟩, List.mem_of_getElem? (i := 22) (by decide +kernel), List.mem_of_getElem? (i := 596) (by decide +kernel), List.mem_of_getElem? (i := 597) (by decide +kernel)⟩
theorem lw_p4 : lw_okq (⟨"ForgiveCamp$Text", "signAt", "(I)I"⟩, 14) := ⟨⟨by decide +kernel, by decide +kernel⟩, List.mem_of_getElem? (i := 233) (by decide +kernel), List.mem_of_getElem? (i := 660) (by decide +kernel), List.mem_of_getElem? (i := 661) (by decide +kernel)⟩
theorem lw_p5 : lw_okq (⟨"ForgiveCamp$Text", "wordToken", "()V"⟩, 14) := ⟨⟨by decide +kernel, by decide +kernel⟩, List.mem_of_getElem? (i := 233) (by decide +kernel), List.mem_of_getElem? (i := 667) (by decide +kernel), List.mem_of_getElem? (i := 668) (by decide +kernel)⟩
theorem lw_p6 : lw_okq (⟨"ForgiveCamp$Text", "reservedNumber", "(J)I"⟩, 14) := ⟨⟨by decide +kernel, by decide +kernel⟩, List.mem_of_getElem? (i := 233) (by decide +kernel), List.mem_of_getElem? (i := 672) (by decide +kernel), List.mem_of_getElem? (i := 673) (by decide +kernel)⟩
theorem lw_p7 : lw_okq (⟨"ForgiveCamp$Text", "numberToken", "()V"⟩, 14) := ⟨⟨by decide +kernel, by decide +kernel⟩, List.mem_of_getElem? (i := 233) (by decide +kernel), List.mem_of_getElem? (i := 679) (by decide +kernel), List.mem_of_getElem? (i := 680) (by decide +kernel)⟩
theorem lw_p8 : lw_okq (⟨"ForgiveCamp$CampReader", "takeField", "()Z"⟩, 4) := ⟨⟨by decide +kernel, by decide +kernel⟩, List.mem_of_getElem? (i := 344) (by decide +kernel), List.mem_of_getElem? (i := 687) (by decide +kernel), List.mem_of_getElem? (i := 688) (by decide +kernel)⟩
theorem lw_p9 : lw_okq (⟨"ForgiveCamp$CampReader", "takeOdds", "()Z"⟩, 4) := ⟨⟨by decide +kernel, by decide +kernel⟩, List.mem_of_getElem? (i := 344) (by decide +kernel), List.mem_of_getElem? (i := 713) (by decide +kernel), List.mem_of_getElem? (i := 714) (by decide +kernel)⟩
theorem lw_p10 : lw_okq (⟨"ForgiveCamp$CampReader", "takeBoy", "()Z"⟩, 4) := ⟨⟨by decide +kernel, by decide +kernel⟩, List.mem_of_getElem? (i := 344) (by decide +kernel), List.mem_of_getElem? (i := 717) (by decide +kernel), List.mem_of_getElem? (i := 718) (by decide +kernel)⟩
theorem lw_p11 : lw_okq (⟨"ForgiveCamp$CampReader", "takePerhaps", "(II)I"⟩, 4) := ⟨⟨by decide +kernel, by decide +kernel⟩, List.mem_of_getElem? (i := 344) (by decide +kernel), List.mem_of_getElem? (i := 730) (by decide +kernel), List.mem_of_getElem? (i := 731) (by decide +kernel)⟩
theorem lw_p12 : lw_okq (⟨"ForgiveCamp$CampReader", "takeQuarrel", "()Z"⟩, 4) := ⟨⟨by decide +kernel, by decide +kernel⟩, List.mem_of_getElem? (i := 344) (by decide +kernel), List.mem_of_getElem? (i := 753) (by decide +kernel), List.mem_of_getElem? (i := 754) (by decide +kernel)⟩
theorem lw_p13 : lw_okq (⟨"ForgiveCamp", "give", "(I)I"⟩, 20) := ⟨⟨by decide +kernel, by decide +kernel⟩, List.mem_of_getElem? (i := 22) (by decide +kernel), List.mem_of_getElem? (i := 776) (by decide +kernel), List.mem_of_getElem? (i := 777) (by decide +kernel)⟩
theorem lw_p14 : lw_okq (⟨"ForgiveCamp$WeeksReader", "takeEnd", "()Z"⟩, 4) := ⟨⟨by decide +kernel, by decide +kernel⟩, List.mem_of_getElem? (i := 366) (by decide +kernel), List.mem_of_getElem? (i := 791) (by decide +kernel), List.mem_of_getElem? (i := 792) (by decide +kernel)⟩
theorem lw_p15 : lw_okq (⟨"ForgiveCamp$WeeksReader", "beginStep", "(I)Z"⟩, 4) := ⟨⟨by decide +kernel, by decide +kernel⟩, List.mem_of_getElem? (i := 366) (by decide +kernel), List.mem_of_getElem? (i := 810) (by decide +kernel), List.mem_of_getElem? (i := 811) (by decide +kernel)⟩
def lw_privs_1 : List (MethodName × Nat) := [(⟨"ForgiveCamp", "deny", "(I)Z"⟩, 20), (⟨"ForgiveCamp", "grant", "()Z"⟩, 20), (⟨"ForgiveCamp", "placeStatus", "(II)I"⟩, 20), (⟨"ForgiveCamp", "refuse", "(I)I"⟩, 20), (⟨"ForgiveCamp$Text", "signAt", "(I)I"⟩, 14), (⟨"ForgiveCamp$Text", "wordToken", "()V"⟩, 14), (⟨"ForgiveCamp$Text", "reservedNumber", "(J)I"⟩, 14), (⟨"ForgiveCamp$Text", "numberToken", "()V"⟩, 14), (⟨"ForgiveCamp$CampReader", "takeField", "()Z"⟩, 4), (⟨"ForgiveCamp$CampReader", "takeOdds", "()Z"⟩, 4), (⟨"ForgiveCamp$CampReader", "takeBoy", "()Z"⟩, 4), (⟨"ForgiveCamp$CampReader", "takePerhaps", "(II)I"⟩, 4), (⟨"ForgiveCamp$CampReader", "takeQuarrel", "()Z"⟩, 4), (⟨"ForgiveCamp", "give", "(I)I"⟩, 20), (⟨"ForgiveCamp$WeeksReader", "takeEnd", "()Z"⟩, 4), (⟨"ForgiveCamp$WeeksReader", "beginStep", "(I)Z"⟩, 4)]
theorem lw_r1 : ∀ q ∈ lw_privs_1, lw_okq q := List.forall_mem_cons.mpr ⟨lw_p0, List.forall_mem_cons.mpr ⟨lw_p1, List.forall_mem_cons.mpr ⟨lw_p2, List.forall_mem_cons.mpr ⟨lw_p3, List.forall_mem_cons.mpr ⟨lw_p4, List.forall_mem_cons.mpr ⟨lw_p5, List.forall_mem_cons.mpr ⟨lw_p6, List.forall_mem_cons.mpr ⟨lw_p7, List.forall_mem_cons.mpr ⟨lw_p8, List.forall_mem_cons.mpr ⟨lw_p9, List.forall_mem_cons.mpr ⟨lw_p10, List.forall_mem_cons.mpr ⟨lw_p11, List.forall_mem_cons.mpr ⟨lw_p12, List.forall_mem_cons.mpr ⟨lw_p13, List.forall_mem_cons.mpr ⟨lw_p14, List.forall_mem_cons.mpr ⟨lw_p15, fun _ h => absurd h List.not_mem_nil⟩⟩⟩⟩⟩⟩⟩⟩⟩⟩⟩⟩⟩⟩⟩⟩
theorem lw_p16 : lw_okq (⟨"ForgiveCamp$WeeksReader", "takeRest", "(ILForgiveCamp$Camp;)Z"⟩, 4) := ⟨⟨by decide +kernel, by decide +kernel⟩, List.mem_of_getElem? (i := 366) (by decide +kernel), List.mem_of_getElem? (i := 818) (by decide +kernel), List.mem_of_getElem? (i := 819) (by decide +kernel)⟩
theorem lw_p17 : lw_okq (⟨"ForgiveCamp$WeeksReader", "takeOne", "(II)Z"⟩, 4) := ⟨⟨by decide +kernel, by decide +kernel⟩, List.mem_of_getElem? (i := 366) (by decide +kernel), List.mem_of_getElem? (i := 822) (by decide +kernel), List.mem_of_getElem? (i := 823) (by decide +kernel)⟩
theorem lw_p18 : lw_okq (⟨"ForgiveCamp$WeeksReader", "takePair", "(LForgiveCamp$Camp;)Z"⟩, 4) := ⟨⟨by decide +kernel, by decide +kernel⟩, List.mem_of_getElem? (i := 366) (by decide +kernel), List.mem_of_getElem? (i := 831) (by decide +kernel), List.mem_of_getElem? (i := 832) (by decide +kernel)⟩
theorem lw_p19 : lw_okq (⟨"ForgiveCamp$WeeksReader", "takeBoy", "(LForgiveCamp$Camp;)Z"⟩, 4) := ⟨⟨by decide +kernel, by decide +kernel⟩, List.mem_of_getElem? (i := 366) (by decide +kernel), List.mem_of_getElem? (i := 836) (by decide +kernel), List.mem_of_getElem? (i := 837) (by decide +kernel)⟩
theorem lw_p20 : lw_okq (⟨"ForgiveCamp$WeeksReader", "takeBoyAndCell", "(LForgiveCamp$Camp;)Z"⟩, 4) := ⟨⟨by decide +kernel, by decide +kernel⟩, List.mem_of_getElem? (i := 366) (by decide +kernel), List.mem_of_getElem? (i := 840) (by decide +kernel), List.mem_of_getElem? (i := 841) (by decide +kernel)⟩
theorem lw_p21 : lw_okq (⟨"ForgiveCamp$WeeksReader", "takeTest", "(LForgiveCamp$Camp;)Z"⟩, 4) := ⟨⟨by decide +kernel, by decide +kernel⟩, List.mem_of_getElem? (i := 366) (by decide +kernel), List.mem_of_getElem? (i := 844) (by decide +kernel), List.mem_of_getElem? (i := 845) (by decide +kernel)⟩
theorem lw_p22 : lw_okq (⟨"ForgiveCamp$Camp", "endBy", "(IZZ)I"⟩, 17) := ⟨⟨by decide +kernel, by decide +kernel⟩, List.mem_of_getElem? (i := 30) (by decide +kernel), List.mem_of_getElem? (i := 931) (by decide +kernel), List.mem_of_getElem? (i := 932) (by decide +kernel)⟩
theorem lw_p23 : lw_okq (⟨"ForgiveCamp$Ahead", "begin", "()V"⟩, 4) := ⟨⟨by decide +kernel, by decide +kernel⟩, List.mem_of_getElem? (i := 136) (by decide +kernel), List.mem_of_getElem? (i := 1024) (by decide +kernel), List.mem_of_getElem? (i := 1025) (by decide +kernel)⟩
theorem lw_p24 : lw_okq (⟨"ForgiveCamp$Ahead", "note", "(I)V"⟩, 4) := ⟨⟨by decide +kernel, by decide +kernel⟩, List.mem_of_getElem? (i := 136) (by decide +kernel), List.mem_of_getElem? (i := 1036) (by decide +kernel), List.mem_of_getElem? (i := 1037) (by decide +kernel)⟩
theorem lw_p25 : lw_okq (⟨"ForgiveCamp", "soonestStatus", "(I)I"⟩, 20) := ⟨⟨by decide +kernel, by decide +kernel⟩, List.mem_of_getElem? (i := 22) (by decide +kernel), List.mem_of_getElem? (i := 1077) (by decide +kernel), List.mem_of_getElem? (i := 1078) (by decide +kernel)⟩
theorem lw_p26 : lw_okq (⟨"ForgiveCamp$Plans", "breakfastIfYield", "(LForgiveCamp$Camp;I)I"⟩, 3) := ⟨⟨by decide +kernel, by decide +kernel⟩, List.mem_of_getElem? (i := 162) (by decide +kernel), List.mem_of_getElem? (i := 1088) (by decide +kernel), List.mem_of_getElem? (i := 1089) (by decide +kernel)⟩
theorem lw_p27 : lw_okq (⟨"ForgiveCamp", "clueStatus", "(III)I"⟩, 20) := ⟨⟨by decide +kernel, by decide +kernel⟩, List.mem_of_getElem? (i := 22) (by decide +kernel), List.mem_of_getElem? (i := 1175) (by decide +kernel), List.mem_of_getElem? (i := 1176) (by decide +kernel)⟩
theorem lw_p28 : lw_okq (⟨"ForgiveCamp", "fittingPrides", "(III)I"⟩, 20) := ⟨⟨by decide +kernel, by decide +kernel⟩, List.mem_of_getElem? (i := 22) (by decide +kernel), List.mem_of_getElem? (i := 1180) (by decide +kernel), List.mem_of_getElem? (i := 1181) (by decide +kernel)⟩
theorem lw_p29 : lw_okq (⟨"ForgiveCamp$Clues", "asSeen", "(I)Z"⟩, 6) := ⟨⟨by decide +kernel, by decide +kernel⟩, List.mem_of_getElem? (i := 179) (by decide +kernel), List.mem_of_getElem? (i := 1200) (by decide +kernel), List.mem_of_getElem? (i := 1201) (by decide +kernel)⟩
theorem lw_p30 : lw_okq (⟨"ForgiveCamp$Clues", "mostAlike", "(II)I"⟩, 6) := ⟨⟨by decide +kernel, by decide +kernel⟩, List.mem_of_getElem? (i := 179) (by decide +kernel), List.mem_of_getElem? (i := 1223) (by decide +kernel), List.mem_of_getElem? (i := 1224) (by decide +kernel)⟩
theorem lw_p31 : lw_okq (⟨"ForgiveCamp$Clues", "alike", "(III)I"⟩, 6) := ⟨⟨by decide +kernel, by decide +kernel⟩, List.mem_of_getElem? (i := 179) (by decide +kernel), List.mem_of_getElem? (i := 1227) (by decide +kernel), List.mem_of_getElem? (i := 1228) (by decide +kernel)⟩
def lw_privs_2 : List (MethodName × Nat) := [(⟨"ForgiveCamp$WeeksReader", "takeRest", "(ILForgiveCamp$Camp;)Z"⟩, 4), (⟨"ForgiveCamp$WeeksReader", "takeOne", "(II)Z"⟩, 4), (⟨"ForgiveCamp$WeeksReader", "takePair", "(LForgiveCamp$Camp;)Z"⟩, 4), (⟨"ForgiveCamp$WeeksReader", "takeBoy", "(LForgiveCamp$Camp;)Z"⟩, 4), (⟨"ForgiveCamp$WeeksReader", "takeBoyAndCell", "(LForgiveCamp$Camp;)Z"⟩, 4), (⟨"ForgiveCamp$WeeksReader", "takeTest", "(LForgiveCamp$Camp;)Z"⟩, 4), (⟨"ForgiveCamp$Camp", "endBy", "(IZZ)I"⟩, 17), (⟨"ForgiveCamp$Ahead", "begin", "()V"⟩, 4), (⟨"ForgiveCamp$Ahead", "note", "(I)V"⟩, 4), (⟨"ForgiveCamp", "soonestStatus", "(I)I"⟩, 20), (⟨"ForgiveCamp$Plans", "breakfastIfYield", "(LForgiveCamp$Camp;I)I"⟩, 3), (⟨"ForgiveCamp", "clueStatus", "(III)I"⟩, 20), (⟨"ForgiveCamp", "fittingPrides", "(III)I"⟩, 20), (⟨"ForgiveCamp$Clues", "asSeen", "(I)Z"⟩, 6), (⟨"ForgiveCamp$Clues", "mostAlike", "(II)I"⟩, 6), (⟨"ForgiveCamp$Clues", "alike", "(III)I"⟩, 6)]
theorem lw_r2 : ∀ q ∈ lw_privs_2, lw_okq q := List.forall_mem_cons.mpr ⟨lw_p16, List.forall_mem_cons.mpr ⟨lw_p17, List.forall_mem_cons.mpr ⟨lw_p18, List.forall_mem_cons.mpr ⟨lw_p19, List.forall_mem_cons.mpr ⟨lw_p20, List.forall_mem_cons.mpr ⟨lw_p21, List.forall_mem_cons.mpr ⟨lw_p22, List.forall_mem_cons.mpr ⟨lw_p23, List.forall_mem_cons.mpr ⟨lw_p24, List.forall_mem_cons.mpr ⟨lw_p25, List.forall_mem_cons.mpr ⟨lw_p26, List.forall_mem_cons.mpr ⟨lw_p27, List.forall_mem_cons.mpr ⟨lw_p28, List.forall_mem_cons.mpr ⟨lw_p29, List.forall_mem_cons.mpr ⟨lw_p30, List.forall_mem_cons.mpr ⟨lw_p31, fun _ h => absurd h List.not_mem_nil⟩⟩⟩⟩⟩⟩⟩⟩⟩⟩⟩⟩⟩⟩⟩⟩
theorem lw_p32 : lw_okq (⟨"ForgiveCamp", "tellFraction", "(JJ)V"⟩, 20) := ⟨⟨by decide +kernel, by decide +kernel⟩, List.mem_of_getElem? (i := 22) (by decide +kernel), List.mem_of_getElem? (i := 1292) (by decide +kernel), List.mem_of_getElem? (i := 1293) (by decide +kernel)⟩
theorem lw_p33 : lw_okq (⟨"ForgiveCamp$Life", "behindEnd", "(LForgiveCamp$Weeks;I)I"⟩, 8) := ⟨⟨by decide +kernel, by decide +kernel⟩, List.mem_of_getElem? (i := 429) (by decide +kernel), List.mem_of_getElem? (i := 1318) (by decide +kernel), List.mem_of_getElem? (i := 1319) (by decide +kernel)⟩
theorem lw_p34 : lw_okq (⟨"ForgiveCamp$Life", "behindStep", "(LForgiveCamp$Camp;LForgiveCamp$Weeks;I)I"⟩, 8) := ⟨⟨by decide +kernel, by decide +kernel⟩, List.mem_of_getElem? (i := 429) (by decide +kernel), List.mem_of_getElem? (i := 1322) (by decide +kernel), List.mem_of_getElem? (i := 1323) (by decide +kernel)⟩
theorem lw_p35 : lw_okq (⟨"ForgiveCamp$Life", "letPass", "(LForgiveCamp$Camp;I)Z"⟩, 8) := ⟨⟨by decide +kernel, by decide +kernel⟩, List.mem_of_getElem? (i := 429) (by decide +kernel), List.mem_of_getElem? (i := 1333) (by decide +kernel), List.mem_of_getElem? (i := 1334) (by decide +kernel)⟩
theorem lw_p36 : lw_okq (⟨"ForgiveCamp$Life", "behind", "(IZ)I"⟩, 8) := ⟨⟨by decide +kernel, by decide +kernel⟩, List.mem_of_getElem? (i := 429) (by decide +kernel), List.mem_of_getElem? (i := 1338) (by decide +kernel), List.mem_of_getElem? (i := 1339) (by decide +kernel)⟩
theorem lw_p37 : lw_okq (⟨"ForgiveCamp$Life", "fallOut", "(LForgiveCamp$Camp;III)Z"⟩, 8) := ⟨⟨by decide +kernel, by decide +kernel⟩, List.mem_of_getElem? (i := 429) (by decide +kernel), List.mem_of_getElem? (i := 1346) (by decide +kernel), List.mem_of_getElem? (i := 1347) (by decide +kernel)⟩
theorem lw_p38 : lw_okq (⟨"ForgiveCamp$Life", "drawQuarrel", "(LForgiveCamp$Camp;)Z"⟩, 8) := ⟨⟨by decide +kernel, by decide +kernel⟩, List.mem_of_getElem? (i := 429) (by decide +kernel), List.mem_of_getElem? (i := 1356) (by decide +kernel), List.mem_of_getElem? (i := 1357) (by decide +kernel)⟩
theorem lw_p39 : lw_okq (⟨"ForgiveCamp$Life", "drawBy", "(I)I"⟩, 8) := ⟨⟨by decide +kernel, by decide +kernel⟩, List.mem_of_getElem? (i := 429) (by decide +kernel), List.mem_of_getElem? (i := 1360) (by decide +kernel), List.mem_of_getElem? (i := 1361) (by decide +kernel)⟩
theorem lw_p40 : lw_okq (⟨"ForgiveCampModel", "plain", "(I)V"⟩, 44) := ⟨⟨by decide +kernel, by decide +kernel⟩, List.mem_of_getElem? (i := 1381) (by decide +kernel), List.mem_of_getElem? (i := 1387) (by decide +kernel), List.mem_of_getElem? (i := 1388) (by decide +kernel)⟩
theorem lw_p41 : lw_okq (⟨"ForgiveCampModel", "is", "(I)Z"⟩, 44) := ⟨⟨by decide +kernel, by decide +kernel⟩, List.mem_of_getElem? (i := 1381) (by decide +kernel), List.mem_of_getElem? (i := 1544) (by decide +kernel), List.mem_of_getElem? (i := 1545) (by decide +kernel)⟩
theorem lw_p42 : lw_okq (⟨"ForgiveCampModel", "wrongPlace", "(II)I"⟩, 44) := ⟨⟨by decide +kernel, by decide +kernel⟩, List.mem_of_getElem? (i := 1381) (by decide +kernel), List.mem_of_getElem? (i := 1552) (by decide +kernel), List.mem_of_getElem? (i := 1553) (by decide +kernel)⟩
theorem lw_p43 : lw_okq (⟨"ForgiveCampModel", "four", "(I)V"⟩, 44) := ⟨⟨by decide +kernel, by decide +kernel⟩, List.mem_of_getElem? (i := 1381) (by decide +kernel), List.mem_of_getElem? (i := 1572) (by decide +kernel), List.mem_of_getElem? (i := 1573) (by decide +kernel)⟩
theorem lw_p44 : lw_okq (⟨"ForgiveCampModel", "begins", "(II)Z"⟩, 44) := ⟨⟨by decide +kernel, by decide +kernel⟩, List.mem_of_getElem? (i := 1381) (by decide +kernel), List.mem_of_getElem? (i := 1584) (by decide +kernel), List.mem_of_getElem? (i := 1585) (by decide +kernel)⟩
theorem lw_p45 : lw_okq (⟨"ForgiveCampModel", "ahead", "()V"⟩, 44) := ⟨⟨by decide +kernel, by decide +kernel⟩, List.mem_of_getElem? (i := 1381) (by decide +kernel), List.mem_of_getElem? (i := 1588) (by decide +kernel), List.mem_of_getElem? (i := 1589) (by decide +kernel)⟩
theorem lw_p46 : lw_okq (⟨"ForgiveCampModel", "byteAt", "(I)I"⟩, 44) := ⟨⟨by decide +kernel, by decide +kernel⟩, List.mem_of_getElem? (i := 1381) (by decide +kernel), List.mem_of_getElem? (i := 1592) (by decide +kernel), List.mem_of_getElem? (i := 1593) (by decide +kernel)⟩
theorem lw_p47 : lw_okq (⟨"ForgiveCampModel", "refuse", "(I)I"⟩, 44) := ⟨⟨by decide +kernel, by decide +kernel⟩, List.mem_of_getElem? (i := 1381) (by decide +kernel), List.mem_of_getElem? (i := 1604) (by decide +kernel), List.mem_of_getElem? (i := 1605) (by decide +kernel)⟩
def lw_privs_3 : List (MethodName × Nat) := [(⟨"ForgiveCamp", "tellFraction", "(JJ)V"⟩, 20), (⟨"ForgiveCamp$Life", "behindEnd", "(LForgiveCamp$Weeks;I)I"⟩, 8), (⟨"ForgiveCamp$Life", "behindStep", "(LForgiveCamp$Camp;LForgiveCamp$Weeks;I)I"⟩, 8), (⟨"ForgiveCamp$Life", "letPass", "(LForgiveCamp$Camp;I)Z"⟩, 8), (⟨"ForgiveCamp$Life", "behind", "(IZ)I"⟩, 8), (⟨"ForgiveCamp$Life", "fallOut", "(LForgiveCamp$Camp;III)Z"⟩, 8), (⟨"ForgiveCamp$Life", "drawQuarrel", "(LForgiveCamp$Camp;)Z"⟩, 8), (⟨"ForgiveCamp$Life", "drawBy", "(I)I"⟩, 8), (⟨"ForgiveCampModel", "plain", "(I)V"⟩, 44), (⟨"ForgiveCampModel", "is", "(I)Z"⟩, 44), (⟨"ForgiveCampModel", "wrongPlace", "(II)I"⟩, 44), (⟨"ForgiveCampModel", "four", "(I)V"⟩, 44), (⟨"ForgiveCampModel", "begins", "(II)Z"⟩, 44), (⟨"ForgiveCampModel", "ahead", "()V"⟩, 44), (⟨"ForgiveCampModel", "byteAt", "(I)I"⟩, 44), (⟨"ForgiveCampModel", "refuse", "(I)I"⟩, 44)]
theorem lw_r3 : ∀ q ∈ lw_privs_3, lw_okq q := List.forall_mem_cons.mpr ⟨lw_p32, List.forall_mem_cons.mpr ⟨lw_p33, List.forall_mem_cons.mpr ⟨lw_p34, List.forall_mem_cons.mpr ⟨lw_p35, List.forall_mem_cons.mpr ⟨lw_p36, List.forall_mem_cons.mpr ⟨lw_p37, List.forall_mem_cons.mpr ⟨lw_p38, List.forall_mem_cons.mpr ⟨lw_p39, List.forall_mem_cons.mpr ⟨lw_p40, List.forall_mem_cons.mpr ⟨lw_p41, List.forall_mem_cons.mpr ⟨lw_p42, List.forall_mem_cons.mpr ⟨lw_p43, List.forall_mem_cons.mpr ⟨lw_p44, List.forall_mem_cons.mpr ⟨lw_p45, List.forall_mem_cons.mpr ⟨lw_p46, List.forall_mem_cons.mpr ⟨lw_p47, fun _ h => absurd h List.not_mem_nil⟩⟩⟩⟩⟩⟩⟩⟩⟩⟩⟩⟩⟩⟩⟩⟩
theorem lw_p48 : lw_okq (⟨"ForgiveCampModel", "campPart", "()Z"⟩, 44) := ⟨⟨by decide +kernel, by decide +kernel⟩, List.mem_of_getElem? (i := 1381) (by decide +kernel), List.mem_of_getElem? (i := 1608) (by decide +kernel), List.mem_of_getElem? (i := 1609) (by decide +kernel)⟩
theorem lw_p49 : lw_okq (⟨"ForgiveCampModel", "inWords", "(Ljava/lang/String;)I"⟩, 44) := ⟨⟨by decide +kernel, by decide +kernel⟩, List.mem_of_getElem? (i := 1381) (by decide +kernel), List.mem_of_getElem? (i := 1613) (by decide +kernel), List.mem_of_getElem? (i := 1614) (by decide +kernel)⟩
theorem lw_p50 : lw_okq (⟨"ForgiveCampModel", "fails", "(I)Z"⟩, 44) := ⟨⟨by decide +kernel, by decide +kernel⟩, List.mem_of_getElem? (i := 1381) (by decide +kernel), List.mem_of_getElem? (i := 1619) (by decide +kernel), List.mem_of_getElem? (i := 1620) (by decide +kernel)⟩
theorem lw_p51 : lw_okq (⟨"ForgiveCampModel", "aField", "()Z"⟩, 44) := ⟨⟨by decide +kernel, by decide +kernel⟩, List.mem_of_getElem? (i := 1381) (by decide +kernel), List.mem_of_getElem? (i := 1623) (by decide +kernel), List.mem_of_getElem? (i := 1624) (by decide +kernel)⟩
theorem lw_p52 : lw_okq (⟨"ForgiveCampModel", "number", "(III)Z"⟩, 44) := ⟨⟨by decide +kernel, by decide +kernel⟩, List.mem_of_getElem? (i := 1381) (by decide +kernel), List.mem_of_getElem? (i := 1627) (by decide +kernel), List.mem_of_getElem? (i := 1628) (by decide +kernel)⟩
theorem lw_p53 : lw_okq (⟨"ForgiveCampModel", "wantWord", "(Ljava/lang/String;I)Z"⟩, 44) := ⟨⟨by decide +kernel, by decide +kernel⟩, List.mem_of_getElem? (i := 1381) (by decide +kernel), List.mem_of_getElem? (i := 1631) (by decide +kernel), List.mem_of_getElem? (i := 1632) (by decide +kernel)⟩
theorem lw_p54 : lw_okq (⟨"ForgiveCampModel", "aBoy", "()Z"⟩, 44) := ⟨⟨by decide +kernel, by decide +kernel⟩, List.mem_of_getElem? (i := 1381) (by decide +kernel), List.mem_of_getElem? (i := 1635) (by decide +kernel), List.mem_of_getElem? (i := 1636) (by decide +kernel)⟩
theorem lw_p55 : lw_okq (⟨"ForgiveCampModel", "isName", "(Ljava/lang/String;)Z"⟩, 44) := ⟨⟨by decide +kernel, by decide +kernel⟩, List.mem_of_getElem? (i := 1381) (by decide +kernel), List.mem_of_getElem? (i := 1642) (by decide +kernel), List.mem_of_getElem? (i := 1643) (by decide +kernel)⟩
theorem lw_p56 : lw_okq (⟨"ForgiveCampModel", "findHere", "(II)I"⟩, 44) := ⟨⟨by decide +kernel, by decide +kernel⟩, List.mem_of_getElem? (i := 1381) (by decide +kernel), List.mem_of_getElem? (i := 1646) (by decide +kernel), List.mem_of_getElem? (i := 1647) (by decide +kernel)⟩
theorem lw_p57 : lw_okq (⟨"ForgiveCampModel", "nameHere", "()J"⟩, 44) := ⟨⟨by decide +kernel, by decide +kernel⟩, List.mem_of_getElem? (i := 1381) (by decide +kernel), List.mem_of_getElem? (i := 1650) (by decide +kernel), List.mem_of_getElem? (i := 1651) (by decide +kernel)⟩
theorem lw_p58 : lw_okq (⟨"ForgiveCampModel", "isThere", "(I)Z"⟩, 44) := ⟨⟨by decide +kernel, by decide +kernel⟩, List.mem_of_getElem? (i := 1381) (by decide +kernel), List.mem_of_getElem? (i := 1654) (by decide +kernel), List.mem_of_getElem? (i := 1655) (by decide +kernel)⟩
theorem lw_p59 : lw_okq (⟨"ForgiveCampModel", "aQuarrel", "()Z"⟩, 44) := ⟨⟨by decide +kernel, by decide +kernel⟩, List.mem_of_getElem? (i := 1381) (by decide +kernel), List.mem_of_getElem? (i := 1658) (by decide +kernel), List.mem_of_getElem? (i := 1659) (by decide +kernel)⟩
theorem lw_p60 : lw_okq (⟨"ForgiveCampModel", "oldBoy", "(III)Z"⟩, 44) := ⟨⟨by decide +kernel, by decide +kernel⟩, List.mem_of_getElem? (i := 1381) (by decide +kernel), List.mem_of_getElem? (i := 1665) (by decide +kernel), List.mem_of_getElem? (i := 1666) (by decide +kernel)⟩
theorem lw_p61 : lw_okq (⟨"ForgiveCampModel", "wantSign", "(I)Z"⟩, 44) := ⟨⟨by decide +kernel, by decide +kernel⟩, List.mem_of_getElem? (i := 1381) (by decide +kernel), List.mem_of_getElem? (i := 1669) (by decide +kernel), List.mem_of_getElem? (i := 1670) (by decide +kernel)⟩
theorem lw_p62 : lw_okq (⟨"ForgiveCampModel", "isSign", "(I)Z"⟩, 44) := ⟨⟨by decide +kernel, by decide +kernel⟩, List.mem_of_getElem? (i := 1381) (by decide +kernel), List.mem_of_getElem? (i := 1673) (by decide +kernel), List.mem_of_getElem? (i := 1674) (by decide +kernel)⟩
theorem lw_p63 : lw_okq (⟨"ForgiveCampModel", "taken", "(I)I"⟩, 44) := ⟨⟨by decide +kernel, by decide +kernel⟩, List.mem_of_getElem? (i := 1381) (by decide +kernel), List.mem_of_getElem? (i := 1677) (by decide +kernel), List.mem_of_getElem? (i := 1678) (by decide +kernel)⟩
def lw_privs_4 : List (MethodName × Nat) := [(⟨"ForgiveCampModel", "campPart", "()Z"⟩, 44), (⟨"ForgiveCampModel", "inWords", "(Ljava/lang/String;)I"⟩, 44), (⟨"ForgiveCampModel", "fails", "(I)Z"⟩, 44), (⟨"ForgiveCampModel", "aField", "()Z"⟩, 44), (⟨"ForgiveCampModel", "number", "(III)Z"⟩, 44), (⟨"ForgiveCampModel", "wantWord", "(Ljava/lang/String;I)Z"⟩, 44), (⟨"ForgiveCampModel", "aBoy", "()Z"⟩, 44), (⟨"ForgiveCampModel", "isName", "(Ljava/lang/String;)Z"⟩, 44), (⟨"ForgiveCampModel", "findHere", "(II)I"⟩, 44), (⟨"ForgiveCampModel", "nameHere", "()J"⟩, 44), (⟨"ForgiveCampModel", "isThere", "(I)Z"⟩, 44), (⟨"ForgiveCampModel", "aQuarrel", "()Z"⟩, 44), (⟨"ForgiveCampModel", "oldBoy", "(III)Z"⟩, 44), (⟨"ForgiveCampModel", "wantSign", "(I)Z"⟩, 44), (⟨"ForgiveCampModel", "isSign", "(I)Z"⟩, 44), (⟨"ForgiveCampModel", "taken", "(I)I"⟩, 44)]
theorem lw_r4 : ∀ q ∈ lw_privs_4, lw_okq q := List.forall_mem_cons.mpr ⟨lw_p48, List.forall_mem_cons.mpr ⟨lw_p49, List.forall_mem_cons.mpr ⟨lw_p50, List.forall_mem_cons.mpr ⟨lw_p51, List.forall_mem_cons.mpr ⟨lw_p52, List.forall_mem_cons.mpr ⟨lw_p53, List.forall_mem_cons.mpr ⟨lw_p54, List.forall_mem_cons.mpr ⟨lw_p55, List.forall_mem_cons.mpr ⟨lw_p56, List.forall_mem_cons.mpr ⟨lw_p57, List.forall_mem_cons.mpr ⟨lw_p58, List.forall_mem_cons.mpr ⟨lw_p59, List.forall_mem_cons.mpr ⟨lw_p60, List.forall_mem_cons.mpr ⟨lw_p61, List.forall_mem_cons.mpr ⟨lw_p62, List.forall_mem_cons.mpr ⟨lw_p63, fun _ h => absurd h List.not_mem_nil⟩⟩⟩⟩⟩⟩⟩⟩⟩⟩⟩⟩⟩⟩⟩⟩
theorem lw_p64 : lw_okq (⟨"ForgiveCampModel", "gives", "(I)I"⟩, 44) := ⟨⟨by decide +kernel, by decide +kernel⟩, List.mem_of_getElem? (i := 1381) (by decide +kernel), List.mem_of_getElem? (i := 1681) (by decide +kernel), List.mem_of_getElem? (i := 1682) (by decide +kernel)⟩
theorem lw_p65 : lw_okq (⟨"ForgiveCampModel", "weekStep", "()Z"⟩, 44) := ⟨⟨by decide +kernel, by decide +kernel⟩, List.mem_of_getElem? (i := 1381) (by decide +kernel), List.mem_of_getElem? (i := 1689) (by decide +kernel), List.mem_of_getElem? (i := 1690) (by decide +kernel)⟩
theorem lw_p66 : lw_okq (⟨"ForgiveCampModel", "weekOrder", "(II)Z"⟩, 44) := ⟨⟨by decide +kernel, by decide +kernel⟩, List.mem_of_getElem? (i := 1381) (by decide +kernel), List.mem_of_getElem? (i := 1693) (by decide +kernel), List.mem_of_getElem? (i := 1694) (by decide +kernel)⟩
theorem lw_p67 : lw_okq (⟨"ForgiveCampModel", "boyTo", "(I)Z"⟩, 44) := ⟨⟨by decide +kernel, by decide +kernel⟩, List.mem_of_getElem? (i := 1381) (by decide +kernel), List.mem_of_getElem? (i := 1697) (by decide +kernel), List.mem_of_getElem? (i := 1698) (by decide +kernel)⟩
theorem lw_p68 : lw_okq (⟨"ForgiveCampModel", "cells", "()I"⟩, 44) := ⟨⟨by decide +kernel, by decide +kernel⟩, List.mem_of_getElem? (i := 1381) (by decide +kernel), List.mem_of_getElem? (i := 1701) (by decide +kernel), List.mem_of_getElem? (i := 1702) (by decide +kernel)⟩
theorem lw_p69 : lw_okq (⟨"ForgiveCampModel", "test", "(I)Z"⟩, 44) := ⟨⟨by decide +kernel, by decide +kernel⟩, List.mem_of_getElem? (i := 1381) (by decide +kernel), List.mem_of_getElem? (i := 1705) (by decide +kernel), List.mem_of_getElem? (i := 1706) (by decide +kernel)⟩
theorem lw_p70 : lw_okq (⟨"ForgiveCampModel", "areUp", "()I"⟩, 44) := ⟨⟨by decide +kernel, by decide +kernel⟩, List.mem_of_getElem? (i := 1381) (by decide +kernel), List.mem_of_getElem? (i := 1713) (by decide +kernel), List.mem_of_getElem? (i := 1714) (by decide +kernel)⟩
theorem lw_p71 : lw_okq (⟨"ForgiveCampModel", "openOf", "(I)I"⟩, 44) := ⟨⟨by decide +kernel, by decide +kernel⟩, List.mem_of_getElem? (i := 1381) (by decide +kernel), List.mem_of_getElem? (i := 1717) (by decide +kernel), List.mem_of_getElem? (i := 1718) (by decide +kernel)⟩
theorem lw_p72 : lw_okq (⟨"ForgiveCampModel", "isOpen", "(I)Z"⟩, 44) := ⟨⟨by decide +kernel, by decide +kernel⟩, List.mem_of_getElem? (i := 1381) (by decide +kernel), List.mem_of_getElem? (i := 1721) (by decide +kernel), List.mem_of_getElem? (i := 1722) (by decide +kernel)⟩
theorem lw_p73 : lw_okq (⟨"ForgiveCampModel", "quarrelOf", "(II)I"⟩, 44) := ⟨⟨by decide +kernel, by decide +kernel⟩, List.mem_of_getElem? (i := 1381) (by decide +kernel), List.mem_of_getElem? (i := 1725) (by decide +kernel), List.mem_of_getElem? (i := 1726) (by decide +kernel)⟩
theorem lw_p74 : lw_okq (⟨"ForgiveCampModel", "both", "(I)I"⟩, 44) := ⟨⟨by decide +kernel, by decide +kernel⟩, List.mem_of_getElem? (i := 1381) (by decide +kernel), List.mem_of_getElem? (i := 1729) (by decide +kernel), List.mem_of_getElem? (i := 1730) (by decide +kernel)⟩
theorem lw_p75 : lw_okq (⟨"ForgiveCampModel", "isIn", "(II)Z"⟩, 44) := ⟨⟨by decide +kernel, by decide +kernel⟩, List.mem_of_getElem? (i := 1381) (by decide +kernel), List.mem_of_getElem? (i := 1733) (by decide +kernel), List.mem_of_getElem? (i := 1734) (by decide +kernel)⟩
theorem lw_p76 : lw_okq (⟨"ForgiveCampModel", "openOnes", "()I"⟩, 44) := ⟨⟨by decide +kernel, by decide +kernel⟩, List.mem_of_getElem? (i := 1381) (by decide +kernel), List.mem_of_getElem? (i := 1737) (by decide +kernel), List.mem_of_getElem? (i := 1738) (by decide +kernel)⟩
theorem lw_p77 : lw_okq (⟨"ForgiveCampModel", "allGrudges", "()I"⟩, 44) := ⟨⟨by decide +kernel, by decide +kernel⟩, List.mem_of_getElem? (i := 1381) (by decide +kernel), List.mem_of_getElem? (i := 1741) (by decide +kernel), List.mem_of_getElem? (i := 1742) (by decide +kernel)⟩
theorem lw_p78 : lw_okq (⟨"ForgiveCampModel", "isBoy", "(J)Z"⟩, 44) := ⟨⟨by decide +kernel, by decide +kernel⟩, List.mem_of_getElem? (i := 1381) (by decide +kernel), List.mem_of_getElem? (i := 1749) (by decide +kernel), List.mem_of_getElem? (i := 1750) (by decide +kernel)⟩
theorem lw_p79 : lw_okq (⟨"ForgiveCampModel", "boyOf", "(II)I"⟩, 44) := ⟨⟨by decide +kernel, by decide +kernel⟩, List.mem_of_getElem? (i := 1381) (by decide +kernel), List.mem_of_getElem? (i := 1756) (by decide +kernel), List.mem_of_getElem? (i := 1757) (by decide +kernel)⟩
def lw_privs_5 : List (MethodName × Nat) := [(⟨"ForgiveCampModel", "gives", "(I)I"⟩, 44), (⟨"ForgiveCampModel", "weekStep", "()Z"⟩, 44), (⟨"ForgiveCampModel", "weekOrder", "(II)Z"⟩, 44), (⟨"ForgiveCampModel", "boyTo", "(I)Z"⟩, 44), (⟨"ForgiveCampModel", "cells", "()I"⟩, 44), (⟨"ForgiveCampModel", "test", "(I)Z"⟩, 44), (⟨"ForgiveCampModel", "areUp", "()I"⟩, 44), (⟨"ForgiveCampModel", "openOf", "(I)I"⟩, 44), (⟨"ForgiveCampModel", "isOpen", "(I)Z"⟩, 44), (⟨"ForgiveCampModel", "quarrelOf", "(II)I"⟩, 44), (⟨"ForgiveCampModel", "both", "(I)I"⟩, 44), (⟨"ForgiveCampModel", "isIn", "(II)Z"⟩, 44), (⟨"ForgiveCampModel", "openOnes", "()I"⟩, 44), (⟨"ForgiveCampModel", "allGrudges", "()I"⟩, 44), (⟨"ForgiveCampModel", "isBoy", "(J)Z"⟩, 44), (⟨"ForgiveCampModel", "boyOf", "(II)I"⟩, 44)]
theorem lw_r5 : ∀ q ∈ lw_privs_5, lw_okq q := List.forall_mem_cons.mpr ⟨lw_p64, List.forall_mem_cons.mpr ⟨lw_p65, List.forall_mem_cons.mpr ⟨lw_p66, List.forall_mem_cons.mpr ⟨lw_p67, List.forall_mem_cons.mpr ⟨lw_p68, List.forall_mem_cons.mpr ⟨lw_p69, List.forall_mem_cons.mpr ⟨lw_p70, List.forall_mem_cons.mpr ⟨lw_p71, List.forall_mem_cons.mpr ⟨lw_p72, List.forall_mem_cons.mpr ⟨lw_p73, List.forall_mem_cons.mpr ⟨lw_p74, List.forall_mem_cons.mpr ⟨lw_p75, List.forall_mem_cons.mpr ⟨lw_p76, List.forall_mem_cons.mpr ⟨lw_p77, List.forall_mem_cons.mpr ⟨lw_p78, List.forall_mem_cons.mpr ⟨lw_p79, fun _ h => absurd h List.not_mem_nil⟩⟩⟩⟩⟩⟩⟩⟩⟩⟩⟩⟩⟩⟩⟩⟩
theorem lw_p80 : lw_okq (⟨"ForgiveCampModel", "isQuarrel", "(I)Z"⟩, 44) := ⟨⟨by decide +kernel, by decide +kernel⟩, List.mem_of_getElem? (i := 1381) (by decide +kernel), List.mem_of_getElem? (i := 1764) (by decide +kernel), List.mem_of_getElem? (i := 1765) (by decide +kernel)⟩
theorem lw_p81 : lw_okq (⟨"ForgiveCampModel", "minutesGo", "(I)I"⟩, 44) := ⟨⟨by decide +kernel, by decide +kernel⟩, List.mem_of_getElem? (i := 1381) (by decide +kernel), List.mem_of_getElem? (i := 1776) (by decide +kernel), List.mem_of_getElem? (i := 1777) (by decide +kernel)⟩
theorem lw_p82 : lw_okq (⟨"ForgiveCampModel", "minuteGoes", "()I"⟩, 44) := ⟨⟨by decide +kernel, by decide +kernel⟩, List.mem_of_getElem? (i := 1381) (by decide +kernel), List.mem_of_getElem? (i := 1780) (by decide +kernel), List.mem_of_getElem? (i := 1781) (by decide +kernel)⟩
theorem lw_p83 : lw_okq (⟨"ForgiveCampModel", "dueOf", "(III)I"⟩, 44) := ⟨⟨by decide +kernel, by decide +kernel⟩, List.mem_of_getElem? (i := 1381) (by decide +kernel), List.mem_of_getElem? (i := 1784) (by decide +kernel), List.mem_of_getElem? (i := 1785) (by decide +kernel)⟩
theorem lw_p84 : lw_okq (⟨"ForgiveCampModel", "nearOf", "(I)I"⟩, 44) := ⟨⟨by decide +kernel, by decide +kernel⟩, List.mem_of_getElem? (i := 1381) (by decide +kernel), List.mem_of_getElem? (i := 1788) (by decide +kernel), List.mem_of_getElem? (i := 1789) (by decide +kernel)⟩
theorem lw_p85 : lw_okq (⟨"ForgiveCampModel", "apartOf", "(II)I"⟩, 44) := ⟨⟨by decide +kernel, by decide +kernel⟩, List.mem_of_getElem? (i := 1381) (by decide +kernel), List.mem_of_getElem? (i := 1792) (by decide +kernel), List.mem_of_getElem? (i := 1793) (by decide +kernel)⟩
theorem lw_p86 : lw_okq (⟨"ForgiveCampModel", "ends", "(II)V"⟩, 44) := ⟨⟨by decide +kernel, by decide +kernel⟩, List.mem_of_getElem? (i := 1381) (by decide +kernel), List.mem_of_getElem? (i := 1799) (by decide +kernel), List.mem_of_getElem? (i := 1800) (by decide +kernel)⟩
theorem lw_p87 : lw_okq (⟨"ForgiveCampModel", "dawns", "()I"⟩, 44) := ⟨⟨by decide +kernel, by decide +kernel⟩, List.mem_of_getElem? (i := 1381) (by decide +kernel), List.mem_of_getElem? (i := 1807) (by decide +kernel), List.mem_of_getElem? (i := 1808) (by decide +kernel)⟩
theorem lw_p88 : lw_okq (⟨"ForgiveCampModel", "boots", "(III)Z"⟩, 44) := ⟨⟨by decide +kernel, by decide +kernel⟩, List.mem_of_getElem? (i := 1381) (by decide +kernel), List.mem_of_getElem? (i := 1816) (by decide +kernel), List.mem_of_getElem? (i := 1817) (by decide +kernel)⟩
theorem lw_p89 : lw_okq (⟨"ForgiveCampModel", "forgives", "(I)I"⟩, 44) := ⟨⟨by decide +kernel, by decide +kernel⟩, List.mem_of_getElem? (i := 1381) (by decide +kernel), List.mem_of_getElem? (i := 1824) (by decide +kernel), List.mem_of_getElem? (i := 1825) (by decide +kernel)⟩
theorem lw_p90 : lw_okq (⟨"ForgiveCampModel", "isCell", "(I)Z"⟩, 44) := ⟨⟨by decide +kernel, by decide +kernel⟩, List.mem_of_getElem? (i := 1381) (by decide +kernel), List.mem_of_getElem? (i := 1832) (by decide +kernel), List.mem_of_getElem? (i := 1833) (by decide +kernel)⟩
theorem lw_p91 : lw_okq (⟨"ForgiveCampModel", "pitches", "(II)Z"⟩, 44) := ⟨⟨by decide +kernel, by decide +kernel⟩, List.mem_of_getElem? (i := 1381) (by decide +kernel), List.mem_of_getElem? (i := 1836) (by decide +kernel), List.mem_of_getElem? (i := 1837) (by decide +kernel)⟩
theorem lw_p92 : lw_okq (⟨"ForgiveCampModel", "keeps", "(I)V"⟩, 44) := ⟨⟨by decide +kernel, by decide +kernel⟩, List.mem_of_getElem? (i := 1381) (by decide +kernel), List.mem_of_getElem? (i := 1879) (by decide +kernel), List.mem_of_getElem? (i := 1880) (by decide +kernel)⟩
theorem lw_p93 : lw_okq (⟨"ForgiveCampModel", "upOf", "(I)I"⟩, 44) := ⟨⟨by decide +kernel, by decide +kernel⟩, List.mem_of_getElem? (i := 1381) (by decide +kernel), List.mem_of_getElem? (i := 1883) (by decide +kernel), List.mem_of_getElem? (i := 1884) (by decide +kernel)⟩
theorem lw_p94 : lw_okq (⟨"ForgiveCampModel", "restores", "(I)V"⟩, 44) := ⟨⟨by decide +kernel, by decide +kernel⟩, List.mem_of_getElem? (i := 1381) (by decide +kernel), List.mem_of_getElem? (i := 1887) (by decide +kernel), List.mem_of_getElem? (i := 1888) (by decide +kernel)⟩
theorem lw_p95 : lw_okq (⟨"ForgiveCampModel", "breakfastNow", "()I"⟩, 44) := ⟨⟨by decide +kernel, by decide +kernel⟩, List.mem_of_getElem? (i := 1381) (by decide +kernel), List.mem_of_getElem? (i := 1900) (by decide +kernel), List.mem_of_getElem? (i := 1901) (by decide +kernel)⟩
def lw_privs_6 : List (MethodName × Nat) := [(⟨"ForgiveCampModel", "isQuarrel", "(I)Z"⟩, 44), (⟨"ForgiveCampModel", "minutesGo", "(I)I"⟩, 44), (⟨"ForgiveCampModel", "minuteGoes", "()I"⟩, 44), (⟨"ForgiveCampModel", "dueOf", "(III)I"⟩, 44), (⟨"ForgiveCampModel", "nearOf", "(I)I"⟩, 44), (⟨"ForgiveCampModel", "apartOf", "(II)I"⟩, 44), (⟨"ForgiveCampModel", "ends", "(II)V"⟩, 44), (⟨"ForgiveCampModel", "dawns", "()I"⟩, 44), (⟨"ForgiveCampModel", "boots", "(III)Z"⟩, 44), (⟨"ForgiveCampModel", "forgives", "(I)I"⟩, 44), (⟨"ForgiveCampModel", "isCell", "(I)Z"⟩, 44), (⟨"ForgiveCampModel", "pitches", "(II)Z"⟩, 44), (⟨"ForgiveCampModel", "keeps", "(I)V"⟩, 44), (⟨"ForgiveCampModel", "upOf", "(I)I"⟩, 44), (⟨"ForgiveCampModel", "restores", "(I)V"⟩, 44), (⟨"ForgiveCampModel", "breakfastNow", "()I"⟩, 44)]
theorem lw_r6 : ∀ q ∈ lw_privs_6, lw_okq q := List.forall_mem_cons.mpr ⟨lw_p80, List.forall_mem_cons.mpr ⟨lw_p81, List.forall_mem_cons.mpr ⟨lw_p82, List.forall_mem_cons.mpr ⟨lw_p83, List.forall_mem_cons.mpr ⟨lw_p84, List.forall_mem_cons.mpr ⟨lw_p85, List.forall_mem_cons.mpr ⟨lw_p86, List.forall_mem_cons.mpr ⟨lw_p87, List.forall_mem_cons.mpr ⟨lw_p88, List.forall_mem_cons.mpr ⟨lw_p89, List.forall_mem_cons.mpr ⟨lw_p90, List.forall_mem_cons.mpr ⟨lw_p91, List.forall_mem_cons.mpr ⟨lw_p92, List.forall_mem_cons.mpr ⟨lw_p93, List.forall_mem_cons.mpr ⟨lw_p94, List.forall_mem_cons.mpr ⟨lw_p95, fun _ h => absurd h List.not_mem_nil⟩⟩⟩⟩⟩⟩⟩⟩⟩⟩⟩⟩⟩⟩⟩⟩
theorem lw_p96 : lw_okq (⟨"ForgiveCampModel", "everybody", "()I"⟩, 44) := ⟨⟨by decide +kernel, by decide +kernel⟩, List.mem_of_getElem? (i := 1381) (by decide +kernel), List.mem_of_getElem? (i := 1904) (by decide +kernel), List.mem_of_getElem? (i := 1905) (by decide +kernel)⟩
theorem lw_p97 : lw_okq (⟨"ForgiveCampModel", "overOf", "(I)I"⟩, 44) := ⟨⟨by decide +kernel, by decide +kernel⟩, List.mem_of_getElem? (i := 1381) (by decide +kernel), List.mem_of_getElem? (i := 1912) (by decide +kernel), List.mem_of_getElem? (i := 1913) (by decide +kernel)⟩
theorem lw_p98 : lw_okq (⟨"ForgiveCampModel", "laysUp", "()V"⟩, 44) := ⟨⟨by decide +kernel, by decide +kernel⟩, List.mem_of_getElem? (i := 1381) (by decide +kernel), List.mem_of_getElem? (i := 1931) (by decide +kernel), List.mem_of_getElem? (i := 1932) (by decide +kernel)⟩
theorem lw_p99 : lw_okq (⟨"ForgiveCampModel", "orNone", "(I)I"⟩, 44) := ⟨⟨by decide +kernel, by decide +kernel⟩, List.mem_of_getElem? (i := 1381) (by decide +kernel), List.mem_of_getElem? (i := 1935) (by decide +kernel), List.mem_of_getElem? (i := 1936) (by decide +kernel)⟩
theorem lw_p100 : lw_okq (⟨"ForgiveCampModel", "laysSoonest", "(I)V"⟩, 44) := ⟨⟨by decide +kernel, by decide +kernel⟩, List.mem_of_getElem? (i := 1381) (by decide +kernel), List.mem_of_getElem? (i := 1944) (by decide +kernel), List.mem_of_getElem? (i := 1945) (by decide +kernel)⟩
theorem lw_p101 : lw_okq (⟨"ForgiveCampModel", "laysBest", "(I)V"⟩, 44) := ⟨⟨by decide +kernel, by decide +kernel⟩, List.mem_of_getElem? (i := 1381) (by decide +kernel), List.mem_of_getElem? (i := 1957) (by decide +kernel), List.mem_of_getElem? (i := 1958) (by decide +kernel)⟩
theorem lw_p102 : lw_okq (⟨"ForgiveCampModel", "endingOf", "()I"⟩, 44) := ⟨⟨by decide +kernel, by decide +kernel⟩, List.mem_of_getElem? (i := 1381) (by decide +kernel), List.mem_of_getElem? (i := 1969) (by decide +kernel), List.mem_of_getElem? (i := 1970) (by decide +kernel)⟩
theorem lw_p103 : lw_okq (⟨"ForgiveCampModel", "endsAll", "(I)Z"⟩, 44) := ⟨⟨by decide +kernel, by decide +kernel⟩, List.mem_of_getElem? (i := 1381) (by decide +kernel), List.mem_of_getElem? (i := 1973) (by decide +kernel), List.mem_of_getElem? (i := 1974) (by decide +kernel)⟩
theorem lw_p104 : lw_okq (⟨"ForgiveCampModel", "apartOnes", "()I"⟩, 44) := ⟨⟨by decide +kernel, by decide +kernel⟩, List.mem_of_getElem? (i := 1381) (by decide +kernel), List.mem_of_getElem? (i := 1985) (by decide +kernel), List.mem_of_getElem? (i := 1986) (by decide +kernel)⟩
theorem lw_p105 : lw_okq (⟨"ForgiveCampModel", "circleOf", "(I)I"⟩, 44) := ⟨⟨by decide +kernel, by decide +kernel⟩, List.mem_of_getElem? (i := 1381) (by decide +kernel), List.mem_of_getElem? (i := 1997) (by decide +kernel), List.mem_of_getElem? (i := 1998) (by decide +kernel)⟩
theorem lw_p106 : lw_okq (⟨"ForgiveCampModel", "isSide", "(I)Z"⟩, 44) := ⟨⟨by decide +kernel, by decide +kernel⟩, List.mem_of_getElem? (i := 1381) (by decide +kernel), List.mem_of_getElem? (i := 2009) (by decide +kernel), List.mem_of_getElem? (i := 2010) (by decide +kernel)⟩
theorem lw_p107 : lw_okq (⟨"ForgiveCampModel", "wrongSeen", "(III)I"⟩, 44) := ⟨⟨by decide +kernel, by decide +kernel⟩, List.mem_of_getElem? (i := 1381) (by decide +kernel), List.mem_of_getElem? (i := 2017) (by decide +kernel), List.mem_of_getElem? (i := 2018) (by decide +kernel)⟩
theorem lw_p108 : lw_okq (⟨"ForgiveCampModel", "laysFits", "(III)V"⟩, 44) := ⟨⟨by decide +kernel, by decide +kernel⟩, List.mem_of_getElem? (i := 1381) (by decide +kernel), List.mem_of_getElem? (i := 2022) (by decide +kernel), List.mem_of_getElem? (i := 2023) (by decide +kernel)⟩
theorem lw_p109 : lw_okq (⟨"ForgiveCampModel", "isSeen", "(III)Z"⟩, 44) := ⟨⟨by decide +kernel, by decide +kernel⟩, List.mem_of_getElem? (i := 1381) (by decide +kernel), List.mem_of_getElem? (i := 2026) (by decide +kernel), List.mem_of_getElem? (i := 2027) (by decide +kernel)⟩
theorem lw_p110 : lw_okq (⟨"ForgiveCampModel", "mostAlike", "(I)I"⟩, 44) := ⟨⟨by decide +kernel, by decide +kernel⟩, List.mem_of_getElem? (i := 1381) (by decide +kernel), List.mem_of_getElem? (i := 2038) (by decide +kernel), List.mem_of_getElem? (i := 2039) (by decide +kernel)⟩
theorem lw_p111 : lw_okq (⟨"ForgiveCampModel", "restOf", "(III)I"⟩, 44) := ⟨⟨by decide +kernel, by decide +kernel⟩, List.mem_of_getElem? (i := 1381) (by decide +kernel), List.mem_of_getElem? (i := 2057) (by decide +kernel), List.mem_of_getElem? (i := 2058) (by decide +kernel)⟩
def lw_privs_7 : List (MethodName × Nat) := [(⟨"ForgiveCampModel", "everybody", "()I"⟩, 44), (⟨"ForgiveCampModel", "overOf", "(I)I"⟩, 44), (⟨"ForgiveCampModel", "laysUp", "()V"⟩, 44), (⟨"ForgiveCampModel", "orNone", "(I)I"⟩, 44), (⟨"ForgiveCampModel", "laysSoonest", "(I)V"⟩, 44), (⟨"ForgiveCampModel", "laysBest", "(I)V"⟩, 44), (⟨"ForgiveCampModel", "endingOf", "()I"⟩, 44), (⟨"ForgiveCampModel", "endsAll", "(I)Z"⟩, 44), (⟨"ForgiveCampModel", "apartOnes", "()I"⟩, 44), (⟨"ForgiveCampModel", "circleOf", "(I)I"⟩, 44), (⟨"ForgiveCampModel", "isSide", "(I)Z"⟩, 44), (⟨"ForgiveCampModel", "wrongSeen", "(III)I"⟩, 44), (⟨"ForgiveCampModel", "laysFits", "(III)V"⟩, 44), (⟨"ForgiveCampModel", "isSeen", "(III)Z"⟩, 44), (⟨"ForgiveCampModel", "mostAlike", "(I)I"⟩, 44), (⟨"ForgiveCampModel", "restOf", "(III)I"⟩, 44)]
theorem lw_r7 : ∀ q ∈ lw_privs_7, lw_okq q := List.forall_mem_cons.mpr ⟨lw_p96, List.forall_mem_cons.mpr ⟨lw_p97, List.forall_mem_cons.mpr ⟨lw_p98, List.forall_mem_cons.mpr ⟨lw_p99, List.forall_mem_cons.mpr ⟨lw_p100, List.forall_mem_cons.mpr ⟨lw_p101, List.forall_mem_cons.mpr ⟨lw_p102, List.forall_mem_cons.mpr ⟨lw_p103, List.forall_mem_cons.mpr ⟨lw_p104, List.forall_mem_cons.mpr ⟨lw_p105, List.forall_mem_cons.mpr ⟨lw_p106, List.forall_mem_cons.mpr ⟨lw_p107, List.forall_mem_cons.mpr ⟨lw_p108, List.forall_mem_cons.mpr ⟨lw_p109, List.forall_mem_cons.mpr ⟨lw_p110, List.forall_mem_cons.mpr ⟨lw_p111, fun _ h => absurd h List.not_mem_nil⟩⟩⟩⟩⟩⟩⟩⟩⟩⟩⟩⟩⟩⟩⟩⟩
theorem lw_p112 : lw_okq (⟨"ForgiveCampModel", "playing", "(I)I"⟩, 44) := ⟨⟨by decide +kernel, by decide +kernel⟩, List.mem_of_getElem? (i := 1381) (by decide +kernel), List.mem_of_getElem? (i := 2066) (by decide +kernel), List.mem_of_getElem? (i := 2067) (by decide +kernel)⟩
theorem lw_p113 : lw_okq (⟨"ForgiveCampModel", "settles", "(II)V"⟩, 44) := ⟨⟨by decide +kernel, by decide +kernel⟩, List.mem_of_getElem? (i := 1381) (by decide +kernel), List.mem_of_getElem? (i := 2073) (by decide +kernel), List.mem_of_getElem? (i := 2074) (by decide +kernel)⟩
theorem lw_p114 : lw_okq (⟨"ForgiveCampModel", "doesDeed", "(IZ)Z"⟩, 44) := ⟨⟨by decide +kernel, by decide +kernel⟩, List.mem_of_getElem? (i := 1381) (by decide +kernel), List.mem_of_getElem? (i := 2077) (by decide +kernel), List.mem_of_getElem? (i := 2078) (by decide +kernel)⟩
theorem lw_p115 : lw_okq (⟨"ForgiveCampModel", "tellsBy", "(JJ)Z"⟩, 44) := ⟨⟨by decide +kernel, by decide +kernel⟩, List.mem_of_getElem? (i := 1381) (by decide +kernel), List.mem_of_getElem? (i := 2090) (by decide +kernel), List.mem_of_getElem? (i := 2091) (by decide +kernel)⟩
theorem lw_p116 : lw_okq (⟨"ForgiveCampModel", "lives", "(I)V"⟩, 44) := ⟨⟨by decide +kernel, by decide +kernel⟩, List.mem_of_getElem? (i := 1381) (by decide +kernel), List.mem_of_getElem? (i := 2107) (by decide +kernel), List.mem_of_getElem? (i := 2108) (by decide +kernel)⟩
theorem lw_p117 : lw_okq (⟨"ForgiveCampModel", "does", "(I)Z"⟩, 44) := ⟨⟨by decide +kernel, by decide +kernel⟩, List.mem_of_getElem? (i := 1381) (by decide +kernel), List.mem_of_getElem? (i := 2111) (by decide +kernel), List.mem_of_getElem? (i := 2112) (by decide +kernel)⟩
theorem lw_p118 : lw_okq (⟨"ForgiveCampModel", "minutesBy", "(I)Z"⟩, 44) := ⟨⟨by decide +kernel, by decide +kernel⟩, List.mem_of_getElem? (i := 1381) (by decide +kernel), List.mem_of_getElem? (i := 2115) (by decide +kernel), List.mem_of_getElem? (i := 2116) (by decide +kernel)⟩
theorem lw_p119 : lw_okq (⟨"ForgiveCampModel", "dawnsBy", "()Z"⟩, 44) := ⟨⟨by decide +kernel, by decide +kernel⟩, List.mem_of_getElem? (i := 1381) (by decide +kernel), List.mem_of_getElem? (i := 2119) (by decide +kernel), List.mem_of_getElem? (i := 2120) (by decide +kernel)⟩
theorem lw_p120 : lw_okq (⟨"ForgiveCampModel", "bootsBy", "(III)Z"⟩, 44) := ⟨⟨by decide +kernel, by decide +kernel⟩, List.mem_of_getElem? (i := 1381) (by decide +kernel), List.mem_of_getElem? (i := 2123) (by decide +kernel), List.mem_of_getElem? (i := 2124) (by decide +kernel)⟩
theorem lw_p121 : lw_okq (⟨"ForgiveCampModel", "bootsAny", "()Z"⟩, 44) := ⟨⟨by decide +kernel, by decide +kernel⟩, List.mem_of_getElem? (i := 1381) (by decide +kernel), List.mem_of_getElem? (i := 2127) (by decide +kernel), List.mem_of_getElem? (i := 2128) (by decide +kernel)⟩
theorem lw_p122 : lw_okq (⟨"ForgiveCampModel", "draw", "(I)I"⟩, 44) := ⟨⟨by decide +kernel, by decide +kernel⟩, List.mem_of_getElem? (i := 1381) (by decide +kernel), List.mem_of_getElem? (i := 2131) (by decide +kernel), List.mem_of_getElem? (i := 2132) (by decide +kernel)⟩
theorem lw_p123 : lw_okq (⟨"ForgiveCampModel", "holds", "(I)Z"⟩, 44) := ⟨⟨by decide +kernel, by decide +kernel⟩, List.mem_of_getElem? (i := 1381) (by decide +kernel), List.mem_of_getElem? (i := 2136) (by decide +kernel), List.mem_of_getElem? (i := 2137) (by decide +kernel)⟩
theorem lw_p124 : lw_okq (⟨"ForgiveCampModel", "behindEnds", "(I)I"⟩, 44) := ⟨⟨by decide +kernel, by decide +kernel⟩, List.mem_of_getElem? (i := 1381) (by decide +kernel), List.mem_of_getElem? (i := 2140) (by decide +kernel), List.mem_of_getElem? (i := 2141) (by decide +kernel)⟩
theorem lw_p125 : lw_okq (⟨"ForgiveCampModel", "copies", "(II)V"⟩, 44) := ⟨⟨by decide +kernel, by decide +kernel⟩, List.mem_of_getElem? (i := 1381) (by decide +kernel), List.mem_of_getElem? (i := 2156) (by decide +kernel), List.mem_of_getElem? (i := 2157) (by decide +kernel)⟩
def lw_privs_8 : List (MethodName × Nat) := [(⟨"ForgiveCampModel", "playing", "(I)I"⟩, 44), (⟨"ForgiveCampModel", "settles", "(II)V"⟩, 44), (⟨"ForgiveCampModel", "doesDeed", "(IZ)Z"⟩, 44), (⟨"ForgiveCampModel", "tellsBy", "(JJ)Z"⟩, 44), (⟨"ForgiveCampModel", "lives", "(I)V"⟩, 44), (⟨"ForgiveCampModel", "does", "(I)Z"⟩, 44), (⟨"ForgiveCampModel", "minutesBy", "(I)Z"⟩, 44), (⟨"ForgiveCampModel", "dawnsBy", "()Z"⟩, 44), (⟨"ForgiveCampModel", "bootsBy", "(III)Z"⟩, 44), (⟨"ForgiveCampModel", "bootsAny", "()Z"⟩, 44), (⟨"ForgiveCampModel", "draw", "(I)I"⟩, 44), (⟨"ForgiveCampModel", "holds", "(I)Z"⟩, 44), (⟨"ForgiveCampModel", "behindEnds", "(I)I"⟩, 44), (⟨"ForgiveCampModel", "copies", "(II)V"⟩, 44)]
theorem lw_r8 : ∀ q ∈ lw_privs_8, lw_okq q := List.forall_mem_cons.mpr ⟨lw_p112, List.forall_mem_cons.mpr ⟨lw_p113, List.forall_mem_cons.mpr ⟨lw_p114, List.forall_mem_cons.mpr ⟨lw_p115, List.forall_mem_cons.mpr ⟨lw_p116, List.forall_mem_cons.mpr ⟨lw_p117, List.forall_mem_cons.mpr ⟨lw_p118, List.forall_mem_cons.mpr ⟨lw_p119, List.forall_mem_cons.mpr ⟨lw_p120, List.forall_mem_cons.mpr ⟨lw_p121, List.forall_mem_cons.mpr ⟨lw_p122, List.forall_mem_cons.mpr ⟨lw_p123, List.forall_mem_cons.mpr ⟨lw_p124, List.forall_mem_cons.mpr ⟨lw_p125, fun _ h => absurd h List.not_mem_nil⟩⟩⟩⟩⟩⟩⟩⟩⟩⟩⟩⟩⟩⟩
def lw_privs : List (MethodName × Nat) := lw_privs_1 ++ (lw_privs_2 ++ (lw_privs_3 ++ (lw_privs_4 ++ (lw_privs_5 ++ (lw_privs_6 ++ (lw_privs_7 ++ (lw_privs_8)))))))
def lw_tbl : List Cond := k2_sels lw_privs ++ tables_1
theorem lw_privs_ok : ∀ q ∈ lw_privs, lw_okq q := by
  show ∀ q ∈ lw_privs_1 ++ (lw_privs_2 ++ (lw_privs_3 ++ (lw_privs_4 ++ (lw_privs_5 ++ (lw_privs_6 ++ (lw_privs_7 ++ (lw_privs_8))))))), lw_okq q
  exact List.forall_mem_append.mpr ⟨lw_r1, List.forall_mem_append.mpr ⟨lw_r2, List.forall_mem_append.mpr ⟨lw_r3, List.forall_mem_append.mpr ⟨lw_r4, List.forall_mem_append.mpr ⟨lw_r5, List.forall_mem_append.mpr ⟨lw_r6, List.forall_mem_append.mpr ⟨lw_r7, lw_r8⟩⟩⟩⟩⟩⟩⟩
end
section
/-! names of classes, fields, methods (as the claim's own printed names have them) -/
def RX0 : String := "ForgiveCamp$Ahead"
def TX0 : u_T := fun k => match k with
  | 0 => ("ForgiveCamp$Ahead", "later", "LForgiveCamp$Camp;", true)
  | 1 => ("ForgiveCamp$Ahead", "upAfter", "[I", true)
  | 2 => ("ForgiveCamp$Ahead", "overAfter", "[I", true)
  | _ => ("ForgiveCamp$Ahead", "firstToYield", "I", false)
def tyX0 : Nat → FieldType := fun k => match k with
  | 0 => .object "ForgiveCamp$Camp"
  | 1 => .array .int
  | 2 => .array .int
  | _ => .int
abbrev wsX00 : List Cond := u_ws RX0 TX0 4
theorem nmX0 : ∀ a, a < 4 → ∀ b, b < 4 → a ≠ b → (TX0 a).2.1 ≠ (TX0 b).2.1 := by decide +kernel
theorem tyX0_ok : ∀ k, k < 4 → parseFieldDescriptor (TX0 k).2.2.1 = some (tyX0 k) := by decide +kernel
def RX1 : String := "ForgiveCamp$Camp"
def TX1 : u_T := fun k => match k with
  | 0 => ("ForgiveCamp$Camp", "wide", "I", false)
  | 1 => ("ForgiveCamp$Camp", "high", "I", false)
  | 2 => ("ForgiveCamp$Camp", "odds", "I", false)
  | 3 => ("ForgiveCamp$Camp", "minute", "I", false)
  | 4 => ("ForgiveCamp$Camp", "boys", "I", false)
  | 5 => ("ForgiveCamp$Camp", "quarrels", "I", false)
  | 6 => ("ForgiveCamp$Camp", "name", "[J", true)
  | 7 => ("ForgiveCamp$Camp", "cell", "[I", true)
  | 8 => ("ForgiveCamp$Camp", "pride", "[I", true)
  | 9 => ("ForgiveCamp$Camp", "soft", "[I", true)
  | 10 => ("ForgiveCamp$Camp", "ears", "[I", true)
  | 11 => ("ForgiveCamp$Camp", "yields", "[I", true)
  | 12 => ("ForgiveCamp$Camp", "earshot", "[I", true)
  | 13 => ("ForgiveCamp$Camp", "first", "[I", true)
  | 14 => ("ForgiveCamp$Camp", "second", "[I", true)
  | 15 => ("ForgiveCamp$Camp", "grudge", "[I", true)
  | _ => ("ForgiveCamp$Camp", "ended", "[I", true)
def tyX1 : Nat → FieldType := fun k => match k with
  | 0 => .int
  | 1 => .int
  | 2 => .int
  | 3 => .int
  | 4 => .int
  | 5 => .int
  | 6 => .array .long
  | 7 => .array .int
  | 8 => .array .int
  | 9 => .array .int
  | 10 => .array .int
  | 11 => .array .int
  | 12 => .array .int
  | 13 => .array .int
  | 14 => .array .int
  | 15 => .array .int
  | _ => .array .int
abbrev wsX10 : List Cond := u_ws RX1 TX1 17
theorem nmX1 : ∀ a, a < 17 → ∀ b, b < 17 → a ≠ b → (TX1 a).2.1 ≠ (TX1 b).2.1 := by decide +kernel
theorem tyX1_ok : ∀ k, k < 17 → parseFieldDescriptor (TX1 k).2.2.1 = some (tyX1 k) := by decide +kernel
def RX2 : String := "ForgiveCamp$CampReader"
def TX2 : u_T := fun k => match k with
  | 0 => ("ForgiveCamp$CampReader", "text", "LForgiveCamp$Text;", true)
  | 1 => ("ForgiveCamp$CampReader", "draft", "LForgiveCamp$Camp;", true)
  | 2 => ("ForgiveCamp$CampReader", "fieldTold", "Z", false)
  | _ => ("ForgiveCamp$CampReader", "oddsTold", "Z", false)
def tyX2 : Nat → FieldType := fun k => match k with
  | 0 => .object "ForgiveCamp$Text"
  | 1 => .object "ForgiveCamp$Camp"
  | 2 => .boolean
  | _ => .boolean
abbrev wsX20 : List Cond := u_ws RX2 TX2 4
theorem nmX2 : ∀ a, a < 4 → ∀ b, b < 4 → a ≠ b → (TX2 a).2.1 ≠ (TX2 b).2.1 := by decide +kernel
theorem tyX2_ok : ∀ k, k < 4 → parseFieldDescriptor (TX2 k).2.2.1 = some (tyX2 k) := by decide +kernel
def RX3 : String := "ForgiveCamp$Clues"
def TX3 : u_T := fun k => match k with
  | 0 => ("ForgiveCamp$Clues", "trial", "LForgiveCamp$Camp;", true)
  | 1 => ("ForgiveCamp$Clues", "ahead", "LForgiveCamp$Ahead;", true)
  | 2 => ("ForgiveCamp$Clues", "seen", "[I", true)
  | 3 => ("ForgiveCamp$Clues", "after", "[I", true)
  | 4 => ("ForgiveCamp$Clues", "twos", "I", false)
  | _ => ("ForgiveCamp$Clues", "upByPride", "[I", true)
def tyX3 : Nat → FieldType := fun k => match k with
  | 0 => .object "ForgiveCamp$Camp"
  | 1 => .object "ForgiveCamp$Ahead"
  | 2 => .array .int
  | 3 => .array .int
  | 4 => .int
  | _ => .array .int
abbrev wsX30 : List Cond := u_ws RX3 TX3 6
theorem nmX3 : ∀ a, a < 6 → ∀ b, b < 6 → a ≠ b → (TX3 a).2.1 ≠ (TX3 b).2.1 := by decide +kernel
theorem tyX3_ok : ∀ k, k < 6 → parseFieldDescriptor (TX3 k).2.2.1 = some (tyX3 k) := by decide +kernel
def RX4 : String := "ForgiveCamp$Games"
def TX4 : u_T := fun k => match k with
  | 0 => ("ForgiveCamp$Games", "trial", "LForgiveCamp$Camp;", true)
  | _ => ("ForgiveCamp$Games", "ahead", "LForgiveCamp$Ahead;", true)
def tyX4 : Nat → FieldType := fun k => match k with
  | 0 => .object "ForgiveCamp$Camp"
  | _ => .object "ForgiveCamp$Ahead"
abbrev wsX40 : List Cond := u_ws RX4 TX4 2
theorem nmX4 : ∀ a, a < 2 → ∀ b, b < 2 → a ≠ b → (TX4 a).2.1 ≠ (TX4 b).2.1 := by decide +kernel
theorem tyX4_ok : ∀ k, k < 2 → parseFieldDescriptor (TX4 k).2.2.1 = some (tyX4 k) := by decide +kernel
def RX5 : String := "ForgiveCamp$Life"
def TX5 : u_T := fun k => match k with
  | 0 => ("ForgiveCamp$Life", "steps", "I", false)
  | 1 => ("ForgiveCamp$Life", "missed", "I", false)
  | 2 => ("ForgiveCamp$Life", "minutes", "I", false)
  | 3 => ("ForgiveCamp$Life", "over", "I", false)
  | 4 => ("ForgiveCamp$Life", "fresh", "I", false)
  | 5 => ("ForgiveCamp$Life", "left", "Z", false)
  | 6 => ("ForgiveCamp$Life", "draw", "I", false)
  | _ => ("ForgiveCamp$Life", "rounds", "[I", true)
def tyX5 : Nat → FieldType := fun k => match k with
  | 0 => .int
  | 1 => .int
  | 2 => .int
  | 3 => .int
  | 4 => .int
  | 5 => .boolean
  | 6 => .int
  | _ => .array .int
abbrev wsX50 : List Cond := u_ws RX5 TX5 8
theorem nmX5 : ∀ a, a < 8 → ∀ b, b < 8 → a ≠ b → (TX5 a).2.1 ≠ (TX5 b).2.1 := by decide +kernel
theorem tyX5_ok : ∀ k, k < 8 → parseFieldDescriptor (TX5 k).2.2.1 = some (tyX5 k) := by decide +kernel
def RX6 : String := "ForgiveCamp$Plans"
def TX6 : u_T := fun k => match k with
  | 0 => ("ForgiveCamp$Plans", "trial", "LForgiveCamp$Camp;", true)
  | 1 => ("ForgiveCamp$Plans", "ahead", "LForgiveCamp$Ahead;", true)
  | _ => ("ForgiveCamp$Plans", "reached", "I", false)
def tyX6 : Nat → FieldType := fun k => match k with
  | 0 => .object "ForgiveCamp$Camp"
  | 1 => .object "ForgiveCamp$Ahead"
  | _ => .int
abbrev wsX60 : List Cond := u_ws RX6 TX6 3
theorem nmX6 : ∀ a, a < 3 → ∀ b, b < 3 → a ≠ b → (TX6 a).2.1 ≠ (TX6 b).2.1 := by decide +kernel
theorem tyX6_ok : ∀ k, k < 3 → parseFieldDescriptor (TX6 k).2.2.1 = some (tyX6 k) := by decide +kernel
def RX7 : String := "ForgiveCamp$Text"
def TX7 : u_T := fun k => match k with
  | 0 => ("ForgiveCamp$Text", "tape", "[B", true)
  | 1 => ("ForgiveCamp$Text", "fed", "I", false)
  | 2 => ("ForgiveCamp$Text", "length", "I", false)
  | 3 => ("ForgiveCamp$Text", "next", "I", false)
  | 4 => ("ForgiveCamp$Text", "kind", "I", false)
  | 5 => ("ForgiveCamp$Text", "start", "I", false)
  | 6 => ("ForgiveCamp$Text", "word", "J", false)
  | 7 => ("ForgiveCamp$Text", "key", "I", false)
  | 8 => ("ForgiveCamp$Text", "value", "I", false)
  | 9 => ("ForgiveCamp$Text", "sign", "I", false)
  | 10 => ("ForgiveCamp$Text", "taken", "I", false)
  | 11 => ("ForgiveCamp$Text", "fault", "I", false)
  | 12 => ("ForgiveCamp$Text", "faultAt", "I", false)
  | _ => ("ForgiveCamp$Text", "reserved", "[J", true)
def tyX7 : Nat → FieldType := fun k => match k with
  | 0 => .array .byte
  | 1 => .int
  | 2 => .int
  | 3 => .int
  | 4 => .int
  | 5 => .int
  | 6 => .long
  | 7 => .int
  | 8 => .int
  | 9 => .int
  | 10 => .int
  | 11 => .int
  | 12 => .int
  | _ => .array .long
abbrev wsX70 : List Cond := u_ws RX7 TX7 14
theorem nmX7 : ∀ a, a < 14 → ∀ b, b < 14 → a ≠ b → (TX7 a).2.1 ≠ (TX7 b).2.1 := by decide +kernel
theorem tyX7_ok : ∀ k, k < 14 → parseFieldDescriptor (TX7 k).2.2.1 = some (tyX7 k) := by decide +kernel
def RX8 : String := "ForgiveCamp$Trays"
def TX8 : u_T := fun k => match k with
  | 0 => ("ForgiveCamp$Trays", "sort", "[I", true)
  | 1 => ("ForgiveCamp$Trays", "size", "[I", true)
  | _ => ("ForgiveCamp$Trays", "numbers", "[J", true)
def tyX8 : Nat → FieldType := fun k => match k with
  | 0 => .array .int
  | 1 => .array .int
  | _ => .array .long
abbrev wsX80 : List Cond := u_ws RX8 TX8 3
theorem nmX8 : ∀ a, a < 3 → ∀ b, b < 3 → a ≠ b → (TX8 a).2.1 ≠ (TX8 b).2.1 := by decide +kernel
theorem tyX8_ok : ∀ k, k < 3 → parseFieldDescriptor (TX8 k).2.2.1 = some (tyX8 k) := by decide +kernel
def RX9 : String := "ForgiveCamp$Weeks"
def TX9 : u_T := fun k => match k with
  | 0 => ("ForgiveCamp$Weeks", "there", "Z", false)
  | 1 => ("ForgiveCamp$Weeks", "lines", "I", false)
  | 2 => ("ForgiveCamp$Weeks", "steps", "I", false)
  | 3 => ("ForgiveCamp$Weeks", "kind", "[I", true)
  | 4 => ("ForgiveCamp$Weeks", "a", "[I", true)
  | 5 => ("ForgiveCamp$Weeks", "b", "[I", true)
  | 6 => ("ForgiveCamp$Weeks", "c", "[I", true)
  | _ => ("ForgiveCamp$Weeks", "mate", "[I", true)
def tyX9 : Nat → FieldType := fun k => match k with
  | 0 => .boolean
  | 1 => .int
  | 2 => .int
  | 3 => .array .int
  | 4 => .array .int
  | 5 => .array .int
  | 6 => .array .int
  | _ => .array .int
abbrev wsX90 : List Cond := u_ws RX9 TX9 8
theorem nmX9 : ∀ a, a < 8 → ∀ b, b < 8 → a ≠ b → (TX9 a).2.1 ≠ (TX9 b).2.1 := by decide +kernel
theorem tyX9_ok : ∀ k, k < 8 → parseFieldDescriptor (TX9 k).2.2.1 = some (tyX9 k) := by decide +kernel
def RX10 : String := "ForgiveCamp$WeeksReader"
def TX10 : u_T := fun k => match k with
  | 0 => ("ForgiveCamp$WeeksReader", "text", "LForgiveCamp$Text;", true)
  | 1 => ("ForgiveCamp$WeeksReader", "draft", "LForgiveCamp$Weeks;", true)
  | 2 => ("ForgiveCamp$WeeksReader", "begun", "[I", true)
  | _ => ("ForgiveCamp$WeeksReader", "depth", "I", false)
def tyX10 : Nat → FieldType := fun k => match k with
  | 0 => .object "ForgiveCamp$Text"
  | 1 => .object "ForgiveCamp$Weeks"
  | 2 => .array .int
  | _ => .int
abbrev wsX100 : List Cond := u_ws RX10 TX10 4
theorem nmX10 : ∀ a, a < 4 → ∀ b, b < 4 → a ≠ b → (TX10 a).2.1 ≠ (TX10 b).2.1 := by decide +kernel
theorem tyX10_ok : ∀ k, k < 4 → parseFieldDescriptor (TX10 k).2.2.1 = some (tyX10 k) := by decide +kernel
def RX11 : String := "ForgiveCamp"
def TX11 : u_T := fun k => match k with
  | 0 => ("ForgiveCamp", "now", "LForgiveCamp$Camp;", true)
  | 1 => ("ForgiveCamp", "trial", "LForgiveCamp$Camp;", true)
  | 2 => ("ForgiveCamp", "ahead", "LForgiveCamp$Ahead;", true)
  | 3 => ("ForgiveCamp", "plans", "LForgiveCamp$Plans;", true)
  | 4 => ("ForgiveCamp", "clues", "LForgiveCamp$Clues;", true)
  | 5 => ("ForgiveCamp", "games", "LForgiveCamp$Games;", true)
  | 6 => ("ForgiveCamp", "trays", "LForgiveCamp$Trays;", true)
  | 7 => ("ForgiveCamp", "text", "LForgiveCamp$Text;", true)
  | 8 => ("ForgiveCamp", "campReader", "LForgiveCamp$CampReader;", true)
  | 9 => ("ForgiveCamp", "weeksReader", "LForgiveCamp$WeeksReader;", true)
  | 10 => ("ForgiveCamp", "plan", "LForgiveCamp$Weeks;", true)
  | 11 => ("ForgiveCamp", "life", "LForgiveCamp$Life;", true)
  | 12 => ("ForgiveCamp", "latestLife", "[I", true)
  | 13 => ("ForgiveCamp", "hasLived", "Z", false)
  | 14 => ("ForgiveCamp", "markedCamps", "[LForgiveCamp$Camp;", true)
  | 15 => ("ForgiveCamp", "markedWeeks", "[LForgiveCamp$Weeks;", true)
  | 16 => ("ForgiveCamp", "marks", "I", false)
  | 17 => ("ForgiveCamp", "latestStatus", "I", false)
  | 18 => ("ForgiveCamp", "fractionTop", "J", false)
  | _ => ("ForgiveCamp", "fractionBottom", "J", false)
def tyX11 : Nat → FieldType := fun k => match k with
  | 0 => .object "ForgiveCamp$Camp"
  | 1 => .object "ForgiveCamp$Camp"
  | 2 => .object "ForgiveCamp$Ahead"
  | 3 => .object "ForgiveCamp$Plans"
  | 4 => .object "ForgiveCamp$Clues"
  | 5 => .object "ForgiveCamp$Games"
  | 6 => .object "ForgiveCamp$Trays"
  | 7 => .object "ForgiveCamp$Text"
  | 8 => .object "ForgiveCamp$CampReader"
  | 9 => .object "ForgiveCamp$WeeksReader"
  | 10 => .object "ForgiveCamp$Weeks"
  | 11 => .object "ForgiveCamp$Life"
  | 12 => .array .int
  | 13 => .boolean
  | 14 => .array (.object "ForgiveCamp$Camp")
  | 15 => .array (.object "ForgiveCamp$Weeks")
  | 16 => .int
  | 17 => .int
  | 18 => .long
  | _ => .long
abbrev wsX110 : List Cond := u_ws RX11 TX11 20
theorem nmX11 : ∀ a, a < 20 → ∀ b, b < 20 → a ≠ b → (TX11 a).2.1 ≠ (TX11 b).2.1 := by decide +kernel
theorem tyX11_ok : ∀ k, k < 20 → parseFieldDescriptor (TX11 k).2.2.1 = some (tyX11 k) := by decide +kernel
def RX12 : String := "ForgiveCampModel"
def TX12 : u_T := fun k => match k with
  | 0 => ("ForgiveCampModel", "at", "[I", true)
  | 1 => ("ForgiveCampModel", "names", "[J", true)
  | 2 => ("ForgiveCampModel", "status", "I", false)
  | 3 => ("ForgiveCampModel", "top", "J", false)
  | 4 => ("ForgiveCampModel", "bottom", "J", false)
  | 5 => ("ForgiveCampModel", "sort", "[I", true)
  | 6 => ("ForgiveCampModel", "trayMany", "[I", true)
  | 7 => ("ForgiveCampModel", "trays", "[J", true)
  | 8 => ("ForgiveCampModel", "tape", "[B", true)
  | 9 => ("ForgiveCampModel", "text", "[B", true)
  | 10 => ("ForgiveCampModel", "taped", "I", false)
  | 11 => ("ForgiveCampModel", "size", "I", false)
  | 12 => ("ForgiveCampModel", "token", "I", false)
  | 13 => ("ForgiveCampModel", "from", "I", false)
  | 14 => ("ForgiveCampModel", "end", "I", false)
  | 15 => ("ForgiveCampModel", "value", "I", false)
  | 16 => ("ForgiveCampModel", "faultKind", "I", false)
  | 17 => ("ForgiveCampModel", "faultPlace", "I", false)
  | 18 => ("ForgiveCampModel", "faults", "I", false)
  | 19 => ("ForgiveCampModel", "seen", "I", false)
  | 20 => ("ForgiveCampModel", "toldParts", "I", false)
  | 21 => ("ForgiveCampModel", "opened", "[I", true)
  | 22 => ("ForgiveCampModel", "depth", "I", false)
  | 23 => ("ForgiveCampModel", "counted", "I", false)
  | 24 => ("ForgiveCampModel", "yielding", "I", false)
  | 25 => ("ForgiveCampModel", "upBehind", "[I", true)
  | 26 => ("ForgiveCampModel", "soonSet", "I", false)
  | 27 => ("ForgiveCampModel", "soonBy", "I", false)
  | 28 => ("ForgiveCampModel", "bestCell", "I", false)
  | 29 => ("ForgiveCampModel", "bestBy", "I", false)
  | 30 => ("ForgiveCampModel", "seenBy", "[I", true)
  | 31 => ("ForgiveCampModel", "fitsBy", "[Z", true)
  | 32 => ("ForgiveCampModel", "fitMany", "I", false)
  | 33 => ("ForgiveCampModel", "doneAt", "[I", true)
  | 34 => ("ForgiveCampModel", "cameAt", "[I", true)
  | 35 => ("ForgiveCampModel", "bestDeed", "[I", true)
  | 36 => ("ForgiveCampModel", "openBy", "[J", true)
  | 37 => ("ForgiveCampModel", "drawn", "I", false)
  | 38 => ("ForgiveCampModel", "ranSteps", "I", false)
  | 39 => ("ForgiveCampModel", "loops", "[I", true)
  | 40 => ("ForgiveCampModel", "ran", "[I", true)
  | 41 => ("ForgiveCampModel", "told1", "[I", true)
  | 42 => ("ForgiveCampModel", "isTold", "Z", false)
  | _ => ("ForgiveCampModel", "marks", "I", false)
def tyX12 : Nat → FieldType := fun k => match k with
  | 0 => .array .int
  | 1 => .array .long
  | 2 => .int
  | 3 => .long
  | 4 => .long
  | 5 => .array .int
  | 6 => .array .int
  | 7 => .array .long
  | 8 => .array .byte
  | 9 => .array .byte
  | 10 => .int
  | 11 => .int
  | 12 => .int
  | 13 => .int
  | 14 => .int
  | 15 => .int
  | 16 => .int
  | 17 => .int
  | 18 => .int
  | 19 => .int
  | 20 => .int
  | 21 => .array .int
  | 22 => .int
  | 23 => .int
  | 24 => .int
  | 25 => .array .int
  | 26 => .int
  | 27 => .int
  | 28 => .int
  | 29 => .int
  | 30 => .array .int
  | 31 => .array .boolean
  | 32 => .int
  | 33 => .array .int
  | 34 => .array .int
  | 35 => .array .int
  | 36 => .array .long
  | 37 => .int
  | 38 => .int
  | 39 => .array .int
  | 40 => .array .int
  | 41 => .array .int
  | 42 => .boolean
  | _ => .int
abbrev wsX120 : List Cond := u_ws RX12 TX12 44
theorem nmX12 : ∀ a, a < 44 → ∀ b, b < 44 → a ≠ b → (TX12 a).2.1 ≠ (TX12 b).2.1 := by decide +kernel
theorem tyX12_ok : ∀ k, k < 44 → parseFieldDescriptor (TX12 k).2.2.1 = some (tyX12 k) := by decide +kernel
def RK20 : String := "java/lang/Integer"
def RK90 : String := "java/lang/String"
abbrev cX0_init : ByteArray := prog_2_method_1_code
def yX0_init : MethodName := ⟨RX0, "<init>", "()V"⟩
abbrev cX0_look : ByteArray := prog_2_method_2_code
def yX0_look : MethodName := ⟨RX0, "look", "(LForgiveCamp$Camp;)I"⟩
abbrev cX0_firstOf : ByteArray := prog_2_method_3_code
def yX0_firstOf : MethodName := ⟨RX0, "firstOf", "(I)I"⟩
abbrev cX0_begin : ByteArray := prog_2_method_4_code
def yX0_begin : MethodName := ⟨RX0, "begin", "()V"⟩
abbrev cX0_note : ByteArray := prog_2_method_5_code
def yX0_note : MethodName := ⟨RX0, "note", "(I)V"⟩
abbrev cX0_upWithin : ByteArray := prog_2_method_6_code
def yX0_upWithin : MethodName := ⟨RX0, "upWithin", "(I)I"⟩
abbrev cX0_lastUp : ByteArray := prog_2_method_7_code
def yX0_lastUp : MethodName := ⟨RX0, "lastUp", "()I"⟩
abbrev cX1_init : ByteArray := prog_3_method_1_code
def yX1_init : MethodName := ⟨RX1, "<init>", "()V"⟩
abbrev cX1_empty : ByteArray := prog_3_method_2_code
def yX1_empty : MethodName := ⟨RX1, "empty", "()V"⟩
abbrev cX1_copy : ByteArray := prog_3_method_3_code
def yX1_copy : MethodName := ⟨RX1, "copy", "(LForgiveCamp$Camp;)V"⟩
abbrev cX1_hasBoy : ByteArray := prog_3_method_4_code
def yX1_hasBoy : MethodName := ⟨RX1, "hasBoy", "(I)Z"⟩
abbrev cX1_hasQuarrel : ByteArray := prog_3_method_5_code
def yX1_hasQuarrel : MethodName := ⟨RX1, "hasQuarrel", "(I)Z"⟩
abbrev cX1_hasCell : ByteArray := prog_3_method_6_code
def yX1_hasCell : MethodName := ⟨RX1, "hasCell", "(I)Z"⟩
abbrev cX1_named : ByteArray := prog_3_method_7_code
def yX1_named : MethodName := ⟨RX1, "named", "(J)I"⟩
abbrev cX1_addBoy : ByteArray := prog_3_method_8_code
def yX1_addBoy : MethodName := ⟨RX1, "addBoy", "(JIIII)I"⟩
abbrev cX1_addQuarrel : ByteArray := prog_3_method_9_code
def yX1_addQuarrel : MethodName := ⟨RX1, "addQuarrel", "(III)I"⟩
abbrev cX1_place : ByteArray := prog_3_method_10_code
def yX1_place : MethodName := ⟨RX1, "place", "(II)V"⟩
abbrev cX1_tune : ByteArray := prog_3_method_11_code
def yX1_tune : MethodName := ⟨RX1, "tune", "(II)V"⟩
abbrev cX1_listen : ByteArray := prog_3_method_12_code
def yX1_listen : MethodName := ⟨RX1, "listen", "()V"⟩
abbrev cX1_stepsBetween : ByteArray := prog_3_method_13_code
def yX1_stepsBetween : MethodName := ⟨RX1, "stepsBetween", "(II)I"⟩
abbrev cX1_isOpen : ByteArray := prog_3_method_14_code
def yX1_isOpen : MethodName := ⟨RX1, "isOpen", "(I)Z"⟩
abbrev cX1_isUp : ByteArray := prog_3_method_15_code
def yX1_isUp : MethodName := ⟨RX1, "isUp", "(I)Z"⟩
abbrev cX1_upSet : ByteArray := prog_3_method_16_code
def yX1_upSet : MethodName := ⟨RX1, "upSet", "()I"⟩
abbrev cX1_openSet : ByteArray := prog_3_method_17_code
def yX1_openSet : MethodName := ⟨RX1, "openSet", "()I"⟩
abbrev cX1_openGrudges : ByteArray := prog_3_method_18_code
def yX1_openGrudges : MethodName := ⟨RX1, "openGrudges", "()I"⟩
abbrev cX1_openOf : ByteArray := prog_3_method_19_code
def yX1_openOf : MethodName := ⟨RX1, "openOf", "(I)I"⟩
abbrev cX1_dueMinute : ByteArray := prog_3_method_20_code
def yX1_dueMinute : MethodName := ⟨RX1, "dueMinute", "(III)I"⟩
abbrev cX1_earliestDue : ByteArray := prog_3_method_21_code
def yX1_earliestDue : MethodName := ⟨RX1, "earliestDue", "()I"⟩
abbrev cX1_minuteOfYielding : ByteArray := prog_3_method_22_code
def yX1_minuteOfYielding : MethodName := ⟨RX1, "minuteOfYielding", "()I"⟩
abbrev cX1_endBy : ByteArray := prog_3_method_23_code
def yX1_endBy : MethodName := ⟨RX1, "endBy", "(IZZ)I"⟩
abbrev cX1_pass : ByteArray := prog_3_method_24_code
def yX1_pass : MethodName := ⟨RX1, "pass", "(I)I"⟩
abbrev cX1_giveIn : ByteArray := prog_3_method_25_code
def yX1_giveIn : MethodName := ⟨RX1, "giveIn", "(I)I"⟩
abbrev cX1_strike : ByteArray := prog_3_method_26_code
def yX1_strike : MethodName := ⟨RX1, "strike", "()I"⟩
abbrev cX2_init : ByteArray := prog_4_method_1_code
def yX2_init : MethodName := ⟨RX2, "<init>", "(LForgiveCamp$Text;)V"⟩
abbrev cX2_takeIn : ByteArray := prog_4_method_2_code
def yX2_takeIn : MethodName := ⟨RX2, "takeIn", "(I)Z"⟩
abbrev cX2_takeField : ByteArray := prog_4_method_3_code
def yX2_takeField : MethodName := ⟨RX2, "takeField", "()Z"⟩
abbrev cX2_takeOdds : ByteArray := prog_4_method_4_code
def yX2_takeOdds : MethodName := ⟨RX2, "takeOdds", "()Z"⟩
abbrev cX2_takeBoy : ByteArray := prog_4_method_5_code
def yX2_takeBoy : MethodName := ⟨RX2, "takeBoy", "()Z"⟩
abbrev cX2_takePerhaps : ByteArray := prog_4_method_6_code
def yX2_takePerhaps : MethodName := ⟨RX2, "takePerhaps", "(II)I"⟩
abbrev cX2_takeQuarrel : ByteArray := prog_4_method_7_code
def yX2_takeQuarrel : MethodName := ⟨RX2, "takeQuarrel", "()Z"⟩
abbrev cX3_init : ByteArray := prog_5_method_1_code
def yX3_init : MethodName := ⟨RX3, "<init>", "(LForgiveCamp$Camp;LForgiveCamp$Ahead;)V"⟩
abbrev cX3_forget : ByteArray := prog_5_method_2_code
def yX3_forget : MethodName := ⟨RX3, "forget", "()V"⟩
abbrev cX3_add : ByteArray := prog_5_method_3_code
def yX3_add : MethodName := ⟨RX3, "add", "(II)V"⟩
abbrev cX3_fittingPrides : ByteArray := prog_5_method_4_code
def yX3_fittingPrides : MethodName := ⟨RX3, "fittingPrides", "(LForgiveCamp$Camp;I)I"⟩
abbrev cX3_asSeen : ByteArray := prog_5_method_5_code
def yX3_asSeen : MethodName := ⟨RX3, "asSeen", "(I)Z"⟩
abbrev cX3_bestParter : ByteArray := prog_5_method_6_code
def yX3_bestParter : MethodName := ⟨RX3, "bestParter", "(II)I"⟩
abbrev cX3_mostAlike : ByteArray := prog_5_method_7_code
def yX3_mostAlike : MethodName := ⟨RX3, "mostAlike", "(II)I"⟩
abbrev cX3_alike : ByteArray := prog_5_method_8_code
def yX3_alike : MethodName := ⟨RX3, "alike", "(III)I"⟩
abbrev cX3_least : ByteArray := prog_5_method_9_code
def yX3_least : MethodName := ⟨RX3, "least", "(I)I"⟩
abbrev cX3_greatest : ByteArray := prog_5_method_10_code
def yX3_greatest : MethodName := ⟨RX3, "greatest", "(I)I"⟩
abbrev cX4_init : ByteArray := prog_6_method_1_code
def yX4_init : MethodName := ⟨RX4, "<init>", "(LForgiveCamp$Camp;LForgiveCamp$Ahead;)V"⟩
abbrev cX4_won : ByteArray := prog_6_method_2_code
def yX4_won : MethodName := ⟨RX4, "won", "(III)I"⟩
abbrev cX4_isRest : ByteArray := prog_6_method_3_code
def yX4_isRest : MethodName := ⟨RX4, "isRest", "(IIII)Z"⟩
abbrev cX4_howManyRests : ByteArray := prog_6_method_4_code
def yX4_howManyRests : MethodName := ⟨RX4, "howManyRests", "(II)I"⟩
abbrev cX4_restOf : ByteArray := prog_6_method_5_code
def yX4_restOf : MethodName := ⟨RX4, "restOf", "(III)I"⟩
abbrev cX4_outcome : ByteArray := prog_6_method_6_code
def yX4_outcome : MethodName := ⟨RX4, "outcome", "(LForgiveCamp$Camp;I)I"⟩
abbrev cX4_firstMove : ByteArray := prog_6_method_7_code
def yX4_firstMove : MethodName := ⟨RX4, "firstMove", "(LForgiveCamp$Camp;I)I"⟩
abbrev cX4_play : ByteArray := prog_6_method_8_code
def yX4_play : MethodName := ⟨RX4, "play", "(LForgiveCamp$Camp;LForgiveCamp$Ahead;II)I"⟩
abbrev cX4_playedOn : ByteArray := prog_6_method_9_code
def yX4_playedOn : MethodName := ⟨RX4, "playedOn", "(LForgiveCamp$Camp;LForgiveCamp$Ahead;III)I"⟩
abbrev cX4_nightsWithFew : ByteArray := prog_6_method_10_code
def yX4_nightsWithFew : MethodName := ⟨RX4, "nightsWithFew", "(III)J"⟩
abbrev cX4_power : ByteArray := prog_6_method_11_code
def yX4_power : MethodName := ⟨RX4, "power", "(JI)J"⟩
abbrev cX4_commonDivisor : ByteArray := prog_6_method_12_code
def yX4_commonDivisor : MethodName := ⟨RX4, "commonDivisor", "(JJ)J"⟩
abbrev cX5_init : ByteArray := prog_7_method_1_code
def yX5_init : MethodName := ⟨RX5, "<init>", "()V"⟩
abbrev cX5_run : ByteArray := prog_7_method_2_code
def yX5_run : MethodName := ⟨RX5, "run", "(LForgiveCamp$Camp;LForgiveCamp$Weeks;I)V"⟩
abbrev cX5_behindEnd : ByteArray := prog_7_method_3_code
def yX5_behindEnd : MethodName := ⟨RX5, "behindEnd", "(LForgiveCamp$Weeks;I)I"⟩
abbrev cX5_behindStep : ByteArray := prog_7_method_4_code
def yX5_behindStep : MethodName := ⟨RX5, "behindStep", "(LForgiveCamp$Camp;LForgiveCamp$Weeks;I)I"⟩
abbrev cX5_behind : ByteArray := prog_7_method_5_code
def yX5_behind : MethodName := ⟨RX5, "behind", "(IZ)I"⟩
abbrev cX5_holds : ByteArray := prog_7_method_6_code
def yX5_holds : MethodName := ⟨RX5, "holds", "(LForgiveCamp$Camp;III)Z"⟩
abbrev cX5_letPass : ByteArray := prog_7_method_7_code
def yX5_letPass : MethodName := ⟨RX5, "letPass", "(LForgiveCamp$Camp;I)Z"⟩
abbrev cX5_newDay : ByteArray := prog_7_method_8_code
def yX5_newDay : MethodName := ⟨RX5, "newDay", "(LForgiveCamp$Camp;)Z"⟩
abbrev cX5_fallOut : ByteArray := prog_7_method_9_code
def yX5_fallOut : MethodName := ⟨RX5, "fallOut", "(LForgiveCamp$Camp;III)Z"⟩
abbrev cX5_moveTo : ByteArray := prog_7_method_10_code
def yX5_moveTo : MethodName := ⟨RX5, "moveTo", "(LForgiveCamp$Camp;II)Z"⟩
abbrev cX5_drawQuarrel : ByteArray := prog_7_method_11_code
def yX5_drawQuarrel : MethodName := ⟨RX5, "drawQuarrel", "(LForgiveCamp$Camp;)Z"⟩
abbrev cX5_drawBy : ByteArray := prog_7_method_12_code
def yX5_drawBy : MethodName := ⟨RX5, "drawBy", "(I)I"⟩
abbrev cX6_init : ByteArray := prog_8_method_1_code
def yX6_init : MethodName := ⟨RX6, "<init>", "(LForgiveCamp$Camp;LForgiveCamp$Ahead;)V"⟩
abbrev cX6_quickestSet : ByteArray := prog_8_method_2_code
def yX6_quickestSet : MethodName := ⟨RX6, "quickestSet", "(LForgiveCamp$Camp;I)I"⟩
abbrev cX6_breakfastIfYield : ByteArray := prog_8_method_3_code
def yX6_breakfastIfYield : MethodName := ⟨RX6, "breakfastIfYield", "(LForgiveCamp$Camp;I)I"⟩
abbrev cX6_quickestCell : ByteArray := prog_8_method_4_code
def yX6_quickestCell : MethodName := ⟨RX6, "quickestCell", "(LForgiveCamp$Camp;I)I"⟩
abbrev cX6_fewestEnders : ByteArray := prog_8_method_5_code
def yX6_fewestEnders : MethodName := ⟨RX6, "fewestEnders", "(LForgiveCamp$Camp;)I"⟩
abbrev cX6_endsAll : ByteArray := prog_8_method_6_code
def yX6_endsAll : MethodName := ⟨RX6, "endsAll", "(LForgiveCamp$Camp;I)Z"⟩
abbrev cX6_pairOf : ByteArray := prog_8_method_7_code
def yX6_pairOf : MethodName := ⟨RX6, "pairOf", "(LForgiveCamp$Camp;I)I"⟩
abbrev cX6_mostApart : ByteArray := prog_8_method_8_code
def yX6_mostApart : MethodName := ⟨RX6, "mostApart", "(LForgiveCamp$Camp;)I"⟩
abbrev cX6_isApart : ByteArray := prog_8_method_9_code
def yX6_isApart : MethodName := ⟨RX6, "isApart", "(LForgiveCamp$Camp;I)Z"⟩
abbrev cX6_circleOf : ByteArray := prog_8_method_10_code
def yX6_circleOf : MethodName := ⟨RX6, "circleOf", "(LForgiveCamp$Camp;I)I"⟩
abbrev cX6_howManyCircles : ByteArray := prog_8_method_11_code
def yX6_howManyCircles : MethodName := ⟨RX6, "howManyCircles", "(LForgiveCamp$Camp;)I"⟩
abbrev cX6_leastSide : ByteArray := prog_8_method_12_code
def yX6_leastSide : MethodName := ⟨RX6, "leastSide", "(LForgiveCamp$Camp;)I"⟩
abbrev cX6_isSide : ByteArray := prog_8_method_13_code
def yX6_isSide : MethodName := ⟨RX6, "isSide", "(LForgiveCamp$Camp;I)Z"⟩
abbrev cX7_init : ByteArray := prog_9_method_1_code
def yX7_init : MethodName := ⟨RX7, "<init>", "()V"⟩
abbrev cX7_withLetter : ByteArray := prog_9_method_2_code
def yX7_withLetter : MethodName := ⟨RX7, "withLetter", "(JI)J"⟩
abbrev cX7_hasRoom : ByteArray := prog_9_method_3_code
def yX7_hasRoom : MethodName := ⟨RX7, "hasRoom", "()Z"⟩
abbrev cX7_addFour : ByteArray := prog_9_method_4_code
def yX7_addFour : MethodName := ⟨RX7, "addFour", "(I)V"⟩
abbrev cX7_open : ByteArray := prog_9_method_5_code
def yX7_open : MethodName := ⟨RX7, "open", "(I)V"⟩
abbrev cX7_signAt : ByteArray := prog_9_method_6_code
def yX7_signAt : MethodName := ⟨RX7, "signAt", "(I)I"⟩
abbrev cX7_step : ByteArray := prog_9_method_7_code
def yX7_step : MethodName := ⟨RX7, "step", "()V"⟩
abbrev cX7_wordToken : ByteArray := prog_9_method_8_code
def yX7_wordToken : MethodName := ⟨RX7, "wordToken", "()V"⟩
abbrev cX7_numberToken : ByteArray := prog_9_method_9_code
def yX7_numberToken : MethodName := ⟨RX7, "numberToken", "()V"⟩
abbrev cX7_isLetter : ByteArray := prog_9_method_10_code
def yX7_isLetter : MethodName := ⟨RX7, "isLetter", "(I)Z"⟩
abbrev cX7_isDigit : ByteArray := prog_9_method_11_code
def yX7_isDigit : MethodName := ⟨RX7, "isDigit", "(I)Z"⟩
abbrev cX7_reservedNumber : ByteArray := prog_9_method_12_code
def yX7_reservedNumber : MethodName := ⟨RX7, "reservedNumber", "(J)I"⟩
abbrev cX7_atEnd : ByteArray := prog_9_method_13_code
def yX7_atEnd : MethodName := ⟨RX7, "atEnd", "()Z"⟩
abbrev cX7_fail : ByteArray := prog_9_method_14_code
def yX7_fail : MethodName := ⟨RX7, "fail", "(I)Z"⟩
abbrev cX7_cannotStand : ByteArray := prog_9_method_15_code
def yX7_cannotStand : MethodName := ⟨RX7, "cannotStand", "()Z"⟩
abbrev cX7_isName : ByteArray := prog_9_method_16_code
def yX7_isName : MethodName := ⟨RX7, "isName", "()Z"⟩
abbrev cX7_takeWord : ByteArray := prog_9_method_17_code
def yX7_takeWord : MethodName := ⟨RX7, "takeWord", "(I)Z"⟩
abbrev cX7_takeNumber : ByteArray := prog_9_method_18_code
def yX7_takeNumber : MethodName := ⟨RX7, "takeNumber", "(II)Z"⟩
abbrev cX7_takeStop : ByteArray := prog_9_method_19_code
def yX7_takeStop : MethodName := ⟨RX7, "takeStop", "()Z"⟩
abbrev cX7_takeCompares : ByteArray := prog_9_method_20_code
def yX7_takeCompares : MethodName := ⟨RX7, "takeCompares", "()Z"⟩
abbrev cX7_boyHere : ByteArray := prog_9_method_21_code
def yX7_boyHere : MethodName := ⟨RX7, "boyHere", "(LForgiveCamp$Camp;)I"⟩
abbrev cX8_init : ByteArray := prog_10_method_1_code
def yX8_init : MethodName := ⟨RX8, "<init>", "()V"⟩
abbrev cX8_known : ByteArray := prog_10_method_2_code
def yX8_known : MethodName := ⟨RX8, "known", "(I)Z"⟩
abbrev cX8_laid : ByteArray := prog_10_method_3_code
def yX8_laid : MethodName := ⟨RX8, "laid", "(I)Z"⟩
abbrev cX8_alike : ByteArray := prog_10_method_4_code
def yX8_alike : MethodName := ⟨RX8, "alike", "(II)Z"⟩
abbrev cX8_has : ByteArray := prog_10_method_5_code
def yX8_has : MethodName := ⟨RX8, "has", "(II)Z"⟩
abbrev cX8_holds : ByteArray := prog_10_method_6_code
def yX8_holds : MethodName := ⟨RX8, "holds", "(III)Z"⟩
abbrev cX8_lay : ByteArray := prog_10_method_7_code
def yX8_lay : MethodName := ⟨RX8, "lay", "(III)V"⟩
abbrev cX8_put : ByteArray := prog_10_method_8_code
def yX8_put : MethodName := ⟨RX8, "put", "(IIJ)V"⟩
abbrev cX8_get : ByteArray := prog_10_method_9_code
def yX8_get : MethodName := ⟨RX8, "get", "(II)J"⟩
abbrev cX8_move : ByteArray := prog_10_method_10_code
def yX8_move : MethodName := ⟨RX8, "move", "(IIIII)V"⟩
abbrev cX8_cut : ByteArray := prog_10_method_11_code
def yX8_cut : MethodName := ⟨RX8, "cut", "(JI)J"⟩
abbrev cX9_init : ByteArray := prog_11_method_1_code
def yX9_init : MethodName := ⟨RX9, "<init>", "()V"⟩
abbrev cX9_drop : ByteArray := prog_11_method_2_code
def yX9_drop : MethodName := ⟨RX9, "drop", "()V"⟩
abbrev cX9_copy : ByteArray := prog_11_method_3_code
def yX9_copy : MethodName := ⟨RX9, "copy", "(LForgiveCamp$Weeks;)V"⟩
abbrev cX9_hasLine : ByteArray := prog_11_method_4_code
def yX9_hasLine : MethodName := ⟨RX9, "hasLine", "(I)Z"⟩
abbrev cX9_addLine : ByteArray := prog_11_method_5_code
def yX9_addLine : MethodName := ⟨RX9, "addLine", "(I)V"⟩
abbrev cX9_fill : ByteArray := prog_11_method_6_code
def yX9_fill : MethodName := ⟨RX9, "fill", "(III)V"⟩
abbrev cX9_join : ByteArray := prog_11_method_7_code
def yX9_join : MethodName := ⟨RX9, "join", "(II)V"⟩
abbrev cX10_init : ByteArray := prog_12_method_1_code
def yX10_init : MethodName := ⟨RX10, "<init>", "(LForgiveCamp$Text;)V"⟩
abbrev cX10_takeIn : ByteArray := prog_12_method_2_code
def yX10_takeIn : MethodName := ⟨RX10, "takeIn", "(ILForgiveCamp$Camp;)Z"⟩
abbrev cX10_beginStep : ByteArray := prog_12_method_3_code
def yX10_beginStep : MethodName := ⟨RX10, "beginStep", "(I)Z"⟩
abbrev cX10_isStep : ByteArray := prog_12_method_4_code
def yX10_isStep : MethodName := ⟨RX10, "isStep", "(I)Z"⟩
abbrev cX10_takeEnd : ByteArray := prog_12_method_5_code
def yX10_takeEnd : MethodName := ⟨RX10, "takeEnd", "()Z"⟩
abbrev cX10_takeRest : ByteArray := prog_12_method_6_code
def yX10_takeRest : MethodName := ⟨RX10, "takeRest", "(ILForgiveCamp$Camp;)Z"⟩
abbrev cX10_takeOne : ByteArray := prog_12_method_7_code
def yX10_takeOne : MethodName := ⟨RX10, "takeOne", "(II)Z"⟩
abbrev cX10_takePair : ByteArray := prog_12_method_8_code
def yX10_takePair : MethodName := ⟨RX10, "takePair", "(LForgiveCamp$Camp;)Z"⟩
abbrev cX10_takeBoy : ByteArray := prog_12_method_9_code
def yX10_takeBoy : MethodName := ⟨RX10, "takeBoy", "(LForgiveCamp$Camp;)Z"⟩
abbrev cX10_takeBoyAndCell : ByteArray := prog_12_method_10_code
def yX10_takeBoyAndCell : MethodName := ⟨RX10, "takeBoyAndCell", "(LForgiveCamp$Camp;)Z"⟩
abbrev cX10_takeTest : ByteArray := prog_12_method_11_code
def yX10_takeTest : MethodName := ⟨RX10, "takeTest", "(LForgiveCamp$Camp;)Z"⟩
abbrev cX11_init : ByteArray := prog_1_method_1_code
def yX11_init : MethodName := ⟨RX11, "<init>", "()V"⟩
abbrev cX11_within : ByteArray := prog_1_method_2_code
def yX11_within : MethodName := ⟨RX11, "within", "(JJJ)Z"⟩
abbrev cX11_give : ByteArray := prog_1_method_3_code
def yX11_give : MethodName := ⟨RX11, "give", "(I)I"⟩
abbrev cX11_refuse : ByteArray := prog_1_method_4_code
def yX11_refuse : MethodName := ⟨RX11, "refuse", "(I)I"⟩
abbrev cX11_grant : ByteArray := prog_1_method_5_code
def yX11_grant : MethodName := ⟨RX11, "grant", "()Z"⟩
abbrev cX11_deny : ByteArray := prog_1_method_6_code
def yX11_deny : MethodName := ⟨RX11, "deny", "(I)Z"⟩
abbrev cX11_tellFraction : ByteArray := prog_1_method_7_code
def yX11_tellFraction : MethodName := ⟨RX11, "tellFraction", "(JJ)V"⟩
abbrev cX11_status : ByteArray := prog_1_method_8_code
def yX11_status : MethodName := ⟨RX11, "status", "()I"⟩
abbrev cX11_top : ByteArray := prog_1_method_9_code
def yX11_top : MethodName := ⟨RX11, "top", "()J"⟩
abbrev cX11_bottom : ByteArray := prog_1_method_10_code
def yX11_bottom : MethodName := ⟨RX11, "bottom", "()J"⟩
abbrev cX11_tray : ByteArray := prog_1_method_11_code
def yX11_tray : MethodName := ⟨RX11, "tray", "(III)Z"⟩
abbrev cX11_placeStatus : ByteArray := prog_1_method_12_code
def yX11_placeStatus : MethodName := ⟨RX11, "placeStatus", "(II)I"⟩
abbrev cX11_write : ByteArray := prog_1_method_13_code
def yX11_write : MethodName := ⟨RX11, "write", "(IIJ)Z"⟩
abbrev cX11_read : ByteArray := prog_1_method_14_code
def yX11_read : MethodName := ⟨RX11, "read", "(II)J"⟩
abbrev cX11_pour : ByteArray := prog_1_method_15_code
def yX11_pour : MethodName := ⟨RX11, "pour", "(IIIII)Z"⟩
abbrev cX11_feed : ByteArray := prog_1_method_16_code
def yX11_feed : MethodName := ⟨RX11, "feed", "(IIIII)I"⟩
abbrev cX11_camp : ByteArray := prog_1_method_17_code
def yX11_camp : MethodName := ⟨RX11, "camp", "(I)I"⟩
abbrev cX11_weeks : ByteArray := prog_1_method_18_code
def yX11_weeks : MethodName := ⟨RX11, "weeks", "(I)I"⟩
abbrev cX11_fault : ByteArray := prog_1_method_19_code
def yX11_fault : MethodName := ⟨RX11, "fault", "(I)I"⟩
abbrev cX11_told : ByteArray := prog_1_method_20_code
def yX11_told : MethodName := ⟨RX11, "told", "(I)I"⟩
abbrev cX11_boy : ByteArray := prog_1_method_21_code
def yX11_boy : MethodName := ⟨RX11, "boy", "(II)I"⟩
abbrev cX11_quarrel : ByteArray := prog_1_method_22_code
def yX11_quarrel : MethodName := ⟨RX11, "quarrel", "(II)I"⟩
abbrev cX11_minute : ByteArray := prog_1_method_23_code
def yX11_minute : MethodName := ⟨RX11, "minute", "(I)I"⟩
abbrev cX11_dawn : ByteArray := prog_1_method_24_code
def yX11_dawn : MethodName := ⟨RX11, "dawn", "()I"⟩
abbrev cX11_boot : ByteArray := prog_1_method_25_code
def yX11_boot : MethodName := ⟨RX11, "boot", "(III)I"⟩
abbrev cX11_forgive : ByteArray := prog_1_method_26_code
def yX11_forgive : MethodName := ⟨RX11, "forgive", "(I)I"⟩
abbrev cX11_pitch : ByteArray := prog_1_method_27_code
def yX11_pitch : MethodName := ⟨RX11, "pitch", "(II)I"⟩
abbrev cX11_teach : ByteArray := prog_1_method_28_code
def yX11_teach : MethodName := ⟨RX11, "teach", "(III)Z"⟩
abbrev cX11_stir : ByteArray := prog_1_method_29_code
def yX11_stir : MethodName := ⟨RX11, "stir", "(II)I"⟩
abbrev cX11_come : ByteArray := prog_1_method_30_code
def yX11_come : MethodName := ⟨RX11, "come", "(II)I"⟩
abbrev cX11_rule : ByteArray := prog_1_method_31_code
def yX11_rule : MethodName := ⟨RX11, "rule", "(I)Z"⟩
abbrev cX11_far : ByteArray := prog_1_method_32_code
def yX11_far : MethodName := ⟨RX11, "far", "(II)I"⟩
abbrev cX11_hears : ByteArray := prog_1_method_33_code
def yX11_hears : MethodName := ⟨RX11, "hears", "(I)I"⟩
abbrev cX11_near : ByteArray := prog_1_method_34_code
def yX11_near : MethodName := ⟨RX11, "near", "(I)I"⟩
abbrev cX11_due : ByteArray := prog_1_method_35_code
def yX11_due : MethodName := ⟨RX11, "due", "(II)I"⟩
abbrev cX11_upIn : ByteArray := prog_1_method_36_code
def yX11_upIn : MethodName := ⟨RX11, "upIn", "(I)I"⟩
abbrev cX11_upBy : ByteArray := prog_1_method_37_code
def yX11_upBy : MethodName := ⟨RX11, "upBy", "(I)I"⟩
abbrev cX11_breakfast : ByteArray := prog_1_method_38_code
def yX11_breakfast : MethodName := ⟨RX11, "breakfast", "()I"⟩
abbrev cX11_overIn : ByteArray := prog_1_method_39_code
def yX11_overIn : MethodName := ⟨RX11, "overIn", "(I)I"⟩
abbrev cX11_yielder : ByteArray := prog_1_method_40_code
def yX11_yielder : MethodName := ⟨RX11, "yielder", "(I)I"⟩
abbrev cX11_reveille : ByteArray := prog_1_method_41_code
def yX11_reveille : MethodName := ⟨RX11, "reveille", "()I"⟩
abbrev cX11_last : ByteArray := prog_1_method_42_code
def yX11_last : MethodName := ⟨RX11, "last", "()I"⟩
abbrev cX11_soonestStatus : ByteArray := prog_1_method_43_code
def yX11_soonestStatus : MethodName := ⟨RX11, "soonestStatus", "(I)I"⟩
abbrev cX11_soonest : ByteArray := prog_1_method_44_code
def yX11_soonest : MethodName := ⟨RX11, "soonest", "(I)I"⟩
abbrev cX11_soonestIn : ByteArray := prog_1_method_45_code
def yX11_soonestIn : MethodName := ⟨RX11, "soonestIn", "(I)I"⟩
abbrev cX11_best : ByteArray := prog_1_method_46_code
def yX11_best : MethodName := ⟨RX11, "best", "(I)I"⟩
abbrev cX11_bestIn : ByteArray := prog_1_method_47_code
def yX11_bestIn : MethodName := ⟨RX11, "bestIn", "(I)I"⟩
abbrev cX11_ending : ByteArray := prog_1_method_48_code
def yX11_ending : MethodName := ⟨RX11, "ending", "()I"⟩
abbrev cX11_endingSet : ByteArray := prog_1_method_49_code
def yX11_endingSet : MethodName := ⟨RX11, "endingSet", "()I"⟩
abbrev cX11_apart : ByteArray := prog_1_method_50_code
def yX11_apart : MethodName := ⟨RX11, "apart", "()I"⟩
abbrev cX11_apartSet : ByteArray := prog_1_method_51_code
def yX11_apartSet : MethodName := ⟨RX11, "apartSet", "()I"⟩
abbrev cX11_circle : ByteArray := prog_1_method_52_code
def yX11_circle : MethodName := ⟨RX11, "circle", "(I)I"⟩
abbrev cX11_circles : ByteArray := prog_1_method_53_code
def yX11_circles : MethodName := ⟨RX11, "circles", "()I"⟩
abbrev cX11_sides : ByteArray := prog_1_method_54_code
def yX11_sides : MethodName := ⟨RX11, "sides", "()I"⟩
abbrev cX11_clueStatus : ByteArray := prog_1_method_55_code
def yX11_clueStatus : MethodName := ⟨RX11, "clueStatus", "(III)I"⟩
abbrev cX11_fittingPrides : ByteArray := prog_1_method_56_code
def yX11_fittingPrides : MethodName := ⟨RX11, "fittingPrides", "(III)I"⟩
abbrev cX11_fits : ByteArray := prog_1_method_57_code
def yX11_fits : MethodName := ⟨RX11, "fits", "(III)I"⟩
abbrev cX11_fitsAt : ByteArray := prog_1_method_58_code
def yX11_fitsAt : MethodName := ⟨RX11, "fitsAt", "(IIII)I"⟩
abbrev cX11_ask : ByteArray := prog_1_method_59_code
def yX11_ask : MethodName := ⟨RX11, "ask", "(III)I"⟩
abbrev cX11_rests : ByteArray := prog_1_method_60_code
def yX11_rests : MethodName := ⟨RX11, "rests", "(II)I"⟩
abbrev cX11_restAt : ByteArray := prog_1_method_61_code
def yX11_restAt : MethodName := ⟨RX11, "restAt", "(IIII)I"⟩
abbrev cX11_game : ByteArray := prog_1_method_62_code
def yX11_game : MethodName := ⟨RX11, "game", "(I)I"⟩
abbrev cX11_moveOf : ByteArray := prog_1_method_63_code
def yX11_moveOf : MethodName := ⟨RX11, "moveOf", "(I)I"⟩
abbrev cX11_night : ByteArray := prog_1_method_64_code
def yX11_night : MethodName := ⟨RX11, "night", "(I)Z"⟩
abbrev cX11_wakes : ByteArray := prog_1_method_65_code
def yX11_wakes : MethodName := ⟨RX11, "wakes", "(I)Z"⟩
abbrev cX11_copyYields : ByteArray := prog_1_method_66_code
def yX11_copyYields : MethodName := ⟨RX11, "copyYields", "(I)I"⟩
abbrev cX11_live : ByteArray := prog_1_method_67_code
def yX11_live : MethodName := ⟨RX11, "live", "(I)I"⟩
abbrev cX11_lived : ByteArray := prog_1_method_68_code
def yX11_lived : MethodName := ⟨RX11, "lived", "(I)I"⟩
abbrev cX11_mean : ByteArray := prog_1_method_69_code
def yX11_mean : MethodName := ⟨RX11, "mean", "(II)Z"⟩
abbrev cX11_mark : ByteArray := prog_1_method_70_code
def yX11_mark : MethodName := ⟨RX11, "mark", "()I"⟩
abbrev cX11_undo : ByteArray := prog_1_method_71_code
def yX11_undo : MethodName := ⟨RX11, "undo", "()I"⟩
abbrev cX12_init : ByteArray := prog_14_method_1_code
def yX12_init : MethodName := ⟨RX12, "<init>", "()V"⟩
abbrev cX12_plain : ByteArray := prog_14_method_2_code
def yX12_plain : MethodName := ⟨RX12, "plain", "(I)V"⟩
abbrev cX12_status : ByteArray := prog_14_method_3_code
def yX12_status : MethodName := ⟨RX12, "status", "()I"⟩
abbrev cX12_top : ByteArray := prog_14_method_4_code
def yX12_top : MethodName := ⟨RX12, "top", "()J"⟩
abbrev cX12_bottom : ByteArray := prog_14_method_5_code
def yX12_bottom : MethodName := ⟨RX12, "bottom", "()J"⟩
abbrev cX12_is : ByteArray := prog_14_method_6_code
def yX12_is : MethodName := ⟨RX12, "is", "(I)Z"⟩
abbrev cX12_refuse : ByteArray := prog_14_method_7_code
def yX12_refuse : MethodName := ⟨RX12, "refuse", "(I)I"⟩
abbrev cX12_gives : ByteArray := prog_14_method_8_code
def yX12_gives : MethodName := ⟨RX12, "gives", "(I)I"⟩
abbrev cX12_orNone : ByteArray := prog_14_method_9_code
def yX12_orNone : MethodName := ⟨RX12, "orNone", "(I)I"⟩
abbrev cX12_tellsBy : ByteArray := prog_14_method_10_code
def yX12_tellsBy : MethodName := ⟨RX12, "tellsBy", "(JJ)Z"⟩
abbrev cX12_isTray : ByteArray := prog_14_method_11_code
def yX12_isTray : MethodName := ⟨RX12, "isTray", "(I)Z"⟩
abbrev cX12_cut : ByteArray := prog_14_method_12_code
def yX12_cut : MethodName := ⟨RX12, "cut", "(JI)J"⟩
abbrev cX12_tray : ByteArray := prog_14_method_13_code
def yX12_tray : MethodName := ⟨RX12, "tray", "(III)Z"⟩
abbrev cX12_wrongPlace : ByteArray := prog_14_method_14_code
def yX12_wrongPlace : MethodName := ⟨RX12, "wrongPlace", "(II)I"⟩
abbrev cX12_write : ByteArray := prog_14_method_15_code
def yX12_write : MethodName := ⟨RX12, "write", "(IIJ)Z"⟩
abbrev cX12_read : ByteArray := prog_14_method_16_code
def yX12_read : MethodName := ⟨RX12, "read", "(II)J"⟩
abbrev cX12_pour : ByteArray := prog_14_method_17_code
def yX12_pour : MethodName := ⟨RX12, "pour", "(IIIII)Z"⟩
abbrev cX12_isFrom : ByteArray := prog_14_method_18_code
def yX12_isFrom : MethodName := ⟨RX12, "isFrom", "(JJJ)Z"⟩
abbrev cX12_feed : ByteArray := prog_14_method_19_code
def yX12_feed : MethodName := ⟨RX12, "feed", "(IIIII)I"⟩
abbrev cX12_four : ByteArray := prog_14_method_20_code
def yX12_four : MethodName := ⟨RX12, "four", "(I)V"⟩
abbrev cX12_byteAt : ByteArray := prog_14_method_21_code
def yX12_byteAt : MethodName := ⟨RX12, "byteAt", "(I)I"⟩
abbrev cX12_isSmall : ByteArray := prog_14_method_22_code
def yX12_isSmall : MethodName := ⟨RX12, "isSmall", "(I)Z"⟩
abbrev cX12_isDigit : ByteArray := prog_14_method_23_code
def yX12_isDigit : MethodName := ⟨RX12, "isDigit", "(I)Z"⟩
abbrev cX12_ahead : ByteArray := prog_14_method_24_code
def yX12_ahead : MethodName := ⟨RX12, "ahead", "()V"⟩
abbrev cX12_isSign : ByteArray := prog_14_method_25_code
def yX12_isSign : MethodName := ⟨RX12, "isSign", "(I)Z"⟩
abbrev cX12_inWords : ByteArray := prog_14_method_26_code
def yX12_inWords : MethodName := ⟨RX12, "inWords", "(Ljava/lang/String;)I"⟩
abbrev cX12_fails : ByteArray := prog_14_method_27_code
def yX12_fails : MethodName := ⟨RX12, "fails", "(I)Z"⟩
abbrev cX12_begins : ByteArray := prog_14_method_28_code
def yX12_begins : MethodName := ⟨RX12, "begins", "(II)Z"⟩
abbrev cX12_wantSign : ByteArray := prog_14_method_29_code
def yX12_wantSign : MethodName := ⟨RX12, "wantSign", "(I)Z"⟩
abbrev cX12_wantWord : ByteArray := prog_14_method_30_code
def yX12_wantWord : MethodName := ⟨RX12, "wantWord", "(Ljava/lang/String;I)Z"⟩
abbrev cX12_number : ByteArray := prog_14_method_31_code
def yX12_number : MethodName := ⟨RX12, "number", "(III)Z"⟩
abbrev cX12_isName : ByteArray := prog_14_method_32_code
def yX12_isName : MethodName := ⟨RX12, "isName", "(Ljava/lang/String;)Z"⟩
abbrev cX12_nameHere : ByteArray := prog_14_method_33_code
def yX12_nameHere : MethodName := ⟨RX12, "nameHere", "()J"⟩
abbrev cX12_findHere : ByteArray := prog_14_method_34_code
def yX12_findHere : MethodName := ⟨RX12, "findHere", "(II)I"⟩
abbrev cX12_fault : ByteArray := prog_14_method_35_code
def yX12_fault : MethodName := ⟨RX12, "fault", "(I)I"⟩
abbrev cX12_taken : ByteArray := prog_14_method_36_code
def yX12_taken : MethodName := ⟨RX12, "taken", "(I)I"⟩
abbrev cX12_boyRow : ByteArray := prog_14_method_37_code
def yX12_boyRow : MethodName := ⟨RX12, "boyRow", "(I)I"⟩
abbrev cX12_quarrelRow : ByteArray := prog_14_method_38_code
def yX12_quarrelRow : MethodName := ⟨RX12, "quarrelRow", "(I)I"⟩
abbrev cX12_isThere : ByteArray := prog_14_method_39_code
def yX12_isThere : MethodName := ⟨RX12, "isThere", "(I)Z"⟩
abbrev cX12_oldBoy : ByteArray := prog_14_method_40_code
def yX12_oldBoy : MethodName := ⟨RX12, "oldBoy", "(III)Z"⟩
abbrev cX12_aField : ByteArray := prog_14_method_41_code
def yX12_aField : MethodName := ⟨RX12, "aField", "()Z"⟩
abbrev cX12_aBoy : ByteArray := prog_14_method_42_code
def yX12_aBoy : MethodName := ⟨RX12, "aBoy", "()Z"⟩
abbrev cX12_aQuarrel : ByteArray := prog_14_method_43_code
def yX12_aQuarrel : MethodName := ⟨RX12, "aQuarrel", "()Z"⟩
abbrev cX12_campPart : ByteArray := prog_14_method_44_code
def yX12_campPart : MethodName := ⟨RX12, "campPart", "()Z"⟩
abbrev cX12_camp : ByteArray := prog_14_method_45_code
def yX12_camp : MethodName := ⟨RX12, "camp", "(I)I"⟩
abbrev cX12_cells : ByteArray := prog_14_method_46_code
def yX12_cells : MethodName := ⟨RX12, "cells", "()I"⟩
abbrev cX12_boyTo : ByteArray := prog_14_method_47_code
def yX12_boyTo : MethodName := ⟨RX12, "boyTo", "(I)Z"⟩
abbrev cX12_test : ByteArray := prog_14_method_48_code
def yX12_test : MethodName := ⟨RX12, "test", "(I)Z"⟩
abbrev cX12_weekOrder : ByteArray := prog_14_method_49_code
def yX12_weekOrder : MethodName := ⟨RX12, "weekOrder", "(II)Z"⟩
abbrev cX12_weekStep : ByteArray := prog_14_method_50_code
def yX12_weekStep : MethodName := ⟨RX12, "weekStep", "()Z"⟩
abbrev cX12_weeks : ByteArray := prog_14_method_51_code
def yX12_weeks : MethodName := ⟨RX12, "weeks", "(I)I"⟩
abbrev cX12_isBoy : ByteArray := prog_14_method_52_code
def yX12_isBoy : MethodName := ⟨RX12, "isBoy", "(J)Z"⟩
abbrev cX12_isQuarrel : ByteArray := prog_14_method_53_code
def yX12_isQuarrel : MethodName := ⟨RX12, "isQuarrel", "(I)Z"⟩
abbrev cX12_isCell : ByteArray := prog_14_method_54_code
def yX12_isCell : MethodName := ⟨RX12, "isCell", "(I)Z"⟩
abbrev cX12_isIn : ByteArray := prog_14_method_55_code
def yX12_isIn : MethodName := ⟨RX12, "isIn", "(II)Z"⟩
abbrev cX12_bits : ByteArray := prog_14_method_56_code
def yX12_bits : MethodName := ⟨RX12, "bits", "(I)I"⟩
abbrev cX12_boyOf : ByteArray := prog_14_method_57_code
def yX12_boyOf : MethodName := ⟨RX12, "boyOf", "(II)I"⟩
abbrev cX12_quarrelOf : ByteArray := prog_14_method_58_code
def yX12_quarrelOf : MethodName := ⟨RX12, "quarrelOf", "(II)I"⟩
abbrev cX12_isOpen : ByteArray := prog_14_method_59_code
def yX12_isOpen : MethodName := ⟨RX12, "isOpen", "(I)Z"⟩
abbrev cX12_both : ByteArray := prog_14_method_60_code
def yX12_both : MethodName := ⟨RX12, "both", "(I)I"⟩
abbrev cX12_openOnes : ByteArray := prog_14_method_61_code
def yX12_openOnes : MethodName := ⟨RX12, "openOnes", "()I"⟩
abbrev cX12_openOf : ByteArray := prog_14_method_62_code
def yX12_openOf : MethodName := ⟨RX12, "openOf", "(I)I"⟩
abbrev cX12_areUp : ByteArray := prog_14_method_63_code
def yX12_areUp : MethodName := ⟨RX12, "areUp", "()I"⟩
abbrev cX12_off : ByteArray := prog_14_method_64_code
def yX12_off : MethodName := ⟨RX12, "off", "(I)I"⟩
abbrev cX12_apartOf : ByteArray := prog_14_method_65_code
def yX12_apartOf : MethodName := ⟨RX12, "apartOf", "(II)I"⟩
abbrev cX12_nearOf : ByteArray := prog_14_method_66_code
def yX12_nearOf : MethodName := ⟨RX12, "nearOf", "(I)I"⟩
abbrev cX12_dueOf : ByteArray := prog_14_method_67_code
def yX12_dueOf : MethodName := ⟨RX12, "dueOf", "(III)I"⟩
abbrev cX12_allGrudges : ByteArray := prog_14_method_68_code
def yX12_allGrudges : MethodName := ⟨RX12, "allGrudges", "()I"⟩
abbrev cX12_told : ByteArray := prog_14_method_69_code
def yX12_told : MethodName := ⟨RX12, "told", "(I)I"⟩
abbrev cX12_boy : ByteArray := prog_14_method_70_code
def yX12_boy : MethodName := ⟨RX12, "boy", "(II)I"⟩
abbrev cX12_quarrel : ByteArray := prog_14_method_71_code
def yX12_quarrel : MethodName := ⟨RX12, "quarrel", "(II)I"⟩
abbrev cX12_ends : ByteArray := prog_14_method_72_code
def yX12_ends : MethodName := ⟨RX12, "ends", "(II)V"⟩
abbrev cX12_minuteGoes : ByteArray := prog_14_method_73_code
def yX12_minuteGoes : MethodName := ⟨RX12, "minuteGoes", "()I"⟩
abbrev cX12_minutesGo : ByteArray := prog_14_method_74_code
def yX12_minutesGo : MethodName := ⟨RX12, "minutesGo", "(I)I"⟩
abbrev cX12_minute : ByteArray := prog_14_method_75_code
def yX12_minute : MethodName := ⟨RX12, "minute", "(I)I"⟩
abbrev cX12_dawns : ByteArray := prog_14_method_76_code
def yX12_dawns : MethodName := ⟨RX12, "dawns", "()I"⟩
abbrev cX12_dawn : ByteArray := prog_14_method_77_code
def yX12_dawn : MethodName := ⟨RX12, "dawn", "()I"⟩
abbrev cX12_boots : ByteArray := prog_14_method_78_code
def yX12_boots : MethodName := ⟨RX12, "boots", "(III)Z"⟩
abbrev cX12_boot : ByteArray := prog_14_method_79_code
def yX12_boot : MethodName := ⟨RX12, "boot", "(III)I"⟩
abbrev cX12_forgives : ByteArray := prog_14_method_80_code
def yX12_forgives : MethodName := ⟨RX12, "forgives", "(I)I"⟩
abbrev cX12_forgive : ByteArray := prog_14_method_81_code
def yX12_forgive : MethodName := ⟨RX12, "forgive", "(I)I"⟩
abbrev cX12_pitches : ByteArray := prog_14_method_82_code
def yX12_pitches : MethodName := ⟨RX12, "pitches", "(II)Z"⟩
abbrev cX12_pitch : ByteArray := prog_14_method_83_code
def yX12_pitch : MethodName := ⟨RX12, "pitch", "(II)I"⟩
abbrev cX12_teach : ByteArray := prog_14_method_84_code
def yX12_teach : MethodName := ⟨RX12, "teach", "(III)Z"⟩
abbrev cX12_stir : ByteArray := prog_14_method_85_code
def yX12_stir : MethodName := ⟨RX12, "stir", "(II)I"⟩
abbrev cX12_come : ByteArray := prog_14_method_86_code
def yX12_come : MethodName := ⟨RX12, "come", "(II)I"⟩
abbrev cX12_rule : ByteArray := prog_14_method_87_code
def yX12_rule : MethodName := ⟨RX12, "rule", "(I)Z"⟩
abbrev cX12_far : ByteArray := prog_14_method_88_code
def yX12_far : MethodName := ⟨RX12, "far", "(II)I"⟩
abbrev cX12_hears : ByteArray := prog_14_method_89_code
def yX12_hears : MethodName := ⟨RX12, "hears", "(I)I"⟩
abbrev cX12_near : ByteArray := prog_14_method_90_code
def yX12_near : MethodName := ⟨RX12, "near", "(I)I"⟩
abbrev cX12_due : ByteArray := prog_14_method_91_code
def yX12_due : MethodName := ⟨RX12, "due", "(II)I"⟩
abbrev cX12_levelAt : ByteArray := prog_14_method_92_code
def yX12_levelAt : MethodName := ⟨RX12, "levelAt", "(I)I"⟩
abbrev cX12_keeps : ByteArray := prog_14_method_93_code
def yX12_keeps : MethodName := ⟨RX12, "keeps", "(I)V"⟩
abbrev cX12_restores : ByteArray := prog_14_method_94_code
def yX12_restores : MethodName := ⟨RX12, "restores", "(I)V"⟩
abbrev cX12_everybody : ByteArray := prog_14_method_95_code
def yX12_everybody : MethodName := ⟨RX12, "everybody", "()I"⟩
abbrev cX12_upOf : ByteArray := prog_14_method_96_code
def yX12_upOf : MethodName := ⟨RX12, "upOf", "(I)I"⟩
abbrev cX12_breakfastNow : ByteArray := prog_14_method_97_code
def yX12_breakfastNow : MethodName := ⟨RX12, "breakfastNow", "()I"⟩
abbrev cX12_upIn : ByteArray := prog_14_method_98_code
def yX12_upIn : MethodName := ⟨RX12, "upIn", "(I)I"⟩
abbrev cX12_upBy : ByteArray := prog_14_method_99_code
def yX12_upBy : MethodName := ⟨RX12, "upBy", "(I)I"⟩
abbrev cX12_breakfast : ByteArray := prog_14_method_100_code
def yX12_breakfast : MethodName := ⟨RX12, "breakfast", "()I"⟩
abbrev cX12_overOf : ByteArray := prog_14_method_101_code
def yX12_overOf : MethodName := ⟨RX12, "overOf", "(I)I"⟩
abbrev cX12_overIn : ByteArray := prog_14_method_102_code
def yX12_overIn : MethodName := ⟨RX12, "overIn", "(I)I"⟩
abbrev cX12_yielder : ByteArray := prog_14_method_103_code
def yX12_yielder : MethodName := ⟨RX12, "yielder", "(I)I"⟩
abbrev cX12_firstOf : ByteArray := prog_14_method_104_code
def yX12_firstOf : MethodName := ⟨RX12, "firstOf", "(I)I"⟩
abbrev cX12_reveille : ByteArray := prog_14_method_105_code
def yX12_reveille : MethodName := ⟨RX12, "reveille", "()I"⟩
abbrev cX12_laysUp : ByteArray := prog_14_method_106_code
def yX12_laysUp : MethodName := ⟨RX12, "laysUp", "()V"⟩
abbrev cX12_last : ByteArray := prog_14_method_107_code
def yX12_last : MethodName := ⟨RX12, "last", "()I"⟩
abbrev cX12_laysSoonest : ByteArray := prog_14_method_108_code
def yX12_laysSoonest : MethodName := ⟨RX12, "laysSoonest", "(I)V"⟩
abbrev cX12_soonest : ByteArray := prog_14_method_109_code
def yX12_soonest : MethodName := ⟨RX12, "soonest", "(I)I"⟩
abbrev cX12_soonestIn : ByteArray := prog_14_method_110_code
def yX12_soonestIn : MethodName := ⟨RX12, "soonestIn", "(I)I"⟩
abbrev cX12_laysBest : ByteArray := prog_14_method_111_code
def yX12_laysBest : MethodName := ⟨RX12, "laysBest", "(I)V"⟩
abbrev cX12_best : ByteArray := prog_14_method_112_code
def yX12_best : MethodName := ⟨RX12, "best", "(I)I"⟩
abbrev cX12_bestIn : ByteArray := prog_14_method_113_code
def yX12_bestIn : MethodName := ⟨RX12, "bestIn", "(I)I"⟩
abbrev cX12_endsAll : ByteArray := prog_14_method_114_code
def yX12_endsAll : MethodName := ⟨RX12, "endsAll", "(I)Z"⟩
abbrev cX12_endingOf : ByteArray := prog_14_method_115_code
def yX12_endingOf : MethodName := ⟨RX12, "endingOf", "()I"⟩
abbrev cX12_ending : ByteArray := prog_14_method_116_code
def yX12_ending : MethodName := ⟨RX12, "ending", "()I"⟩
abbrev cX12_endingSet : ByteArray := prog_14_method_117_code
def yX12_endingSet : MethodName := ⟨RX12, "endingSet", "()I"⟩
abbrev cX12_apartOnes : ByteArray := prog_14_method_118_code
def yX12_apartOnes : MethodName := ⟨RX12, "apartOnes", "()I"⟩
abbrev cX12_apart : ByteArray := prog_14_method_119_code
def yX12_apart : MethodName := ⟨RX12, "apart", "()I"⟩
abbrev cX12_apartSet : ByteArray := prog_14_method_120_code
def yX12_apartSet : MethodName := ⟨RX12, "apartSet", "()I"⟩
abbrev cX12_circleOf : ByteArray := prog_14_method_121_code
def yX12_circleOf : MethodName := ⟨RX12, "circleOf", "(I)I"⟩
abbrev cX12_circle : ByteArray := prog_14_method_122_code
def yX12_circle : MethodName := ⟨RX12, "circle", "(I)I"⟩
abbrev cX12_circles : ByteArray := prog_14_method_123_code
def yX12_circles : MethodName := ⟨RX12, "circles", "()I"⟩
abbrev cX12_isSide : ByteArray := prog_14_method_124_code
def yX12_isSide : MethodName := ⟨RX12, "isSide", "(I)Z"⟩
abbrev cX12_sides : ByteArray := prog_14_method_125_code
def yX12_sides : MethodName := ⟨RX12, "sides", "()I"⟩
abbrev cX12_wrongSeen : ByteArray := prog_14_method_126_code
def yX12_wrongSeen : MethodName := ⟨RX12, "wrongSeen", "(III)I"⟩
abbrev cX12_isSeen : ByteArray := prog_14_method_127_code
def yX12_isSeen : MethodName := ⟨RX12, "isSeen", "(III)Z"⟩
abbrev cX12_laysFits : ByteArray := prog_14_method_128_code
def yX12_laysFits : MethodName := ⟨RX12, "laysFits", "(III)V"⟩
abbrev cX12_fits : ByteArray := prog_14_method_129_code
def yX12_fits : MethodName := ⟨RX12, "fits", "(III)I"⟩
abbrev cX12_fitsAt : ByteArray := prog_14_method_130_code
def yX12_fitsAt : MethodName := ⟨RX12, "fitsAt", "(IIII)I"⟩
abbrev cX12_mostAlike : ByteArray := prog_14_method_131_code
def yX12_mostAlike : MethodName := ⟨RX12, "mostAlike", "(I)I"⟩
abbrev cX12_ask : ByteArray := prog_14_method_132_code
def yX12_ask : MethodName := ⟨RX12, "ask", "(III)I"⟩
abbrev cX12_haveOf : ByteArray := prog_14_method_133_code
def yX12_haveOf : MethodName := ⟨RX12, "haveOf", "(III)I"⟩
abbrev cX12_isRest : ByteArray := prog_14_method_134_code
def yX12_isRest : MethodName := ⟨RX12, "isRest", "(IIII)Z"⟩
abbrev cX12_restOf : ByteArray := prog_14_method_135_code
def yX12_restOf : MethodName := ⟨RX12, "restOf", "(III)I"⟩
abbrev cX12_rests : ByteArray := prog_14_method_136_code
def yX12_rests : MethodName := ⟨RX12, "rests", "(II)I"⟩
abbrev cX12_restAt : ByteArray := prog_14_method_137_code
def yX12_restAt : MethodName := ⟨RX12, "restAt", "(IIII)I"⟩
abbrev cX12_settles : ByteArray := prog_14_method_138_code
def yX12_settles : MethodName := ⟨RX12, "settles", "(II)V"⟩
abbrev cX12_doesDeed : ByteArray := prog_14_method_139_code
def yX12_doesDeed : MethodName := ⟨RX12, "doesDeed", "(IZ)Z"⟩
abbrev cX12_playing : ByteArray := prog_14_method_140_code
def yX12_playing : MethodName := ⟨RX12, "playing", "(I)I"⟩
abbrev cX12_game : ByteArray := prog_14_method_141_code
def yX12_game : MethodName := ⟨RX12, "game", "(I)I"⟩
abbrev cX12_moveOf : ByteArray := prog_14_method_142_code
def yX12_moveOf : MethodName := ⟨RX12, "moveOf", "(I)I"⟩
abbrev cX12_night : ByteArray := prog_14_method_143_code
def yX12_night : MethodName := ⟨RX12, "night", "(I)Z"⟩
abbrev cX12_wakes : ByteArray := prog_14_method_144_code
def yX12_wakes : MethodName := ⟨RX12, "wakes", "(I)Z"⟩
abbrev cX12_copyYields : ByteArray := prog_14_method_145_code
def yX12_copyYields : MethodName := ⟨RX12, "copyYields", "(I)I"⟩
abbrev cX12_draw : ByteArray := prog_14_method_146_code
def yX12_draw : MethodName := ⟨RX12, "draw", "(I)I"⟩
abbrev cX12_minutesBy : ByteArray := prog_14_method_147_code
def yX12_minutesBy : MethodName := ⟨RX12, "minutesBy", "(I)Z"⟩
abbrev cX12_dawnsBy : ByteArray := prog_14_method_148_code
def yX12_dawnsBy : MethodName := ⟨RX12, "dawnsBy", "()Z"⟩
abbrev cX12_bootsBy : ByteArray := prog_14_method_149_code
def yX12_bootsBy : MethodName := ⟨RX12, "bootsBy", "(III)Z"⟩
abbrev cX12_bootsAny : ByteArray := prog_14_method_150_code
def yX12_bootsAny : MethodName := ⟨RX12, "bootsAny", "()Z"⟩
abbrev cX12_does : ByteArray := prog_14_method_151_code
def yX12_does : MethodName := ⟨RX12, "does", "(I)Z"⟩
abbrev cX12_holds : ByteArray := prog_14_method_152_code
def yX12_holds : MethodName := ⟨RX12, "holds", "(I)Z"⟩
abbrev cX12_behindEnds : ByteArray := prog_14_method_153_code
def yX12_behindEnds : MethodName := ⟨RX12, "behindEnds", "(I)I"⟩
abbrev cX12_lives : ByteArray := prog_14_method_154_code
def yX12_lives : MethodName := ⟨RX12, "lives", "(I)V"⟩
abbrev cX12_live : ByteArray := prog_14_method_155_code
def yX12_live : MethodName := ⟨RX12, "live", "(I)I"⟩
abbrev cX12_lived : ByteArray := prog_14_method_156_code
def yX12_lived : MethodName := ⟨RX12, "lived", "(I)I"⟩
abbrev cX12_mean : ByteArray := prog_14_method_157_code
def yX12_mean : MethodName := ⟨RX12, "mean", "(II)Z"⟩
abbrev cX12_copies : ByteArray := prog_14_method_158_code
def yX12_copies : MethodName := ⟨RX12, "copies", "(II)V"⟩
abbrev cX12_mark : ByteArray := prog_14_method_159_code
def yX12_mark : MethodName := ⟨RX12, "mark", "()I"⟩
abbrev cX12_undo : ByteArray := prog_14_method_160_code
def yX12_undo : MethodName := ⟨RX12, "undo", "()I"⟩
abbrev cJ6_bitCount_0f7a4 : ByteArray := prog_15_method_49_code
def yJ6_bitCount_0f7a4 : MethodName := ⟨RK20, "bitCount", "(I)I"⟩
abbrev cJ0_length_8abf5 : ByteArray := prog_17_method_54_code
def yJ0_length_8abf5 : MethodName := ⟨RK90, "length", "()I"⟩
abbrev cJ0_charAt_5068e : ByteArray := prog_17_method_56_code
def yJ0_charAt_5068e : MethodName := ⟨RK90, "charAt", "(I)C"⟩
abbrev vwCl : List vw_C := [(RX0, TX0, 4), (RX1, TX1, 17), (RX2, TX2, 4), (RX3, TX3, 6), (RX4, TX4, 2), (RX5, TX5, 8), (RX6, TX6, 3), (RX7, TX7, 14), (RX8, TX8, 3), (RX9, TX9, 8), (RX10, TX10, 4), (RX11, TX11, 20), (RX12, TX12, 44)]
def qCN (c : Nat) : String := match c with
  | 0 => RX0
  | 1 => RX1
  | 2 => RX2
  | 3 => RX3
  | 4 => RX4
  | 5 => RX5
  | 6 => RX6
  | 7 => RX7
  | 8 => RX8
  | 9 => RX9
  | 10 => RX10
  | 11 => RX11
  | 12 => RX12
  | 20 => RK20
  | 90 => RK90
  | _ => ""
def qTF (c : Nat) : u_T := match c with
  | 0 => TX0
  | 1 => TX1
  | 2 => TX2
  | 3 => TX3
  | 4 => TX4
  | 5 => TX5
  | 6 => TX6
  | 7 => TX7
  | 8 => TX8
  | 9 => TX9
  | 10 => TX10
  | 11 => TX11
  | 12 => TX12
  | _ => fun _ => ("", "", "", false)
def qTy (c : Nat) : Nat → FieldType := match c with
  | 0 => tyX0
  | 1 => tyX1
  | 2 => tyX2
  | 3 => tyX3
  | 4 => tyX4
  | 5 => tyX5
  | 6 => tyX6
  | 7 => tyX7
  | 8 => tyX8
  | 9 => tyX9
  | 10 => tyX10
  | 11 => tyX11
  | 12 => tyX12
  | _ => fun _ => .int
/-- the words, by places: 256 times the list, and the place in it -/
def qTb (c : Nat) : List Cond := match c with
  | 0 => k2_sels lw_privs
  | 1 => tables_1_1
  | 2 => tables_1_2
  | 3 => tables_1_3
  | 4 => tables_1_4
  | 5 => tables_1_5
  | 6 => tables_1_6
  | 7 => tables_1_7
  | 8 => tables_1_8
  | 9 => tables_1_9
  | 10 => tables_1_10
  | _ => []
def qWd (h : Nat) : Option Cond := (qTb (h / 256))[h % 256]?
theorem inX0 : ∀ w ∈ u_ws RX0 TX0 4, w ∈ tables_1 := by decide +kernel
theorem inX1 : ∀ w ∈ u_ws RX1 TX1 17, w ∈ tables_1 := by decide +kernel
theorem inX2 : ∀ w ∈ u_ws RX2 TX2 4, w ∈ tables_1 := by decide +kernel
theorem inX3 : ∀ w ∈ u_ws RX3 TX3 6, w ∈ tables_1 := by decide +kernel
theorem inX4 : ∀ w ∈ u_ws RX4 TX4 2, w ∈ tables_1 := by decide +kernel
theorem inX5 : ∀ w ∈ u_ws RX5 TX5 8, w ∈ tables_1 := by decide +kernel
theorem inX6 : ∀ w ∈ u_ws RX6 TX6 3, w ∈ tables_1 := by decide +kernel
theorem inX7 : ∀ w ∈ u_ws RX7 TX7 14, w ∈ tables_1 := by decide +kernel
theorem inX8 : ∀ w ∈ u_ws RX8 TX8 3, w ∈ tables_1 := by decide +kernel
theorem inX9 : ∀ w ∈ u_ws RX9 TX9 8, w ∈ tables_1 := by decide +kernel
theorem inX10 : ∀ w ∈ u_ws RX10 TX10 4, w ∈ tables_1 := by decide +kernel
theorem inX11 : ∀ w ∈ u_ws RX11 TX11 20, w ∈ tables_1 := by decide +kernel
theorem inX12 : ∀ w ∈ u_ws RX12 TX12 44, w ∈ tables_1 := by decide +kernel
end
section
/-! the code, block by block: an instruction, its length, what it links (read by program; checked below by the kernel against the bytes and the tables) -/
abbrev qIns : Type := Instr × Nat × List Nat
abbrev qMI : Type := MethodName × ByteArray × Nat × Option FieldType × Nat × List Nat × Nat × Bool × List (Nat × List qIns)
def kX0_init_0 : List qIns := [(.aload_n 0, 1, []), (.nop, 0, [1])]
def kX0_init_1 : List qIns := [(.invokespecial 3, 3, [999, 396, 1, 2]), (.nop, 0, [4])]
def kX0_init_4 : List qIns := [(.aload_n 0, 1, []), (.nop, 0, [5])]
def kX0_init_5 : List qIns := [(.new 9, 3, []), (.nop, 0, [8])]
def kX0_init_8 : List qIns := [(.dup, 1, []), (.nop, 0, [9])]
def kX0_init_9 : List qIns := [(.invokespecial 11, 3, [7, 398, 1, 2]), (.nop, 0, [12])]
def kX0_init_12 : List qIns := [(.putfield 12, 3, [0, 0, 399, 2]), (.nop, 0, [15])]
def kX0_init_15 : List qIns := [(.aload_n 0, 1, []), (.bipush 8, 2, [8]), (.nop, 0, [18])]
def kX0_init_18 : List qIns := [(.newarray .int, 2, []), (.nop, 0, [20])]
def kX0_init_20 : List qIns := [(.putfield 18, 3, [0, 1, 401, 2]), (.nop, 0, [23])]
def kX0_init_23 : List qIns := [(.aload_n 0, 1, []), (.bipush 10, 2, [10]), (.nop, 0, [26])]
def kX0_init_26 : List qIns := [(.newarray .int, 2, []), (.nop, 0, [28])]
def kX0_init_28 : List qIns := [(.putfield 22, 3, [0, 2, 404, 2]), (.nop, 0, [31])]
def kX0_init_31 : List qIns := [(.aload_n 0, 1, []), (.iconst (-1), 1, []), (.putfield 25, 3, [0, 3, 406, 0]), (.return_, 1, [])]
def mX0_init : qMI := (yX0_init, cX0_init, 1, none, 0, [395, 259, 394, 0], 0, false, [(0, kX0_init_0), (1, kX0_init_1), (4, kX0_init_4), (5, kX0_init_5), (8, kX0_init_8), (9, kX0_init_9), (12, kX0_init_12), (15, kX0_init_15), (18, kX0_init_18), (20, kX0_init_20), (23, kX0_init_23), (26, kX0_init_26), (28, kX0_init_28), (31, kX0_init_31)])
def kX0_look_0 : List qIns := [(.aload_n 0, 1, []), (.getfield 12, 3, [0, 0, 399, 2]), (.aload_n 1, 1, []), (.invokevirtual 29, 3, [9, 1342, 2, 2, 2]), (.aload_n 0, 1, []), (.iconst (-1), 1, []), (.putfield 25, 3, [0, 3, 406, 0]), (.aload_n 0, 1, []), (.invokevirtual 33, 3, [3, 1343, 1, 2, 1]), (.aload_n 0, 1, []), (.getfield 12, 3, [0, 0, 399, 2]), (.getfield 36, 3, [1, 3, 309, 0]), (.istore_n 2, 1, []), (.iconst 0, 1, [0]), (.istore_n 3, 1, []), (.iconst 0, 1, [0]), (.istore 4, 2, []), (.nop, 0, [30])]
def kX0_look_30 : List qIns := [(.iload 4, 2, []), (.bipush 10, 2, [10]), (.if_icmp .ge 84, 3, [118]), (.aload_n 0, 1, []), (.getfield 12, 3, [0, 0, 399, 2]), (.invokevirtual 39, 3, [23, 1348, 1, 0, 2]), (.ifCond .eq 74, 3, [118]), (.aload_n 0, 1, []), (.getfield 12, 3, [0, 0, 399, 2]), (.aload_n 0, 1, []), (.getfield 12, 3, [0, 0, 399, 2]), (.getfield 36, 3, [1, 3, 309, 0]), (.aload_n 0, 1, []), (.getfield 12, 3, [0, 0, 399, 2]), (.invokevirtual 43, 3, [27, 1349, 1, 0, 2]), (.invokestatic 46, 3, [1350, 0]), (.putfield 36, 3, [1, 3, 309, 0]), (.aload_n 0, 1, []), (.getfield 12, 3, [0, 0, 399, 2]), (.invokevirtual 52, 3, [28, 1351, 1, 0, 2]), (.istore 5, 2, []), (.aload_n 0, 1, []), (.getfield 25, 3, [0, 3, 406, 0]), (.iconst (-1), 1, []), (.if_icmp .ne 12, 3, [97]), (.aload_n 0, 1, []), (.iload 5, 2, []), (.invokestatic 55, 3, [2, 1352, 1, 0, 0]), (.putfield 25, 3, [0, 3, 406, 0]), (.nop, 0, [97])]
def kX0_look_97 : List qIns := [(.aload_n 0, 1, []), (.getfield 12, 3, [0, 0, 399, 2]), (.getfield 36, 3, [1, 3, 309, 0]), (.iload_n 2, 1, []), (.isub, 1, []), (.istore_n 3, 1, []), (.aload_n 0, 1, []), (.iload_n 3, 1, []), (.invokevirtual 59, 3, [4, 1355, 2, 2, 1]), (.iinc 4 1, 3, [1]), (.goto (-85), 3, [30])]
def kX0_look_118 : List qIns := [(.iload_n 3, 1, []), (.ireturn, 1, [0])]
def mX0_look : qMI := (yX0_look, cX0_look, 6, (some .int), 0, [1341, 259, 1339, 1340], 1, false, [(0, kX0_look_0), (30, kX0_look_30), (97, kX0_look_97), (118, kX0_look_118)])
def kX0_firstOf_0 : List qIns := [(.iconst 0, 1, [0]), (.istore_n 1, 1, []), (.nop, 0, [2])]
def kX0_firstOf_2 : List qIns := [(.iload_n 1, 1, []), (.bipush 8, 2, [8]), (.if_icmp .ge 19, 3, [24]), (.iload_n 0, 1, []), (.iconst 1, 1, [1]), (.iload_n 1, 1, []), (.ishl, 1, []), (.iand, 1, []), (.ifCond .eq 5, 3, [18]), (.iload_n 1, 1, []), (.ireturn, 1, [0])]
def kX0_firstOf_18 : List qIns := [(.iinc 1 1, 3, [1]), (.goto (-19), 3, [2])]
def kX0_firstOf_24 : List qIns := [(.iconst (-1), 1, []), (.ireturn, 1, [0])]
def mX0_firstOf : qMI := (yX0_firstOf, cX0_firstOf, 2, (some .int), 0, [1354, 259, 1353], 1, true, [(0, kX0_firstOf_0), (2, kX0_firstOf_2), (18, kX0_firstOf_18), (24, kX0_firstOf_24)])
def kX0_begin_0 : List qIns := [(.aload_n 0, 1, []), (.getfield 12, 3, [0, 0, 399, 2]), (.invokevirtual 63, 3, [22, 1347, 1, 0, 2]), (.istore_n 1, 1, []), (.iconst 0, 1, [0]), (.istore_n 2, 1, []), (.nop, 0, [10])]
def kX0_begin_10 : List qIns := [(.iload_n 2, 1, []), (.aload_n 0, 1, []), (.getfield 12, 3, [0, 0, 399, 2]), (.getfield 66, 3, [1, 4, 315, 0]), (.if_icmp .ge 28, 3, [46]), (.aload_n 0, 1, []), (.getfield 18, 3, [0, 1, 401, 2]), (.iload_n 2, 1, []), (.iload_n 1, 1, []), (.iconst 1, 1, [1]), (.iload_n 2, 1, []), (.ishl, 1, []), (.iand, 1, []), (.ifCond .eq 7, 3, [38]), (.iconst 0, 1, [0]), (.goto 4, 3, [39])]
def kX0_begin_38 : List qIns := [(.iconst (-1), 1, []), (.nop, 0, [39])]
def kX0_begin_39 : List qIns := [(.iastore, 1, []), (.iinc 2 1, 3, [1]), (.goto (-33), 3, [10])]
def kX0_begin_46 : List qIns := [(.iconst 0, 1, [0]), (.istore_n 2, 1, []), (.nop, 0, [48])]
def kX0_begin_48 : List qIns := [(.iload_n 2, 1, []), (.aload_n 0, 1, []), (.getfield 12, 3, [0, 0, 399, 2]), (.getfield 69, 3, [1, 5, 320, 0]), (.if_icmp .ge 32, 3, [88]), (.aload_n 0, 1, []), (.getfield 22, 3, [0, 2, 404, 2]), (.iload_n 2, 1, []), (.aload_n 0, 1, []), (.getfield 12, 3, [0, 0, 399, 2]), (.getfield 72, 3, [1, 16, 350, 2]), (.iload_n 2, 1, []), (.iaload, 1, []), (.ifCond .eq 7, 3, [80]), (.iconst 0, 1, [0]), (.goto 4, 3, [81])]
def kX0_begin_80 : List qIns := [(.iconst (-1), 1, []), (.nop, 0, [81])]
def kX0_begin_81 : List qIns := [(.iastore, 1, []), (.iinc 2 1, 3, [1]), (.goto (-37), 3, [48])]
def kX0_begin_88 : List qIns := [(.return_, 1, [])]
def mX0_begin : qMI := (yX0_begin, cX0_begin, 3, none, 0, [1346, 259, 1345, 23], 0, false, [(0, kX0_begin_0), (10, kX0_begin_10), (38, kX0_begin_38), (39, kX0_begin_39), (46, kX0_begin_46), (48, kX0_begin_48), (80, kX0_begin_80), (81, kX0_begin_81), (88, kX0_begin_88)])
def kX0_note_0 : List qIns := [(.aload_n 0, 1, []), (.getfield 12, 3, [0, 0, 399, 2]), (.invokevirtual 63, 3, [22, 1347, 1, 0, 2]), (.istore_n 2, 1, []), (.iconst 0, 1, [0]), (.istore_n 3, 1, []), (.nop, 0, [10])]
def kX0_note_10 : List qIns := [(.iload_n 3, 1, []), (.aload_n 0, 1, []), (.getfield 12, 3, [0, 0, 399, 2]), (.getfield 66, 3, [1, 4, 315, 0]), (.if_icmp .ge 34, 3, [52]), (.aload_n 0, 1, []), (.getfield 18, 3, [0, 1, 401, 2]), (.iload_n 3, 1, []), (.iaload, 1, []), (.iconst (-1), 1, []), (.if_icmp .ne 18, 3, [46]), (.iload_n 2, 1, []), (.iconst 1, 1, [1]), (.iload_n 3, 1, []), (.ishl, 1, []), (.iand, 1, []), (.ifCond .eq 10, 3, [46]), (.aload_n 0, 1, []), (.getfield 18, 3, [0, 1, 401, 2]), (.iload_n 3, 1, []), (.iload_n 1, 1, []), (.iastore, 1, []), (.nop, 0, [46])]
def kX0_note_46 : List qIns := [(.iinc 3 1, 3, [1]), (.goto (-39), 3, [10])]
def kX0_note_52 : List qIns := [(.iconst 0, 1, [0]), (.istore_n 3, 1, []), (.nop, 0, [54])]
def kX0_note_54 : List qIns := [(.iload_n 3, 1, []), (.aload_n 0, 1, []), (.getfield 12, 3, [0, 0, 399, 2]), (.getfield 69, 3, [1, 5, 320, 0]), (.if_icmp .ge 38, 3, [100]), (.aload_n 0, 1, []), (.getfield 22, 3, [0, 2, 404, 2]), (.iload_n 3, 1, []), (.iaload, 1, []), (.iconst (-1), 1, []), (.if_icmp .ne 22, 3, [94]), (.aload_n 0, 1, []), (.getfield 12, 3, [0, 0, 399, 2]), (.getfield 72, 3, [1, 16, 350, 2]), (.iload_n 3, 1, []), (.iaload, 1, []), (.ifCond .eq 10, 3, [94]), (.aload_n 0, 1, []), (.getfield 22, 3, [0, 2, 404, 2]), (.iload_n 3, 1, []), (.iload_n 1, 1, []), (.iastore, 1, []), (.nop, 0, [94])]
def kX0_note_94 : List qIns := [(.iinc 3 1, 3, [1]), (.goto (-43), 3, [54])]
def kX0_note_100 : List qIns := [(.return_, 1, [])]
def mX0_note : qMI := (yX0_note, cX0_note, 4, none, 0, [1358, 259, 1357, 24], 1, false, [(0, kX0_note_0), (10, kX0_note_10), (46, kX0_note_46), (52, kX0_note_52), (54, kX0_note_54), (94, kX0_note_94), (100, kX0_note_100)])
def kX0_upWithin_0 : List qIns := [(.iconst 0, 1, [0]), (.istore_n 2, 1, []), (.iconst 0, 1, [0]), (.istore_n 3, 1, []), (.nop, 0, [4])]
def kX0_upWithin_4 : List qIns := [(.iload_n 3, 1, []), (.aload_n 0, 1, []), (.getfield 12, 3, [0, 0, 399, 2]), (.getfield 66, 3, [1, 4, 315, 0]), (.if_icmp .ge 25, 3, [37]), (.aload_n 0, 1, []), (.getfield 18, 3, [0, 1, 401, 2]), (.iload_n 3, 1, []), (.iaload, 1, []), (.iload_n 1, 1, []), (.if_icmp .gt 9, 3, [31]), (.iload_n 2, 1, []), (.iconst 1, 1, [1]), (.iload_n 3, 1, []), (.ishl, 1, []), (.ior, 1, []), (.istore_n 2, 1, []), (.nop, 0, [31])]
def kX0_upWithin_31 : List qIns := [(.iinc 3 1, 3, [1]), (.goto (-30), 3, [4])]
def kX0_upWithin_37 : List qIns := [(.iload_n 2, 1, []), (.ireturn, 1, [0])]
def mX0_upWithin : qMI := (yX0_upWithin, cX0_upWithin, 4, (some .int), 0, [1367, 259, 1365, 1366], 1, false, [(0, kX0_upWithin_0), (4, kX0_upWithin_4), (31, kX0_upWithin_31), (37, kX0_upWithin_37)])
def kX0_lastUp_0 : List qIns := [(.iconst 0, 1, [0]), (.istore_n 1, 1, []), (.iconst 1, 1, [1]), (.istore_n 2, 1, []), (.nop, 0, [4])]
def kX0_lastUp_4 : List qIns := [(.iload_n 2, 1, []), (.aload_n 0, 1, []), (.getfield 12, 3, [0, 0, 399, 2]), (.getfield 66, 3, [1, 4, 315, 0]), (.if_icmp .ge 26, 3, [38]), (.aload_n 0, 1, []), (.getfield 18, 3, [0, 1, 401, 2]), (.iload_n 2, 1, []), (.iaload, 1, []), (.aload_n 0, 1, []), (.getfield 18, 3, [0, 1, 401, 2]), (.iload_n 1, 1, []), (.iaload, 1, []), (.if_icmp .le 5, 3, [32]), (.iload_n 2, 1, []), (.istore_n 1, 1, []), (.nop, 0, [32])]
def kX0_lastUp_32 : List qIns := [(.iinc 2 1, 3, [1]), (.goto (-31), 3, [4])]
def kX0_lastUp_38 : List qIns := [(.iload_n 1, 1, []), (.ireturn, 1, [0])]
def mX0_lastUp : qMI := (yX0_lastUp, cX0_lastUp, 3, (some .int), 0, [1391, 259, 1389, 1390], 0, false, [(0, kX0_lastUp_0), (4, kX0_lastUp_4), (32, kX0_lastUp_32), (38, kX0_lastUp_38)])
def kX1_init_0 : List qIns := [(.aload_n 0, 1, []), (.nop, 0, [1])]
def kX1_init_1 : List qIns := [(.invokespecial 3, 3, [999, 290, 1, 2]), (.nop, 0, [4])]
def kX1_init_4 : List qIns := [(.aload_n 0, 1, []), (.bipush 8, 2, [8]), (.nop, 0, [7])]
def kX1_init_7 : List qIns := [(.newarray .long, 2, []), (.nop, 0, [9])]
def kX1_init_9 : List qIns := [(.putfield 9, 3, [1, 6, 325, 2]), (.nop, 0, [12])]
def kX1_init_12 : List qIns := [(.aload_n 0, 1, []), (.bipush 8, 2, [8]), (.nop, 0, [15])]
def kX1_init_15 : List qIns := [(.newarray .int, 2, []), (.nop, 0, [17])]
def kX1_init_17 : List qIns := [(.putfield 15, 3, [1, 7, 326, 2]), (.nop, 0, [20])]
def kX1_init_20 : List qIns := [(.aload_n 0, 1, []), (.bipush 8, 2, [8]), (.nop, 0, [23])]
def kX1_init_23 : List qIns := [(.newarray .int, 2, []), (.nop, 0, [25])]
def kX1_init_25 : List qIns := [(.putfield 19, 3, [1, 8, 329, 2]), (.nop, 0, [28])]
def kX1_init_28 : List qIns := [(.aload_n 0, 1, []), (.bipush 8, 2, [8]), (.nop, 0, [31])]
def kX1_init_31 : List qIns := [(.newarray .int, 2, []), (.nop, 0, [33])]
def kX1_init_33 : List qIns := [(.putfield 22, 3, [1, 9, 332, 2]), (.nop, 0, [36])]
def kX1_init_36 : List qIns := [(.aload_n 0, 1, []), (.bipush 8, 2, [8]), (.nop, 0, [39])]
def kX1_init_39 : List qIns := [(.newarray .int, 2, []), (.nop, 0, [41])]
def kX1_init_41 : List qIns := [(.putfield 25, 3, [1, 10, 334, 2]), (.nop, 0, [44])]
def kX1_init_44 : List qIns := [(.aload_n 0, 1, []), (.bipush 8, 2, [8]), (.nop, 0, [47])]
def kX1_init_47 : List qIns := [(.newarray .int, 2, []), (.nop, 0, [49])]
def kX1_init_49 : List qIns := [(.putfield 28, 3, [1, 11, 336, 2]), (.nop, 0, [52])]
def kX1_init_52 : List qIns := [(.aload_n 0, 1, []), (.bipush 8, 2, [8]), (.nop, 0, [55])]
def kX1_init_55 : List qIns := [(.newarray .int, 2, []), (.nop, 0, [57])]
def kX1_init_57 : List qIns := [(.putfield 31, 3, [1, 12, 338, 2]), (.nop, 0, [60])]
def kX1_init_60 : List qIns := [(.aload_n 0, 1, []), (.bipush 10, 2, [10]), (.nop, 0, [63])]
def kX1_init_63 : List qIns := [(.newarray .int, 2, []), (.nop, 0, [65])]
def kX1_init_65 : List qIns := [(.putfield 34, 3, [1, 13, 340, 2]), (.nop, 0, [68])]
def kX1_init_68 : List qIns := [(.aload_n 0, 1, []), (.bipush 10, 2, [10]), (.nop, 0, [71])]
def kX1_init_71 : List qIns := [(.newarray .int, 2, []), (.nop, 0, [73])]
def kX1_init_73 : List qIns := [(.putfield 37, 3, [1, 14, 343, 2]), (.nop, 0, [76])]
def kX1_init_76 : List qIns := [(.aload_n 0, 1, []), (.bipush 10, 2, [10]), (.nop, 0, [79])]
def kX1_init_79 : List qIns := [(.newarray .int, 2, []), (.nop, 0, [81])]
def kX1_init_81 : List qIns := [(.putfield 40, 3, [1, 15, 346, 2]), (.nop, 0, [84])]
def kX1_init_84 : List qIns := [(.aload_n 0, 1, []), (.bipush 10, 2, [10]), (.nop, 0, [87])]
def kX1_init_87 : List qIns := [(.newarray .int, 2, []), (.nop, 0, [89])]
def kX1_init_89 : List qIns := [(.putfield 43, 3, [1, 16, 349, 2]), (.nop, 0, [92])]
def kX1_init_92 : List qIns := [(.aload_n 0, 1, []), (.invokevirtual 46, 3, [8, 291, 1, 2, 2]), (.return_, 1, [])]
def mX1_init : qMI := (yX1_init, cX1_init, 1, none, 1, [289, 258, 288, 0], 0, false, [(0, kX1_init_0), (1, kX1_init_1), (4, kX1_init_4), (7, kX1_init_7), (9, kX1_init_9), (12, kX1_init_12), (15, kX1_init_15), (17, kX1_init_17), (20, kX1_init_20), (23, kX1_init_23), (25, kX1_init_25), (28, kX1_init_28), (31, kX1_init_31), (33, kX1_init_33), (36, kX1_init_36), (39, kX1_init_39), (41, kX1_init_41), (44, kX1_init_44), (47, kX1_init_47), (49, kX1_init_49), (52, kX1_init_52), (55, kX1_init_55), (57, kX1_init_57), (60, kX1_init_60), (63, kX1_init_63), (65, kX1_init_65), (68, kX1_init_68), (71, kX1_init_71), (73, kX1_init_73), (76, kX1_init_76), (79, kX1_init_79), (81, kX1_init_81), (84, kX1_init_84), (87, kX1_init_87), (89, kX1_init_89), (92, kX1_init_92)])
def kX1_empty_0 : List qIns := [(.aload_n 0, 1, []), (.iconst 4, 1, [4]), (.putfield 49, 3, [1, 0, 295, 0]), (.aload_n 0, 1, []), (.iconst 3, 1, [3]), (.putfield 53, 3, [1, 1, 300, 0]), (.aload_n 0, 1, []), (.iconst 4, 1, [4]), (.putfield 56, 3, [1, 2, 305, 0]), (.aload_n 0, 1, []), (.iconst 0, 1, [0]), (.putfield 59, 3, [1, 3, 308, 0]), (.aload_n 0, 1, []), (.iconst 0, 1, [0]), (.putfield 62, 3, [1, 4, 313, 0]), (.aload_n 0, 1, []), (.iconst 0, 1, [0]), (.putfield 65, 3, [1, 5, 319, 0]), (.return_, 1, [])]
def mX1_empty : qMI := (yX1_empty, cX1_empty, 1, none, 1, [294, 258, 292, 293], 0, false, [(0, kX1_empty_0)])
def kX1_copy_0 : List qIns := [(.aload_n 1, 1, []), (.ifnonnull 4, 3, [5]), (.return_, 1, [])]
def kX1_copy_5 : List qIns := [(.aload_n 0, 1, []), (.aload_n 1, 1, []), (.getfield 49, 3, [1, 0, 295, 0]), (.putfield 49, 3, [1, 0, 295, 0]), (.aload_n 0, 1, []), (.aload_n 1, 1, []), (.getfield 53, 3, [1, 1, 300, 0]), (.putfield 53, 3, [1, 1, 300, 0]), (.aload_n 0, 1, []), (.aload_n 1, 1, []), (.getfield 56, 3, [1, 2, 305, 0]), (.putfield 56, 3, [1, 2, 305, 0]), (.aload_n 0, 1, []), (.aload_n 1, 1, []), (.getfield 59, 3, [1, 3, 308, 0]), (.putfield 59, 3, [1, 3, 308, 0]), (.aload_n 0, 1, []), (.aload_n 1, 1, []), (.getfield 62, 3, [1, 4, 313, 0]), (.putfield 62, 3, [1, 4, 313, 0]), (.aload_n 0, 1, []), (.aload_n 1, 1, []), (.getfield 65, 3, [1, 5, 319, 0]), (.putfield 65, 3, [1, 5, 319, 0]), (.aload_n 1, 1, []), (.getfield 9, 3, [1, 6, 325, 2]), (.iconst 0, 1, [0]), (.aload_n 0, 1, []), (.getfield 9, 3, [1, 6, 325, 2]), (.iconst 0, 1, [0]), (.bipush 8, 2, [8]), (.invokestatic 68, 3, [1074]), (.aload_n 1, 1, []), (.getfield 15, 3, [1, 7, 326, 2]), (.iconst 0, 1, [0]), (.aload_n 0, 1, []), (.getfield 15, 3, [1, 7, 326, 2]), (.iconst 0, 1, [0]), (.bipush 8, 2, [8]), (.invokestatic 68, 3, [1074]), (.aload_n 1, 1, []), (.getfield 19, 3, [1, 8, 329, 2]), (.iconst 0, 1, [0]), (.aload_n 0, 1, []), (.getfield 19, 3, [1, 8, 329, 2]), (.iconst 0, 1, [0]), (.bipush 8, 2, [8]), (.invokestatic 68, 3, [1074]), (.aload_n 1, 1, []), (.getfield 22, 3, [1, 9, 332, 2]), (.iconst 0, 1, [0]), (.aload_n 0, 1, []), (.getfield 22, 3, [1, 9, 332, 2]), (.iconst 0, 1, [0]), (.bipush 8, 2, [8]), (.invokestatic 68, 3, [1074]), (.aload_n 1, 1, []), (.getfield 25, 3, [1, 10, 334, 2]), (.iconst 0, 1, [0]), (.aload_n 0, 1, []), (.getfield 25, 3, [1, 10, 334, 2]), (.iconst 0, 1, [0]), (.bipush 8, 2, [8]), (.invokestatic 68, 3, [1074]), (.aload_n 1, 1, []), (.getfield 28, 3, [1, 11, 336, 2]), (.iconst 0, 1, [0]), (.aload_n 0, 1, []), (.getfield 28, 3, [1, 11, 336, 2]), (.iconst 0, 1, [0]), (.bipush 8, 2, [8]), (.invokestatic 68, 3, [1074]), (.aload_n 1, 1, []), (.getfield 31, 3, [1, 12, 338, 2]), (.iconst 0, 1, [0]), (.aload_n 0, 1, []), (.getfield 31, 3, [1, 12, 338, 2]), (.iconst 0, 1, [0]), (.bipush 8, 2, [8]), (.invokestatic 68, 3, [1074]), (.aload_n 1, 1, []), (.getfield 34, 3, [1, 13, 340, 2]), (.iconst 0, 1, [0]), (.aload_n 0, 1, []), (.getfield 34, 3, [1, 13, 340, 2]), (.iconst 0, 1, [0]), (.bipush 10, 2, [10]), (.invokestatic 68, 3, [1074]), (.aload_n 1, 1, []), (.getfield 37, 3, [1, 14, 343, 2]), (.iconst 0, 1, [0]), (.aload_n 0, 1, []), (.getfield 37, 3, [1, 14, 343, 2]), (.iconst 0, 1, [0]), (.bipush 10, 2, [10]), (.invokestatic 68, 3, [1074]), (.aload_n 1, 1, []), (.getfield 40, 3, [1, 15, 346, 2]), (.iconst 0, 1, [0]), (.aload_n 0, 1, []), (.getfield 40, 3, [1, 15, 346, 2]), (.iconst 0, 1, [0]), (.bipush 10, 2, [10]), (.invokestatic 68, 3, [1074]), (.aload_n 1, 1, []), (.getfield 43, 3, [1, 16, 349, 2]), (.iconst 0, 1, [0]), (.aload_n 0, 1, []), (.getfield 43, 3, [1, 16, 349, 2]), (.iconst 0, 1, [0]), (.bipush 10, 2, [10]), (.invokestatic 68, 3, [1074]), (.return_, 1, [])]
def mX1_copy : qMI := (yX1_copy, cX1_copy, 2, none, 1, [1073, 258, 1071, 1072], 1, false, [(0, kX1_copy_0), (5, kX1_copy_5)])
def kX1_hasBoy_0 : List qIns := [(.iload_n 1, 1, []), (.ifCond .lt 24, 3, [25]), (.iload_n 1, 1, []), (.aload_n 0, 1, []), (.getfield 62, 3, [1, 4, 313, 0]), (.if_icmp .ge 16, 3, [25]), (.aload_n 0, 1, []), (.getfield 62, 3, [1, 4, 313, 0]), (.bipush 8, 2, [8]), (.if_icmp .gt 7, 3, [25]), (.iconst 1, 1, [1]), (.goto 4, 3, [26])]
def kX1_hasBoy_25 : List qIns := [(.iconst 0, 1, [0]), (.nop, 0, [26])]
def kX1_hasBoy_26 : List qIns := [(.ireturn, 1, [1])]
def mX1_hasBoy : qMI := (yX1_hasBoy, cX1_hasBoy, 2, (some .boolean), 1, [1052, 258, 1050, 1051], 1, false, [(0, kX1_hasBoy_0), (25, kX1_hasBoy_25), (26, kX1_hasBoy_26)])
def kX1_hasQuarrel_0 : List qIns := [(.iload_n 1, 1, []), (.ifCond .lt 24, 3, [25]), (.iload_n 1, 1, []), (.aload_n 0, 1, []), (.getfield 65, 3, [1, 5, 319, 0]), (.if_icmp .ge 16, 3, [25]), (.aload_n 0, 1, []), (.getfield 65, 3, [1, 5, 319, 0]), (.bipush 10, 2, [10]), (.if_icmp .gt 7, 3, [25]), (.iconst 1, 1, [1]), (.goto 4, 3, [26])]
def kX1_hasQuarrel_25 : List qIns := [(.iconst 0, 1, [0]), (.nop, 0, [26])]
def kX1_hasQuarrel_26 : List qIns := [(.ireturn, 1, [1])]
def mX1_hasQuarrel : qMI := (yX1_hasQuarrel, cX1_hasQuarrel, 2, (some .boolean), 1, [1201, 258, 1199, 1200], 1, false, [(0, kX1_hasQuarrel_0), (25, kX1_hasQuarrel_25), (26, kX1_hasQuarrel_26)])
def kX1_hasCell_0 : List qIns := [(.iload_n 1, 1, []), (.ifCond .lt 20, 3, [21]), (.iload_n 1, 1, []), (.aload_n 0, 1, []), (.getfield 49, 3, [1, 0, 295, 0]), (.aload_n 0, 1, []), (.getfield 53, 3, [1, 1, 300, 0]), (.imul, 1, []), (.if_icmp .ge 7, 3, [21]), (.iconst 1, 1, [1]), (.goto 4, 3, [22])]
def kX1_hasCell_21 : List qIns := [(.iconst 0, 1, [0]), (.nop, 0, [22])]
def kX1_hasCell_22 : List qIns := [(.ireturn, 1, [1])]
def mX1_hasCell : qMI := (yX1_hasCell, cX1_hasCell, 2, (some .boolean), 1, [1283, 258, 1281, 1282], 1, false, [(0, kX1_hasCell_0), (21, kX1_hasCell_21), (22, kX1_hasCell_22)])
def kX1_named_0 : List qIns := [(.iconst 0, 1, [0]), (.istore_n 3, 1, []), (.nop, 0, [2])]
def kX1_named_2 : List qIns := [(.iload_n 3, 1, []), (.aload_n 0, 1, []), (.getfield 62, 3, [1, 4, 313, 0]), (.if_icmp .ge 22, 3, [29]), (.aload_n 0, 1, []), (.getfield 9, 3, [1, 6, 325, 2]), (.iload_n 3, 1, []), (.laload, 1, []), (.lload_n 1, 1, []), (.lcmp, 1, []), (.ifCond .ne 5, 3, [23]), (.iload_n 3, 1, []), (.ireturn, 1, [0])]
def kX1_named_23 : List qIns := [(.iinc 3 1, 3, [1]), (.goto (-24), 3, [2])]
def kX1_named_29 : List qIns := [(.iconst (-1), 1, []), (.ireturn, 1, [0])]
def mX1_named : qMI := (yX1_named, cX1_named, 4, (some .int), 1, [1032, 258, 1030, 1031], 1, false, [(0, kX1_named_0), (2, kX1_named_2), (23, kX1_named_23), (29, kX1_named_29)])
def kX1_addBoy_0 : List qIns := [(.aload_n 0, 1, []), (.getfield 62, 3, [1, 4, 313, 0]), (.ifCond .lt 12, 3, [16]), (.aload_n 0, 1, []), (.getfield 62, 3, [1, 4, 313, 0]), (.bipush 8, 2, [8]), (.if_icmp .lt 5, 3, [18]), (.nop, 0, [16])]
def kX1_addBoy_16 : List qIns := [(.iconst (-1), 1, []), (.ireturn, 1, [0])]
def kX1_addBoy_18 : List qIns := [(.aload_n 0, 1, []), (.getfield 62, 3, [1, 4, 313, 0]), (.istore 7, 2, []), (.aload_n 0, 1, []), (.getfield 9, 3, [1, 6, 325, 2]), (.iload 7, 2, []), (.lload_n 1, 1, []), (.lastore, 1, []), (.aload_n 0, 1, []), (.getfield 15, 3, [1, 7, 326, 2]), (.iload 7, 2, []), (.iload_n 3, 1, []), (.iastore, 1, []), (.aload_n 0, 1, []), (.getfield 19, 3, [1, 8, 329, 2]), (.iload 7, 2, []), (.iload 4, 2, []), (.iastore, 1, []), (.aload_n 0, 1, []), (.getfield 22, 3, [1, 9, 332, 2]), (.iload 7, 2, []), (.iload 5, 2, []), (.iastore, 1, []), (.aload_n 0, 1, []), (.getfield 25, 3, [1, 10, 334, 2]), (.iload 7, 2, []), (.iload 6, 2, []), (.iastore, 1, []), (.aload_n 0, 1, []), (.getfield 28, 3, [1, 11, 336, 2]), (.iload 7, 2, []), (.iconst 0, 1, [0]), (.iastore, 1, []), (.aload_n 0, 1, []), (.dup, 1, []), (.getfield 62, 3, [1, 4, 313, 0]), (.iconst 1, 1, [1]), (.iadd, 1, []), (.putfield 62, 3, [1, 4, 313, 0]), (.aload_n 0, 1, []), (.invokevirtual 74, 3, [18, 1041, 1, 2, 2]), (.iload 7, 2, []), (.ireturn, 1, [0])]
def mX1_addBoy : qMI := (yX1_addBoy, cX1_addBoy, 8, (some .int), 1, [1040, 258, 1038, 1039], 5, false, [(0, kX1_addBoy_0), (16, kX1_addBoy_16), (18, kX1_addBoy_18)])
def kX1_addQuarrel_0 : List qIns := [(.aload_n 0, 1, []), (.getfield 65, 3, [1, 5, 319, 0]), (.ifCond .lt 12, 3, [16]), (.aload_n 0, 1, []), (.getfield 65, 3, [1, 5, 319, 0]), (.bipush 10, 2, [10]), (.if_icmp .lt 5, 3, [18]), (.nop, 0, [16])]
def kX1_addQuarrel_16 : List qIns := [(.iconst (-1), 1, []), (.ireturn, 1, [0])]
def kX1_addQuarrel_18 : List qIns := [(.aload_n 0, 1, []), (.getfield 65, 3, [1, 5, 319, 0]), (.istore 4, 2, []), (.aload_n 0, 1, []), (.getfield 34, 3, [1, 13, 340, 2]), (.iload 4, 2, []), (.iload_n 1, 1, []), (.iastore, 1, []), (.aload_n 0, 1, []), (.getfield 37, 3, [1, 14, 343, 2]), (.iload 4, 2, []), (.iload_n 2, 1, []), (.iastore, 1, []), (.aload_n 0, 1, []), (.getfield 40, 3, [1, 15, 346, 2]), (.iload 4, 2, []), (.iload_n 3, 1, []), (.iastore, 1, []), (.aload_n 0, 1, []), (.getfield 43, 3, [1, 16, 349, 2]), (.iload 4, 2, []), (.iconst 0, 1, [0]), (.iastore, 1, []), (.aload_n 0, 1, []), (.dup, 1, []), (.getfield 65, 3, [1, 5, 319, 0]), (.iconst 1, 1, [1]), (.iadd, 1, []), (.putfield 65, 3, [1, 5, 319, 0]), (.iload 4, 2, []), (.ireturn, 1, [0])]
def mX1_addQuarrel : qMI := (yX1_addQuarrel, cX1_addQuarrel, 5, (some .int), 1, [1069, 258, 1067, 1068], 3, false, [(0, kX1_addQuarrel_0), (16, kX1_addQuarrel_16), (18, kX1_addQuarrel_18)])
def kX1_place_0 : List qIns := [(.aload_n 0, 1, []), (.iload_n 1, 1, []), (.invokevirtual 77, 3, [10, 1049, 2, 0, 2]), (.ifCond .eq 14, 3, [19]), (.aload_n 0, 1, []), (.getfield 15, 3, [1, 7, 326, 2]), (.iload_n 1, 1, []), (.iload_n 2, 1, []), (.iastore, 1, []), (.aload_n 0, 1, []), (.invokevirtual 74, 3, [18, 1041, 1, 2, 2]), (.nop, 0, [19])]
def kX1_place_19 : List qIns := [(.return_, 1, [])]
def mX1_place : qMI := (yX1_place, cX1_place, 3, none, 1, [1287, 258, 1285, 1286], 2, false, [(0, kX1_place_0), (19, kX1_place_19)])
def kX1_tune_0 : List qIns := [(.aload_n 0, 1, []), (.iload_n 1, 1, []), (.invokevirtual 77, 3, [10, 1049, 2, 0, 2]), (.ifCond .eq 14, 3, [19]), (.aload_n 0, 1, []), (.getfield 25, 3, [1, 10, 334, 2]), (.iload_n 1, 1, []), (.iload_n 2, 1, []), (.iastore, 1, []), (.aload_n 0, 1, []), (.invokevirtual 74, 3, [18, 1041, 1, 2, 2]), (.nop, 0, [19])]
def kX1_tune_19 : List qIns := [(.return_, 1, [])]
def mX1_tune : qMI := (yX1_tune, cX1_tune, 3, none, 1, [1297, 258, 1295, 1296], 2, false, [(0, kX1_tune_0), (19, kX1_tune_19)])
def kX1_listen_0 : List qIns := [(.iconst 0, 1, [0]), (.istore_n 1, 1, []), (.nop, 0, [2])]
def kX1_listen_2 : List qIns := [(.iload_n 1, 1, []), (.aload_n 0, 1, []), (.getfield 62, 3, [1, 4, 313, 0]), (.if_icmp .ge 60, 3, [67]), (.iconst 0, 1, [0]), (.istore_n 2, 1, []), (.iconst 0, 1, [0]), (.istore_n 3, 1, []), (.nop, 0, [14])]
def kX1_listen_14 : List qIns := [(.iload_n 3, 1, []), (.aload_n 0, 1, []), (.getfield 62, 3, [1, 4, 313, 0]), (.if_icmp .ge 35, 3, [54]), (.iload_n 3, 1, []), (.iload_n 1, 1, []), (.if_icmp .eq 24, 3, [48]), (.aload_n 0, 1, []), (.iload_n 1, 1, []), (.iload_n 3, 1, []), (.invokevirtual 81, 3, [19, 1045, 3, 0, 2]), (.aload_n 0, 1, []), (.getfield 25, 3, [1, 10, 334, 2]), (.iload_n 1, 1, []), (.iaload, 1, []), (.if_icmp .gt 9, 3, [48]), (.iload_n 2, 1, []), (.iconst 1, 1, [1]), (.iload_n 3, 1, []), (.ishl, 1, []), (.ior, 1, []), (.istore_n 2, 1, []), (.nop, 0, [48])]
def kX1_listen_48 : List qIns := [(.iinc 3 1, 3, [1]), (.goto (-37), 3, [14])]
def kX1_listen_54 : List qIns := [(.aload_n 0, 1, []), (.getfield 31, 3, [1, 12, 338, 2]), (.iload_n 1, 1, []), (.iload_n 2, 1, []), (.iastore, 1, []), (.iinc 1 1, 3, [1]), (.goto (-62), 3, [2])]
def kX1_listen_67 : List qIns := [(.return_, 1, [])]
def mX1_listen : qMI := (yX1_listen, cX1_listen, 4, none, 1, [1044, 258, 1042, 1043], 0, false, [(0, kX1_listen_0), (2, kX1_listen_2), (14, kX1_listen_14), (48, kX1_listen_48), (54, kX1_listen_54), (67, kX1_listen_67)])
def kX1_stepsBetween_0 : List qIns := [(.aload_n 0, 1, []), (.iload_n 1, 1, []), (.invokevirtual 77, 3, [10, 1049, 2, 0, 2]), (.ifCond .eq 19, 3, [24]), (.aload_n 0, 1, []), (.iload_n 2, 1, []), (.invokevirtual 77, 3, [10, 1049, 2, 0, 2]), (.ifCond .eq 11, 3, [24]), (.aload_n 0, 1, []), (.getfield 49, 3, [1, 0, 295, 0]), (.iconst 1, 1, [1]), (.if_icmp .ge 5, 3, [26]), (.nop, 0, [24])]
def kX1_stepsBetween_24 : List qIns := [(.iconst 0, 1, [0]), (.ireturn, 1, [0])]
def kX1_stepsBetween_26 : List qIns := [(.aload_n 0, 1, []), (.getfield 15, 3, [1, 7, 326, 2]), (.iload_n 1, 1, []), (.iaload, 1, []), (.aload_n 0, 1, []), (.getfield 49, 3, [1, 0, 295, 0]), (.irem, 1, []), (.aload_n 0, 1, []), (.getfield 15, 3, [1, 7, 326, 2]), (.iload_n 2, 1, []), (.iaload, 1, []), (.aload_n 0, 1, []), (.getfield 49, 3, [1, 0, 295, 0]), (.irem, 1, []), (.isub, 1, []), (.invokestatic 85, 3, [1053, 2]), (.istore_n 3, 1, []), (.aload_n 0, 1, []), (.getfield 15, 3, [1, 7, 326, 2]), (.iload_n 1, 1, []), (.iaload, 1, []), (.aload_n 0, 1, []), (.getfield 49, 3, [1, 0, 295, 0]), (.idiv, 1, []), (.aload_n 0, 1, []), (.getfield 15, 3, [1, 7, 326, 2]), (.iload_n 2, 1, []), (.iaload, 1, []), (.aload_n 0, 1, []), (.getfield 49, 3, [1, 0, 295, 0]), (.idiv, 1, []), (.isub, 1, []), (.invokestatic 85, 3, [1053, 2]), (.istore 4, 2, []), (.iload_n 3, 1, []), (.iload 4, 2, []), (.iadd, 1, []), (.ireturn, 1, [0])]
def mX1_stepsBetween : qMI := (yX1_stepsBetween, cX1_stepsBetween, 5, (some .int), 1, [1048, 258, 1046, 1047], 2, false, [(0, kX1_stepsBetween_0), (24, kX1_stepsBetween_24), (26, kX1_stepsBetween_26)])
def kX1_isOpen_0 : List qIns := [(.aload_n 0, 1, []), (.iload_n 1, 1, []), (.invokevirtual 91, 3, [11, 1227, 2, 0, 2]), (.ifCond .eq 16, 3, [21]), (.aload_n 0, 1, []), (.getfield 43, 3, [1, 16, 349, 2]), (.iload_n 1, 1, []), (.iaload, 1, []), (.ifCond .ne 7, 3, [21]), (.iconst 1, 1, [1]), (.goto 4, 3, [22])]
def kX1_isOpen_21 : List qIns := [(.iconst 0, 1, [0]), (.nop, 0, [22])]
def kX1_isOpen_22 : List qIns := [(.ireturn, 1, [1])]
def mX1_isOpen : qMI := (yX1_isOpen, cX1_isOpen, 2, (some .boolean), 1, [1305, 258, 1303, 1304], 1, false, [(0, kX1_isOpen_0), (21, kX1_isOpen_21), (22, kX1_isOpen_22)])
def kX1_isUp_0 : List qIns := [(.aload_n 0, 1, []), (.invokevirtual 94, 3, [22, 1189, 1, 0, 2]), (.iconst 1, 1, [1]), (.iload_n 1, 1, []), (.ishl, 1, []), (.iand, 1, []), (.ifCond .eq 7, 3, [15]), (.iconst 1, 1, [1]), (.goto 4, 3, [16])]
def kX1_isUp_15 : List qIns := [(.iconst 0, 1, [0]), (.nop, 0, [16])]
def kX1_isUp_16 : List qIns := [(.ireturn, 1, [1])]
def mX1_isUp : qMI := (yX1_isUp, cX1_isUp, 2, (some .boolean), 1, [1188, 258, 1186, 1187], 1, false, [(0, kX1_isUp_0), (15, kX1_isUp_15), (16, kX1_isUp_16)])
def kX1_upSet_0 : List qIns := [(.iconst 1, 1, [1]), (.aload_n 0, 1, []), (.getfield 62, 3, [1, 4, 313, 0]), (.ishl, 1, []), (.iconst 1, 1, [1]), (.isub, 1, []), (.istore_n 1, 1, []), (.iconst 0, 1, [0]), (.istore_n 2, 1, []), (.nop, 0, [11])]
def kX1_upSet_11 : List qIns := [(.iload_n 2, 1, []), (.aload_n 0, 1, []), (.getfield 65, 3, [1, 5, 319, 0]), (.if_icmp .ge 40, 3, [56]), (.aload_n 0, 1, []), (.getfield 43, 3, [1, 16, 349, 2]), (.iload_n 2, 1, []), (.iaload, 1, []), (.ifCond .ne 25, 3, [50]), (.iload_n 1, 1, []), (.iconst 1, 1, [1]), (.aload_n 0, 1, []), (.getfield 34, 3, [1, 13, 340, 2]), (.iload_n 2, 1, []), (.iaload, 1, []), (.ishl, 1, []), (.iconst 1, 1, [1]), (.aload_n 0, 1, []), (.getfield 37, 3, [1, 14, 343, 2]), (.iload_n 2, 1, []), (.iaload, 1, []), (.ishl, 1, []), (.ior, 1, []), (.iconst (-1), 1, []), (.ixor, 1, []), (.iand, 1, []), (.istore_n 1, 1, []), (.nop, 0, [50])]
def kX1_upSet_50 : List qIns := [(.iinc 2 1, 3, [1]), (.goto (-42), 3, [11])]
def kX1_upSet_56 : List qIns := [(.iload_n 1, 1, []), (.ireturn, 1, [0])]
def mX1_upSet : qMI := (yX1_upSet, cX1_upSet, 3, (some .int), 1, [1171, 258, 1169, 1170], 0, false, [(0, kX1_upSet_0), (11, kX1_upSet_11), (50, kX1_upSet_50), (56, kX1_upSet_56)])
def kX1_openSet_0 : List qIns := [(.iconst 0, 1, [0]), (.istore_n 1, 1, []), (.iconst 0, 1, [0]), (.istore_n 2, 1, []), (.nop, 0, [4])]
def kX1_openSet_4 : List qIns := [(.iload_n 2, 1, []), (.aload_n 0, 1, []), (.getfield 65, 3, [1, 5, 319, 0]), (.if_icmp .ge 24, 3, [33]), (.aload_n 0, 1, []), (.getfield 43, 3, [1, 16, 349, 2]), (.iload_n 2, 1, []), (.iaload, 1, []), (.ifCond .ne 9, 3, [27]), (.iload_n 1, 1, []), (.iconst 1, 1, [1]), (.iload_n 2, 1, []), (.ishl, 1, []), (.ior, 1, []), (.istore_n 1, 1, []), (.nop, 0, [27])]
def kX1_openSet_27 : List qIns := [(.iinc 2 1, 3, [1]), (.goto (-26), 3, [4])]
def kX1_openSet_33 : List qIns := [(.iload_n 1, 1, []), (.ireturn, 1, [0])]
def mX1_openSet : qMI := (yX1_openSet, cX1_openSet, 3, (some .int), 1, [1175, 258, 1173, 1174], 0, false, [(0, kX1_openSet_0), (4, kX1_openSet_4), (27, kX1_openSet_27), (33, kX1_openSet_33)])
def kX1_openGrudges_0 : List qIns := [(.iconst 0, 1, [0]), (.istore_n 1, 1, []), (.iconst 0, 1, [0]), (.istore_n 2, 1, []), (.nop, 0, [4])]
def kX1_openGrudges_4 : List qIns := [(.iload_n 2, 1, []), (.aload_n 0, 1, []), (.getfield 65, 3, [1, 5, 319, 0]), (.if_icmp .ge 31, 3, [40]), (.iload_n 1, 1, []), (.aload_n 0, 1, []), (.getfield 43, 3, [1, 16, 349, 2]), (.iload_n 2, 1, []), (.iaload, 1, []), (.ifCond .ne 12, 3, [31]), (.aload_n 0, 1, []), (.getfield 40, 3, [1, 15, 346, 2]), (.iload_n 2, 1, []), (.iaload, 1, []), (.goto 4, 3, [32])]
def kX1_openGrudges_31 : List qIns := [(.iconst 0, 1, [0]), (.nop, 0, [32])]
def kX1_openGrudges_32 : List qIns := [(.iadd, 1, []), (.istore_n 1, 1, []), (.iinc 2 1, 3, [1]), (.goto (-33), 3, [4])]
def kX1_openGrudges_40 : List qIns := [(.iload_n 1, 1, []), (.ireturn, 1, [0])]
def mX1_openGrudges : qMI := (yX1_openGrudges, cX1_openGrudges, 3, (some .int), 1, [1179, 258, 1177, 1178], 0, false, [(0, kX1_openGrudges_0), (4, kX1_openGrudges_4), (31, kX1_openGrudges_31), (32, kX1_openGrudges_32), (40, kX1_openGrudges_40)])
def kX1_openOf_0 : List qIns := [(.iconst 0, 1, [0]), (.istore_n 2, 1, []), (.iconst 0, 1, [0]), (.istore_n 3, 1, []), (.nop, 0, [4])]
def kX1_openOf_4 : List qIns := [(.iload_n 3, 1, []), (.aload_n 0, 1, []), (.getfield 65, 3, [1, 5, 319, 0]), (.if_icmp .ge 41, 3, [50]), (.aload_n 0, 1, []), (.getfield 43, 3, [1, 16, 349, 2]), (.iload_n 3, 1, []), (.iaload, 1, []), (.ifCond .ne 26, 3, [44]), (.aload_n 0, 1, []), (.getfield 34, 3, [1, 13, 340, 2]), (.iload_n 3, 1, []), (.iaload, 1, []), (.iload_n 1, 1, []), (.if_icmp .eq 13, 3, [41]), (.aload_n 0, 1, []), (.getfield 37, 3, [1, 14, 343, 2]), (.iload_n 3, 1, []), (.iaload, 1, []), (.iload_n 1, 1, []), (.if_icmp .ne 6, 3, [44]), (.nop, 0, [41])]
def kX1_openOf_41 : List qIns := [(.iinc 2 1, 3, [1]), (.nop, 0, [44])]
def kX1_openOf_44 : List qIns := [(.iinc 3 1, 3, [1]), (.goto (-43), 3, [4])]
def kX1_openOf_50 : List qIns := [(.iload_n 2, 1, []), (.ireturn, 1, [0])]
def mX1_openOf : qMI := (yX1_openOf, cX1_openOf, 4, (some .int), 1, [1193, 258, 1191, 1192], 1, false, [(0, kX1_openOf_0), (4, kX1_openOf_4), (41, kX1_openOf_41), (44, kX1_openOf_44), (50, kX1_openOf_50)])
def kX1_dueMinute_0 : List qIns := [(.aload_n 0, 1, []), (.iload_n 1, 1, []), (.invokevirtual 77, 3, [10, 1049, 2, 0, 2]), (.ifCond .eq 11, 3, [16]), (.aload_n 0, 1, []), (.iload_n 2, 1, []), (.invokevirtual 91, 3, [11, 1227, 2, 0, 2]), (.ifCond .ne 6, 3, [19]), (.nop, 0, [16])]
def kX1_dueMinute_16 : List qIns := [(.ldc 98, 2, [1222, 1000000]), (.ireturn, 1, [0])]
def kX1_dueMinute_19 : List qIns := [(.aload_n 0, 1, []), (.getfield 40, 3, [1, 15, 346, 2]), (.iload_n 2, 1, []), (.iaload, 1, []), (.aload_n 0, 1, []), (.getfield 19, 3, [1, 8, 329, 2]), (.iload_n 1, 1, []), (.iaload, 1, []), (.iadd, 1, []), (.aload_n 0, 1, []), (.getfield 22, 3, [1, 9, 332, 2]), (.iload_n 1, 1, []), (.iaload, 1, []), (.aload_n 0, 1, []), (.getfield 31, 3, [1, 12, 338, 2]), (.iload_n 1, 1, []), (.iaload, 1, []), (.iload_n 3, 1, []), (.iand, 1, []), (.invokestatic 99, 3, [368, 1212, 1, 0, 0]), (.imul, 1, []), (.isub, 1, []), (.ireturn, 1, [0])]
def mX1_dueMinute : qMI := (yX1_dueMinute, cX1_dueMinute, 4, (some .int), 1, [1226, 258, 1224, 1225], 3, false, [(0, kX1_dueMinute_0), (16, kX1_dueMinute_16), (19, kX1_dueMinute_19)])
def kX1_earliestDue_0 : List qIns := [(.aload_n 0, 1, []), (.invokevirtual 94, 3, [22, 1189, 1, 0, 2]), (.istore_n 1, 1, []), (.ldc 98, 2, [1222, 1000000]), (.istore_n 2, 1, []), (.iconst 0, 1, [0]), (.istore_n 3, 1, []), (.nop, 0, [10])]
def kX1_earliestDue_10 : List qIns := [(.iload_n 3, 1, []), (.aload_n 0, 1, []), (.getfield 65, 3, [1, 5, 319, 0]), (.if_icmp .ge 54, 3, [69]), (.aload_n 0, 1, []), (.getfield 43, 3, [1, 16, 349, 2]), (.iload_n 3, 1, []), (.iaload, 1, []), (.ifCond .ne 39, 3, [63]), (.aload_n 0, 1, []), (.aload_n 0, 1, []), (.getfield 34, 3, [1, 13, 340, 2]), (.iload_n 3, 1, []), (.iaload, 1, []), (.iload_n 3, 1, []), (.iload_n 1, 1, []), (.invokevirtual 104, 3, [26, 1223, 4, 0, 2]), (.aload_n 0, 1, []), (.aload_n 0, 1, []), (.getfield 37, 3, [1, 14, 343, 2]), (.iload_n 3, 1, []), (.iaload, 1, []), (.iload_n 3, 1, []), (.iload_n 1, 1, []), (.invokevirtual 104, 3, [26, 1223, 4, 0, 2]), (.invokestatic 108, 3, [1228, 1]), (.istore 4, 2, []), (.iload_n 2, 1, []), (.iload 4, 2, []), (.invokestatic 108, 3, [1228, 1]), (.istore_n 2, 1, []), (.nop, 0, [63])]
def kX1_earliestDue_63 : List qIns := [(.iinc 3 1, 3, [1]), (.goto (-56), 3, [10])]
def kX1_earliestDue_69 : List qIns := [(.iload_n 2, 1, []), (.ireturn, 1, [0])]
def mX1_earliestDue : qMI := (yX1_earliestDue, cX1_earliestDue, 5, (some .int), 1, [1221, 258, 1219, 1220], 0, false, [(0, kX1_earliestDue_0), (10, kX1_earliestDue_10), (63, kX1_earliestDue_63), (69, kX1_earliestDue_69)])
def kX1_minuteOfYielding_0 : List qIns := [(.aload_n 0, 1, []), (.invokevirtual 94, 3, [22, 1189, 1, 0, 2]), (.istore_n 1, 1, []), (.iconst 0, 1, [0]), (.istore_n 2, 1, []), (.iconst 0, 1, [0]), (.istore_n 3, 1, []), (.nop, 0, [9])]
def kX1_minuteOfYielding_9 : List qIns := [(.iload_n 3, 1, []), (.aload_n 0, 1, []), (.getfield 65, 3, [1, 5, 319, 0]), (.if_icmp .ge 82, 3, [96]), (.aload_n 0, 1, []), (.getfield 43, 3, [1, 16, 349, 2]), (.iload_n 3, 1, []), (.iaload, 1, []), (.ifCond .ne 67, 3, [90]), (.aload_n 0, 1, []), (.aload_n 0, 1, []), (.getfield 34, 3, [1, 13, 340, 2]), (.iload_n 3, 1, []), (.iaload, 1, []), (.iload_n 3, 1, []), (.iload_n 1, 1, []), (.invokevirtual 104, 3, [26, 1223, 4, 0, 2]), (.aload_n 0, 1, []), (.getfield 59, 3, [1, 3, 308, 0]), (.if_icmp .gt 7, 3, [49]), (.iconst 1, 1, [1]), (.goto 4, 3, [50])]
def kX1_minuteOfYielding_49 : List qIns := [(.iconst 0, 1, [0]), (.nop, 0, [50])]
def kX1_minuteOfYielding_50 : List qIns := [(.istore 4, 2, []), (.aload_n 0, 1, []), (.aload_n 0, 1, []), (.getfield 37, 3, [1, 14, 343, 2]), (.iload_n 3, 1, []), (.iaload, 1, []), (.iload_n 3, 1, []), (.iload_n 1, 1, []), (.invokevirtual 104, 3, [26, 1223, 4, 0, 2]), (.aload_n 0, 1, []), (.getfield 59, 3, [1, 3, 308, 0]), (.if_icmp .gt 7, 3, [75]), (.iconst 1, 1, [1]), (.goto 4, 3, [76])]
def kX1_minuteOfYielding_75 : List qIns := [(.iconst 0, 1, [0]), (.nop, 0, [76])]
def kX1_minuteOfYielding_76 : List qIns := [(.istore 5, 2, []), (.iload_n 2, 1, []), (.aload_n 0, 1, []), (.iload_n 3, 1, []), (.iload 4, 2, []), (.iload 5, 2, []), (.invokevirtual 111, 3, [29, 1234, 4, 0, 2]), (.ior, 1, []), (.istore_n 2, 1, []), (.nop, 0, [90])]
def kX1_minuteOfYielding_90 : List qIns := [(.iinc 3 1, 3, [1]), (.goto (-84), 3, [9])]
def kX1_minuteOfYielding_96 : List qIns := [(.aload_n 0, 1, []), (.dup, 1, []), (.getfield 59, 3, [1, 3, 308, 0]), (.iconst 1, 1, [1]), (.iadd, 1, []), (.putfield 59, 3, [1, 3, 308, 0]), (.iload_n 2, 1, []), (.ireturn, 1, [0])]
def mX1_minuteOfYielding : qMI := (yX1_minuteOfYielding, cX1_minuteOfYielding, 6, (some .int), 1, [1233, 258, 1231, 1232], 0, false, [(0, kX1_minuteOfYielding_0), (9, kX1_minuteOfYielding_9), (49, kX1_minuteOfYielding_49), (50, kX1_minuteOfYielding_50), (75, kX1_minuteOfYielding_75), (76, kX1_minuteOfYielding_76), (90, kX1_minuteOfYielding_90), (96, kX1_minuteOfYielding_96)])
def kX1_endBy_0 : List qIns := [(.iconst 0, 1, [0]), (.istore 4, 2, []), (.iload_n 2, 1, []), (.ifCond .eq 54, 3, [58]), (.aload_n 0, 1, []), (.aload_n 0, 1, []), (.getfield 34, 3, [1, 13, 340, 2]), (.iload_n 1, 1, []), (.iaload, 1, []), (.invokevirtual 77, 3, [10, 1049, 2, 0, 2]), (.ifCond .eq 41, 3, [58]), (.aload_n 0, 1, []), (.getfield 43, 3, [1, 16, 349, 2]), (.iload_n 1, 1, []), (.dup2, 1, []), (.iaload, 1, []), (.iconst 1, 1, [1]), (.ior, 1, []), (.iastore, 1, []), (.aload_n 0, 1, []), (.getfield 28, 3, [1, 11, 336, 2]), (.aload_n 0, 1, []), (.getfield 34, 3, [1, 13, 340, 2]), (.iload_n 1, 1, []), (.iaload, 1, []), (.dup2, 1, []), (.iaload, 1, []), (.iconst 1, 1, [1]), (.iadd, 1, []), (.iastore, 1, []), (.iload 4, 2, []), (.iconst 1, 1, [1]), (.aload_n 0, 1, []), (.getfield 34, 3, [1, 13, 340, 2]), (.iload_n 1, 1, []), (.iaload, 1, []), (.ishl, 1, []), (.ior, 1, []), (.istore 4, 2, []), (.nop, 0, [58])]
def kX1_endBy_58 : List qIns := [(.iload_n 3, 1, []), (.ifCond .eq 54, 3, [113]), (.aload_n 0, 1, []), (.aload_n 0, 1, []), (.getfield 37, 3, [1, 14, 343, 2]), (.iload_n 1, 1, []), (.iaload, 1, []), (.invokevirtual 77, 3, [10, 1049, 2, 0, 2]), (.ifCond .eq 41, 3, [113]), (.aload_n 0, 1, []), (.getfield 43, 3, [1, 16, 349, 2]), (.iload_n 1, 1, []), (.dup2, 1, []), (.iaload, 1, []), (.iconst 2, 1, [2]), (.ior, 1, []), (.iastore, 1, []), (.aload_n 0, 1, []), (.getfield 28, 3, [1, 11, 336, 2]), (.aload_n 0, 1, []), (.getfield 37, 3, [1, 14, 343, 2]), (.iload_n 1, 1, []), (.iaload, 1, []), (.dup2, 1, []), (.iaload, 1, []), (.iconst 1, 1, [1]), (.iadd, 1, []), (.iastore, 1, []), (.iload 4, 2, []), (.iconst 1, 1, [1]), (.aload_n 0, 1, []), (.getfield 37, 3, [1, 14, 343, 2]), (.iload_n 1, 1, []), (.iaload, 1, []), (.ishl, 1, []), (.ior, 1, []), (.istore 4, 2, []), (.nop, 0, [113])]
def kX1_endBy_113 : List qIns := [(.iload 4, 2, []), (.ireturn, 1, [0])]
def mX1_endBy : qMI := (yX1_endBy, cX1_endBy, 5, (some .int), 1, [1237, 258, 1236, 22], 3, false, [(0, kX1_endBy_0), (58, kX1_endBy_58), (113, kX1_endBy_113)])
def kX1_pass_0 : List qIns := [(.aload_n 0, 1, []), (.getfield 59, 3, [1, 3, 308, 0]), (.iload_n 1, 1, []), (.iadd, 1, []), (.istore_n 2, 1, []), (.aload_n 0, 1, []), (.invokevirtual 115, 3, [23, 1211, 1, 0, 2]), (.invokestatic 99, 3, [368, 1212, 1, 0, 0]), (.istore_n 3, 1, []), (.iconst 0, 1, [0]), (.istore 4, 2, []), (.nop, 0, [18])]
def kX1_pass_18 : List qIns := [(.iload 4, 2, []), (.bipush 10, 2, [10]), (.if_icmp .ge 42, 3, [64]), (.aload_n 0, 1, []), (.getfield 59, 3, [1, 3, 308, 0]), (.aload_n 0, 1, []), (.invokevirtual 118, 3, [27, 1218, 1, 0, 2]), (.invokestatic 121, 3, [1229, 0]), (.istore 5, 2, []), (.iload 5, 2, []), (.iload_n 2, 1, []), (.if_icmp .lt 6, 3, [47]), (.goto 20, 3, [64])]
def kX1_pass_47 : List qIns := [(.aload_n 0, 1, []), (.iload 5, 2, []), (.putfield 59, 3, [1, 3, 308, 0]), (.aload_n 0, 1, []), (.invokevirtual 124, 3, [28, 1230, 1, 0, 2]), (.pop, 1, []), (.iinc 4 1, 3, [1]), (.goto (-43), 3, [18])]
def kX1_pass_64 : List qIns := [(.aload_n 0, 1, []), (.iload_n 2, 1, []), (.putfield 59, 3, [1, 3, 308, 0]), (.iload_n 3, 1, []), (.aload_n 0, 1, []), (.invokevirtual 115, 3, [23, 1211, 1, 0, 2]), (.invokestatic 99, 3, [368, 1212, 1, 0, 0]), (.isub, 1, []), (.ireturn, 1, [0])]
def mX1_pass : qMI := (yX1_pass, cX1_pass, 6, (some .int), 1, [1210, 258, 1208, 1209], 1, false, [(0, kX1_pass_0), (18, kX1_pass_18), (47, kX1_pass_47), (64, kX1_pass_64)])
def kX1_giveIn_0 : List qIns := [(.iconst 0, 1, [0]), (.istore_n 2, 1, []), (.iconst 0, 1, [0]), (.istore_n 3, 1, []), (.nop, 0, [4])]
def kX1_giveIn_4 : List qIns := [(.iload_n 3, 1, []), (.aload_n 0, 1, []), (.getfield 65, 3, [1, 5, 319, 0]), (.if_icmp .ge 77, 3, [86]), (.aload_n 0, 1, []), (.getfield 43, 3, [1, 16, 349, 2]), (.iload_n 3, 1, []), (.iaload, 1, []), (.ifCond .ne 62, 3, [80]), (.aload_n 0, 1, []), (.getfield 34, 3, [1, 13, 340, 2]), (.iload_n 3, 1, []), (.iaload, 1, []), (.iload_n 1, 1, []), (.if_icmp .eq 13, 3, [41]), (.aload_n 0, 1, []), (.getfield 37, 3, [1, 14, 343, 2]), (.iload_n 3, 1, []), (.iaload, 1, []), (.iload_n 1, 1, []), (.if_icmp .ne 42, 3, [80]), (.nop, 0, [41])]
def kX1_giveIn_41 : List qIns := [(.aload_n 0, 1, []), (.iload_n 3, 1, []), (.aload_n 0, 1, []), (.getfield 34, 3, [1, 13, 340, 2]), (.iload_n 3, 1, []), (.iaload, 1, []), (.iload_n 1, 1, []), (.if_icmp .ne 7, 3, [57]), (.iconst 1, 1, [1]), (.goto 4, 3, [58])]
def kX1_giveIn_57 : List qIns := [(.iconst 0, 1, [0]), (.nop, 0, [58])]
def kX1_giveIn_58 : List qIns := [(.aload_n 0, 1, []), (.getfield 37, 3, [1, 14, 343, 2]), (.iload_n 3, 1, []), (.iaload, 1, []), (.iload_n 1, 1, []), (.if_icmp .ne 7, 3, [72]), (.iconst 1, 1, [1]), (.goto 4, 3, [73])]
def kX1_giveIn_72 : List qIns := [(.iconst 0, 1, [0]), (.nop, 0, [73])]
def kX1_giveIn_73 : List qIns := [(.invokevirtual 111, 3, [29, 1234, 4, 0, 2]), (.pop, 1, []), (.iinc 2 1, 3, [1]), (.nop, 0, [80])]
def kX1_giveIn_80 : List qIns := [(.iinc 3 1, 3, [1]), (.goto (-79), 3, [4])]
def kX1_giveIn_86 : List qIns := [(.iload_n 2, 1, []), (.ireturn, 1, [0])]
def mX1_giveIn : qMI := (yX1_giveIn, cX1_giveIn, 4, (some .int), 1, [1259, 258, 1257, 1258], 1, false, [(0, kX1_giveIn_0), (4, kX1_giveIn_4), (41, kX1_giveIn_41), (57, kX1_giveIn_57), (58, kX1_giveIn_58), (72, kX1_giveIn_72), (73, kX1_giveIn_73), (80, kX1_giveIn_80), (86, kX1_giveIn_86)])
def kX1_strike_0 : List qIns := [(.iconst 0, 1, [0]), (.istore_n 1, 1, []), (.aload_n 0, 1, []), (.getfield 65, 3, [1, 5, 319, 0]), (.istore_n 2, 1, []), (.iconst 0, 1, [0]), (.istore_n 3, 1, []), (.nop, 0, [9])]
def kX1_strike_9 : List qIns := [(.iload_n 3, 1, []), (.iload_n 2, 1, []), (.if_icmp .ge 64, 3, [75]), (.aload_n 0, 1, []), (.getfield 43, 3, [1, 16, 349, 2]), (.iload_n 3, 1, []), (.iaload, 1, []), (.ifCond .ne 49, 3, [69]), (.aload_n 0, 1, []), (.getfield 34, 3, [1, 13, 340, 2]), (.iload_n 1, 1, []), (.aload_n 0, 1, []), (.getfield 34, 3, [1, 13, 340, 2]), (.iload_n 3, 1, []), (.iaload, 1, []), (.iastore, 1, []), (.aload_n 0, 1, []), (.getfield 37, 3, [1, 14, 343, 2]), (.iload_n 1, 1, []), (.aload_n 0, 1, []), (.getfield 37, 3, [1, 14, 343, 2]), (.iload_n 3, 1, []), (.iaload, 1, []), (.iastore, 1, []), (.aload_n 0, 1, []), (.getfield 40, 3, [1, 15, 346, 2]), (.iload_n 1, 1, []), (.aload_n 0, 1, []), (.getfield 40, 3, [1, 15, 346, 2]), (.iload_n 3, 1, []), (.iaload, 1, []), (.iastore, 1, []), (.aload_n 0, 1, []), (.getfield 43, 3, [1, 16, 349, 2]), (.iload_n 1, 1, []), (.iconst 0, 1, [0]), (.iastore, 1, []), (.iinc 1 1, 3, [1]), (.nop, 0, [69])]
def kX1_strike_69 : List qIns := [(.iinc 3 1, 3, [1]), (.goto (-63), 3, [9])]
def kX1_strike_75 : List qIns := [(.aload_n 0, 1, []), (.iload_n 1, 1, []), (.putfield 65, 3, [1, 5, 319, 0]), (.aload_n 0, 1, []), (.iconst 0, 1, [0]), (.putfield 59, 3, [1, 3, 308, 0]), (.iload_n 2, 1, []), (.iload_n 1, 1, []), (.isub, 1, []), (.ireturn, 1, [0])]
def mX1_strike : qMI := (yX1_strike, cX1_strike, 4, (some .int), 1, [1245, 258, 1243, 1244], 0, false, [(0, kX1_strike_0), (9, kX1_strike_9), (69, kX1_strike_69), (75, kX1_strike_75)])
def kX2_init_0 : List qIns := [(.aload_n 0, 1, []), (.nop, 0, [1])]
def kX2_init_1 : List qIns := [(.invokespecial 3, 3, [999, 620, 1, 2]), (.nop, 0, [4])]
def kX2_init_4 : List qIns := [(.aload_n 0, 1, []), (.nop, 0, [5])]
def kX2_init_5 : List qIns := [(.new 9, 3, []), (.nop, 0, [8])]
def kX2_init_8 : List qIns := [(.dup, 1, []), (.nop, 0, [9])]
def kX2_init_9 : List qIns := [(.invokespecial 11, 3, [7, 622, 1, 2]), (.nop, 0, [12])]
def kX2_init_12 : List qIns := [(.putfield 12, 3, [2, 1, 624, 2]), (.nop, 0, [15])]
def kX2_init_15 : List qIns := [(.aload_n 0, 1, []), (.iconst 0, 1, [0]), (.putfield 18, 3, [2, 2, 626, 3]), (.aload_n 0, 1, []), (.iconst 0, 1, [0]), (.putfield 22, 3, [2, 3, 627, 3]), (.aload_n 0, 1, []), (.aload_n 1, 1, []), (.nop, 0, [27])]
def kX2_init_27 : List qIns := [(.putfield 25, 3, [2, 0, 623, 2]), (.nop, 0, [30])]
def kX2_init_30 : List qIns := [(.return_, 1, [])]
def mX2_init : qMI := (yX2_init, cX2_init, 2, none, 2, [619, 269, 618, 0], 1, false, [(0, kX2_init_0), (1, kX2_init_1), (4, kX2_init_4), (5, kX2_init_5), (8, kX2_init_8), (9, kX2_init_9), (12, kX2_init_12), (15, kX2_init_15), (27, kX2_init_27), (30, kX2_init_30)])
def kX2_takeIn_0 : List qIns := [(.aload_n 0, 1, []), (.getfield 12, 3, [2, 1, 624, 2]), (.invokevirtual 29, 3, [8, 932, 1, 2, 2]), (.aload_n 0, 1, []), (.iconst 0, 1, [0]), (.putfield 18, 3, [2, 2, 626, 3]), (.aload_n 0, 1, []), (.iconst 0, 1, [0]), (.putfield 22, 3, [2, 3, 627, 3]), (.aload_n 0, 1, []), (.getfield 25, 3, [2, 0, 623, 2]), (.iload_n 1, 1, []), (.invokevirtual 32, 3, [91, 933, 2, 2, 8]), (.iconst 1, 1, [1]), (.istore_n 2, 1, []), (.iconst 0, 1, [0]), (.istore_n 3, 1, []), (.nop, 0, [29])]
def kX2_takeIn_29 : List qIns := [(.iload_n 3, 1, []), (.sipush 900, 3, [900]), (.if_icmp .gt 121, 3, [154]), (.iload_n 2, 1, []), (.ifCond .eq 117, 3, [154]), (.aload_n 0, 1, []), (.getfield 25, 3, [2, 0, 623, 2]), (.invokevirtual 38, 3, [99, 970, 1, 0, 8]), (.ifCond .ne 107, 3, [154]), (.aload_n 0, 1, []), (.getfield 25, 3, [2, 0, 623, 2]), (.getfield 42, 3, [7, 7, 573, 0]), (.tableswitch 83 0 8 #[51, 83, 59, 67, 83, 83, 83, 83, 75], 51, [140, 108, 140, 116, 124, 140, 140, 140, 140, 132])]
def kX2_takeIn_108 : List qIns := [(.aload_n 0, 1, []), (.invokevirtual 46, 3, [35, 974, 1, 0, 3]), (.istore_n 2, 1, []), (.goto 35, 3, [148])]
def kX2_takeIn_116 : List qIns := [(.aload_n 0, 1, []), (.invokevirtual 49, 3, [36, 1000, 1, 0, 3]), (.istore_n 2, 1, []), (.goto 27, 3, [148])]
def kX2_takeIn_124 : List qIns := [(.aload_n 0, 1, []), (.invokevirtual 52, 3, [37, 1004, 1, 0, 3]), (.istore_n 2, 1, []), (.goto 19, 3, [148])]
def kX2_takeIn_132 : List qIns := [(.aload_n 0, 1, []), (.invokevirtual 55, 3, [39, 1056, 1, 0, 3]), (.istore_n 2, 1, []), (.goto 11, 3, [148])]
def kX2_takeIn_140 : List qIns := [(.aload_n 0, 1, []), (.getfield 25, 3, [2, 0, 623, 2]), (.invokevirtual 58, 3, [101, 1028, 1, 0, 8]), (.istore_n 2, 1, []), (.nop, 0, [148])]
def kX2_takeIn_148 : List qIns := [(.iinc 3 1, 3, [1]), (.goto (-122), 3, [29])]
def kX2_takeIn_154 : List qIns := [(.iload_n 2, 1, []), (.ireturn, 1, [1])]
def mX2_takeIn : qMI := (yX2_takeIn, cX2_takeIn, 4, (some .boolean), 2, [931, 269, 929, 930], 1, false, [(0, kX2_takeIn_0), (29, kX2_takeIn_29), (108, kX2_takeIn_108), (116, kX2_takeIn_116), (124, kX2_takeIn_124), (132, kX2_takeIn_132), (140, kX2_takeIn_140), (148, kX2_takeIn_148), (154, kX2_takeIn_154)])
def kX2_takeField_0 : List qIns := [(.aload_n 0, 1, []), (.getfield 18, 3, [2, 2, 626, 3]), (.ifCond .ne 13, 3, [17]), (.aload_n 0, 1, []), (.getfield 12, 3, [2, 1, 624, 2]), (.getfield 61, 3, [1, 4, 314, 0]), (.ifCond .le 12, 3, [26]), (.nop, 0, [17])]
def kX2_takeField_17 : List qIns := [(.aload_n 0, 1, []), (.getfield 25, 3, [2, 0, 623, 2]), (.iconst 5, 1, [5]), (.invokevirtual 64, 3, [100, 978, 2, 0, 8]), (.ireturn, 1, [1])]
def kX2_takeField_26 : List qIns := [(.aload_n 0, 1, []), (.iconst 1, 1, [1]), (.putfield 18, 3, [2, 2, 626, 3]), (.aload_n 0, 1, []), (.getfield 25, 3, [2, 0, 623, 2]), (.invokevirtual 68, 3, [93, 982, 1, 2, 8]), (.aload_n 0, 1, []), (.getfield 25, 3, [2, 0, 623, 2]), (.iconst 1, 1, [1]), (.bipush 6, 2, [6]), (.invokevirtual 71, 3, [104, 983, 3, 0, 8]), (.ifCond .ne 5, 3, [53]), (.iconst 0, 1, [0]), (.ireturn, 1, [1])]
def kX2_takeField_53 : List qIns := [(.aload_n 0, 1, []), (.getfield 12, 3, [2, 1, 624, 2]), (.aload_n 0, 1, []), (.getfield 25, 3, [2, 0, 623, 2]), (.getfield 75, 3, [7, 10, 578, 0]), (.putfield 78, 3, [1, 0, 296, 0]), (.aload_n 0, 1, []), (.getfield 25, 3, [2, 0, 623, 2]), (.iconst 1, 1, [1]), (.invokevirtual 81, 3, [103, 992, 2, 0, 8]), (.ifCond .eq 16, 3, [91]), (.aload_n 0, 1, []), (.getfield 25, 3, [2, 0, 623, 2]), (.iconst 1, 1, [1]), (.bipush 6, 2, [6]), (.invokevirtual 71, 3, [104, 983, 3, 0, 8]), (.ifCond .ne 5, 3, [93]), (.nop, 0, [91])]
def kX2_takeField_91 : List qIns := [(.iconst 0, 1, [0]), (.ireturn, 1, [1])]
def kX2_takeField_93 : List qIns := [(.aload_n 0, 1, []), (.getfield 12, 3, [2, 1, 624, 2]), (.aload_n 0, 1, []), (.getfield 25, 3, [2, 0, 623, 2]), (.getfield 75, 3, [7, 10, 578, 0]), (.putfield 84, 3, [1, 1, 301, 0]), (.aload_n 0, 1, []), (.getfield 25, 3, [2, 0, 623, 2]), (.invokevirtual 87, 3, [105, 996, 1, 0, 8]), (.ireturn, 1, [1])]
def mX2_takeField : qMI := (yX2_takeField, cX2_takeField, 1, (some .boolean), 2, [977, 269, 976, 8], 0, false, [(0, kX2_takeField_0), (17, kX2_takeField_17), (26, kX2_takeField_26), (53, kX2_takeField_53), (91, kX2_takeField_91), (93, kX2_takeField_93)])
def kX2_takeOdds_0 : List qIns := [(.aload_n 0, 1, []), (.getfield 22, 3, [2, 3, 627, 3]), (.ifCond .eq 12, 3, [16]), (.aload_n 0, 1, []), (.getfield 25, 3, [2, 0, 623, 2]), (.iconst 5, 1, [5]), (.invokevirtual 64, 3, [100, 978, 2, 0, 8]), (.ireturn, 1, [1])]
def kX2_takeOdds_16 : List qIns := [(.aload_n 0, 1, []), (.iconst 1, 1, [1]), (.putfield 22, 3, [2, 3, 627, 3]), (.aload_n 0, 1, []), (.getfield 25, 3, [2, 0, 623, 2]), (.invokevirtual 68, 3, [93, 982, 1, 2, 8]), (.aload_n 0, 1, []), (.getfield 25, 3, [2, 0, 623, 2]), (.iconst 0, 1, [0]), (.bipush 16, 2, [16]), (.invokevirtual 71, 3, [104, 983, 3, 0, 8]), (.ifCond .ne 5, 3, [43]), (.iconst 0, 1, [0]), (.ireturn, 1, [1])]
def kX2_takeOdds_43 : List qIns := [(.aload_n 0, 1, []), (.getfield 12, 3, [2, 1, 624, 2]), (.aload_n 0, 1, []), (.getfield 25, 3, [2, 0, 623, 2]), (.getfield 75, 3, [7, 10, 578, 0]), (.putfield 90, 3, [1, 2, 306, 0]), (.aload_n 0, 1, []), (.getfield 25, 3, [2, 0, 623, 2]), (.invokevirtual 87, 3, [105, 996, 1, 0, 8]), (.ireturn, 1, [1])]
def mX2_takeOdds : qMI := (yX2_takeOdds, cX2_takeOdds, 1, (some .boolean), 2, [1003, 269, 1002, 9], 0, false, [(0, kX2_takeOdds_0), (16, kX2_takeOdds_16), (43, kX2_takeOdds_43)])
def kX2_takeBoy_0 : List qIns := [(.aload_n 0, 1, []), (.getfield 12, 3, [2, 1, 624, 2]), (.getfield 61, 3, [1, 4, 314, 0]), (.bipush 8, 2, [8]), (.if_icmp .lt 13, 3, [22]), (.aload_n 0, 1, []), (.getfield 25, 3, [2, 0, 623, 2]), (.bipush 6, 2, [6]), (.invokevirtual 64, 3, [100, 978, 2, 0, 8]), (.ireturn, 1, [1])]
def kX2_takeBoy_22 : List qIns := [(.aload_n 0, 1, []), (.getfield 25, 3, [2, 0, 623, 2]), (.invokevirtual 68, 3, [93, 982, 1, 2, 8]), (.aload_n 0, 1, []), (.getfield 25, 3, [2, 0, 623, 2]), (.invokevirtual 93, 3, [102, 1024, 1, 0, 8]), (.ifCond .ne 11, 3, [47]), (.aload_n 0, 1, []), (.getfield 25, 3, [2, 0, 623, 2]), (.invokevirtual 58, 3, [101, 1028, 1, 0, 8]), (.ireturn, 1, [1])]
def kX2_takeBoy_47 : List qIns := [(.aload_n 0, 1, []), (.getfield 12, 3, [2, 1, 624, 2]), (.aload_n 0, 1, []), (.getfield 25, 3, [2, 0, 623, 2]), (.getfield 96, 3, [7, 6, 571, 1]), (.invokevirtual 100, 3, [13, 1029, 2, 0, 2]), (.iconst (-1), 1, []), (.if_icmp .eq 12, 3, [74]), (.aload_n 0, 1, []), (.getfield 25, 3, [2, 0, 623, 2]), (.iconst 3, 1, [3]), (.invokevirtual 64, 3, [100, 978, 2, 0, 8]), (.ireturn, 1, [1])]
def kX2_takeBoy_74 : List qIns := [(.aload_n 0, 1, []), (.getfield 25, 3, [2, 0, 623, 2]), (.getfield 96, 3, [7, 6, 571, 1]), (.lstore_n 1, 1, []), (.aload_n 0, 1, []), (.getfield 25, 3, [2, 0, 623, 2]), (.invokevirtual 68, 3, [93, 982, 1, 2, 8]), (.aload_n 0, 1, []), (.getfield 25, 3, [2, 0, 623, 2]), (.iconst 4, 1, [4]), (.invokevirtual 81, 3, [103, 992, 2, 0, 8]), (.ifCond .eq 31, 3, [128]), (.aload_n 0, 1, []), (.getfield 25, 3, [2, 0, 623, 2]), (.iconst 0, 1, [0]), (.aload_n 0, 1, []), (.getfield 12, 3, [2, 1, 624, 2]), (.getfield 78, 3, [1, 0, 296, 0]), (.aload_n 0, 1, []), (.getfield 12, 3, [2, 1, 624, 2]), (.getfield 84, 3, [1, 1, 301, 0]), (.imul, 1, []), (.iconst 1, 1, [1]), (.isub, 1, []), (.invokevirtual 71, 3, [104, 983, 3, 0, 8]), (.ifCond .ne 5, 3, [130]), (.nop, 0, [128])]
def kX2_takeBoy_128 : List qIns := [(.iconst 0, 1, [0]), (.ireturn, 1, [1])]
def kX2_takeBoy_130 : List qIns := [(.aload_n 0, 1, []), (.getfield 25, 3, [2, 0, 623, 2]), (.getfield 75, 3, [7, 10, 578, 0]), (.istore_n 3, 1, []), (.aload_n 0, 1, []), (.getfield 25, 3, [2, 0, 623, 2]), (.iconst 5, 1, [5]), (.invokevirtual 81, 3, [103, 992, 2, 0, 8]), (.ifCond .eq 16, 3, [162]), (.aload_n 0, 1, []), (.getfield 25, 3, [2, 0, 623, 2]), (.iconst 1, 1, [1]), (.bipush 30, 2, [30]), (.invokevirtual 71, 3, [104, 983, 3, 0, 8]), (.ifCond .ne 5, 3, [164]), (.nop, 0, [162])]
def kX2_takeBoy_162 : List qIns := [(.iconst 0, 1, [0]), (.ireturn, 1, [1])]
def kX2_takeBoy_164 : List qIns := [(.aload_n 0, 1, []), (.getfield 25, 3, [2, 0, 623, 2]), (.getfield 75, 3, [7, 10, 578, 0]), (.istore 4, 2, []), (.aload_n 0, 1, []), (.bipush 6, 2, [6]), (.iconst 1, 1, [1]), (.invokevirtual 104, 3, [38, 1033, 3, 0, 3]), (.istore 5, 2, []), (.iload 5, 2, []), (.iconst (-1), 1, []), (.if_icmp .ne 7, 3, [192]), (.iconst (-1), 1, []), (.goto 10, 3, [199])]
def kX2_takeBoy_192 : List qIns := [(.aload_n 0, 1, []), (.bipush 7, 2, [7]), (.iconst 2, 1, [2]), (.invokevirtual 104, 3, [38, 1033, 3, 0, 3]), (.nop, 0, [199])]
def kX2_takeBoy_199 : List qIns := [(.istore 6, 2, []), (.iload 6, 2, []), (.iconst (-1), 1, []), (.if_icmp .eq 13, 3, [217]), (.aload_n 0, 1, []), (.getfield 25, 3, [2, 0, 623, 2]), (.invokevirtual 87, 3, [105, 996, 1, 0, 8]), (.ifCond .ne 5, 3, [219]), (.nop, 0, [217])]
def kX2_takeBoy_217 : List qIns := [(.iconst 0, 1, [0]), (.ireturn, 1, [1])]
def kX2_takeBoy_219 : List qIns := [(.aload_n 0, 1, []), (.getfield 12, 3, [2, 1, 624, 2]), (.lload_n 1, 1, []), (.iload_n 3, 1, []), (.iload 4, 2, []), (.iload 5, 2, []), (.iload 6, 2, []), (.invokevirtual 108, 3, [14, 1037, 6, 0, 2]), (.pop, 1, []), (.iconst 1, 1, [1]), (.ireturn, 1, [1])]
def mX2_takeBoy : qMI := (yX2_takeBoy, cX2_takeBoy, 7, (some .boolean), 2, [1007, 269, 1006, 10], 0, false, [(0, kX2_takeBoy_0), (22, kX2_takeBoy_22), (47, kX2_takeBoy_47), (74, kX2_takeBoy_74), (128, kX2_takeBoy_128), (130, kX2_takeBoy_130), (162, kX2_takeBoy_162), (164, kX2_takeBoy_164), (192, kX2_takeBoy_192), (199, kX2_takeBoy_199), (217, kX2_takeBoy_217), (219, kX2_takeBoy_219)])
def kX2_takePerhaps_0 : List qIns := [(.aload_n 0, 1, []), (.getfield 25, 3, [2, 0, 623, 2]), (.getfield 42, 3, [7, 7, 573, 0]), (.iload_n 1, 1, []), (.if_icmp .eq 5, 3, [13]), (.iload_n 2, 1, []), (.ireturn, 1, [0])]
def kX2_takePerhaps_13 : List qIns := [(.aload_n 0, 1, []), (.getfield 25, 3, [2, 0, 623, 2]), (.invokevirtual 68, 3, [93, 982, 1, 2, 8]), (.aload_n 0, 1, []), (.getfield 25, 3, [2, 0, 623, 2]), (.iconst 0, 1, [0]), (.bipush 9, 2, [9]), (.invokevirtual 71, 3, [104, 983, 3, 0, 8]), (.ifCond .eq 13, 3, [43]), (.aload_n 0, 1, []), (.getfield 25, 3, [2, 0, 623, 2]), (.getfield 75, 3, [7, 10, 578, 0]), (.goto 4, 3, [44])]
def kX2_takePerhaps_43 : List qIns := [(.iconst (-1), 1, []), (.nop, 0, [44])]
def kX2_takePerhaps_44 : List qIns := [(.ireturn, 1, [0])]
def mX2_takePerhaps : qMI := (yX2_takePerhaps, cX2_takePerhaps, 3, (some .int), 2, [1036, 269, 1035, 11], 2, false, [(0, kX2_takePerhaps_0), (13, kX2_takePerhaps_13), (43, kX2_takePerhaps_43), (44, kX2_takePerhaps_44)])
def kX2_takeQuarrel_0 : List qIns := [(.aload_n 0, 1, []), (.getfield 12, 3, [2, 1, 624, 2]), (.getfield 112, 3, [1, 5, 322, 0]), (.bipush 10, 2, [10]), (.if_icmp .lt 13, 3, [22]), (.aload_n 0, 1, []), (.getfield 25, 3, [2, 0, 623, 2]), (.bipush 6, 2, [6]), (.invokevirtual 64, 3, [100, 978, 2, 0, 8]), (.ireturn, 1, [1])]
def kX2_takeQuarrel_22 : List qIns := [(.aload_n 0, 1, []), (.getfield 25, 3, [2, 0, 623, 2]), (.invokevirtual 68, 3, [93, 982, 1, 2, 8]), (.aload_n 0, 1, []), (.getfield 25, 3, [2, 0, 623, 2]), (.aload_n 0, 1, []), (.getfield 12, 3, [2, 1, 624, 2]), (.invokevirtual 115, 3, [107, 1060, 2, 0, 8]), (.istore_n 1, 1, []), (.iload_n 1, 1, []), (.iconst (-1), 1, []), (.if_icmp .ne 5, 3, [48]), (.iconst 0, 1, [0]), (.ireturn, 1, [1])]
def kX2_takeQuarrel_48 : List qIns := [(.aload_n 0, 1, []), (.getfield 25, 3, [2, 0, 623, 2]), (.invokevirtual 68, 3, [93, 982, 1, 2, 8]), (.aload_n 0, 1, []), (.getfield 25, 3, [2, 0, 623, 2]), (.aload_n 0, 1, []), (.getfield 12, 3, [2, 1, 624, 2]), (.invokevirtual 115, 3, [107, 1060, 2, 0, 8]), (.istore_n 2, 1, []), (.iload_n 2, 1, []), (.iconst (-1), 1, []), (.if_icmp .ne 5, 3, [74]), (.iconst 0, 1, [0]), (.ireturn, 1, [1])]
def kX2_takeQuarrel_74 : List qIns := [(.iload_n 1, 1, []), (.iload_n 2, 1, []), (.if_icmp .ne 12, 3, [88]), (.aload_n 0, 1, []), (.getfield 25, 3, [2, 0, 623, 2]), (.iconst 5, 1, [5]), (.invokevirtual 64, 3, [100, 978, 2, 0, 8]), (.ireturn, 1, [1])]
def kX2_takeQuarrel_88 : List qIns := [(.aload_n 0, 1, []), (.getfield 25, 3, [2, 0, 623, 2]), (.invokevirtual 68, 3, [93, 982, 1, 2, 8]), (.aload_n 0, 1, []), (.getfield 25, 3, [2, 0, 623, 2]), (.bipush 9, 2, [9]), (.invokevirtual 81, 3, [103, 992, 2, 0, 8]), (.ifCond .eq 16, 3, [120]), (.aload_n 0, 1, []), (.getfield 25, 3, [2, 0, 623, 2]), (.iconst 0, 1, [0]), (.bipush 99, 2, [99]), (.invokevirtual 71, 3, [104, 983, 3, 0, 8]), (.ifCond .ne 5, 3, [122]), (.nop, 0, [120])]
def kX2_takeQuarrel_120 : List qIns := [(.iconst 0, 1, [0]), (.ireturn, 1, [1])]
def kX2_takeQuarrel_122 : List qIns := [(.aload_n 0, 1, []), (.getfield 25, 3, [2, 0, 623, 2]), (.getfield 75, 3, [7, 10, 578, 0]), (.istore_n 3, 1, []), (.aload_n 0, 1, []), (.getfield 25, 3, [2, 0, 623, 2]), (.invokevirtual 87, 3, [105, 996, 1, 0, 8]), (.ifCond .ne 5, 3, [142]), (.iconst 0, 1, [0]), (.ireturn, 1, [1])]
def kX2_takeQuarrel_142 : List qIns := [(.aload_n 0, 1, []), (.getfield 12, 3, [2, 1, 624, 2]), (.iload_n 1, 1, []), (.iload_n 2, 1, []), (.iload_n 3, 1, []), (.invokevirtual 119, 3, [15, 1066, 4, 0, 2]), (.pop, 1, []), (.iconst 1, 1, [1]), (.ireturn, 1, [1])]
def mX2_takeQuarrel : qMI := (yX2_takeQuarrel, cX2_takeQuarrel, 4, (some .boolean), 2, [1059, 269, 1058, 12], 0, false, [(0, kX2_takeQuarrel_0), (22, kX2_takeQuarrel_22), (48, kX2_takeQuarrel_48), (74, kX2_takeQuarrel_74), (88, kX2_takeQuarrel_88), (120, kX2_takeQuarrel_120), (122, kX2_takeQuarrel_122), (142, kX2_takeQuarrel_142)])
def kX3_init_0 : List qIns := [(.aload_n 0, 1, []), (.nop, 0, [1])]
def kX3_init_1 : List qIns := [(.invokespecial 3, 3, [999, 439, 1, 2]), (.nop, 0, [4])]
def kX3_init_4 : List qIns := [(.aload_n 0, 1, []), (.bipush 20, 2, [20]), (.nop, 0, [7])]
def kX3_init_7 : List qIns := [(.newarray .int, 2, []), (.nop, 0, [9])]
def kX3_init_9 : List qIns := [(.putfield 9, 3, [3, 2, 442, 2]), (.nop, 0, [12])]
def kX3_init_12 : List qIns := [(.aload_n 0, 1, []), (.bipush 20, 2, [20]), (.nop, 0, [15])]
def kX3_init_15 : List qIns := [(.newarray .int, 2, []), (.nop, 0, [17])]
def kX3_init_17 : List qIns := [(.putfield 15, 3, [3, 3, 443, 2]), (.nop, 0, [20])]
def kX3_init_20 : List qIns := [(.aload_n 0, 1, []), (.iconst 0, 1, [0]), (.putfield 18, 3, [3, 4, 444, 0]), (.aload_n 0, 1, []), (.sipush 248, 3, [248]), (.nop, 0, [29])]
def kX3_init_29 : List qIns := [(.newarray .int, 2, []), (.nop, 0, [31])]
def kX3_init_31 : List qIns := [(.putfield 22, 3, [3, 5, 445, 2]), (.nop, 0, [34])]
def kX3_init_34 : List qIns := [(.aload_n 0, 1, []), (.aload_n 1, 1, []), (.nop, 0, [36])]
def kX3_init_36 : List qIns := [(.putfield 25, 3, [3, 0, 440, 2]), (.nop, 0, [39])]
def kX3_init_39 : List qIns := [(.aload_n 0, 1, []), (.aload_n 2, 1, []), (.nop, 0, [41])]
def kX3_init_41 : List qIns := [(.putfield 29, 3, [3, 1, 441, 2]), (.nop, 0, [44])]
def kX3_init_44 : List qIns := [(.return_, 1, [])]
def mX3_init : qMI := (yX3_init, cX3_init, 3, none, 3, [438, 261, 437, 0], 2, false, [(0, kX3_init_0), (1, kX3_init_1), (4, kX3_init_4), (7, kX3_init_7), (9, kX3_init_9), (12, kX3_init_12), (15, kX3_init_15), (17, kX3_init_17), (20, kX3_init_20), (29, kX3_init_29), (31, kX3_init_31), (34, kX3_init_34), (36, kX3_init_36), (39, kX3_init_39), (41, kX3_init_41), (44, kX3_init_44)])
def kX3_forget_0 : List qIns := [(.aload_n 0, 1, []), (.iconst 0, 1, [0]), (.putfield 18, 3, [3, 4, 444, 0]), (.return_, 1, [])]
def mX3_forget : qMI := (yX3_forget, cX3_forget, 1, none, 3, [1506, 261, 1504, 1505], 0, false, [(0, kX3_forget_0)])
def kX3_add_0 : List qIns := [(.aload_n 0, 1, []), (.getfield 18, 3, [3, 4, 444, 0]), (.ifCond .lt 42, 3, [46]), (.aload_n 0, 1, []), (.getfield 18, 3, [3, 4, 444, 0]), (.bipush 20, 2, [20]), (.if_icmp .ge 33, 3, [46]), (.aload_n 0, 1, []), (.getfield 9, 3, [3, 2, 442, 2]), (.aload_n 0, 1, []), (.getfield 18, 3, [3, 4, 444, 0]), (.iload_n 1, 1, []), (.iastore, 1, []), (.aload_n 0, 1, []), (.getfield 15, 3, [3, 3, 443, 2]), (.aload_n 0, 1, []), (.getfield 18, 3, [3, 4, 444, 0]), (.iload_n 2, 1, []), (.iastore, 1, []), (.aload_n 0, 1, []), (.dup, 1, []), (.getfield 18, 3, [3, 4, 444, 0]), (.iconst 1, 1, [1]), (.iadd, 1, []), (.putfield 18, 3, [3, 4, 444, 0]), (.nop, 0, [46])]
def kX3_add_46 : List qIns := [(.return_, 1, [])]
def mX3_add : qMI := (yX3_add, cX3_add, 3, none, 3, [1510, 261, 1508, 1509], 2, false, [(0, kX3_add_0), (46, kX3_add_46)])
def kX3_fittingPrides_0 : List qIns := [(.iconst 0, 1, [0]), (.istore_n 3, 1, []), (.aload_n 1, 1, []), (.iload_n 2, 1, []), (.invokevirtual 33, 3, [10, 1515, 2, 0, 2]), (.ifCond .ne 5, 3, [12]), (.iload_n 3, 1, []), (.ireturn, 1, [0])]
def kX3_fittingPrides_12 : List qIns := [(.aload_n 0, 1, []), (.getfield 25, 3, [3, 0, 440, 2]), (.aload_n 1, 1, []), (.invokevirtual 39, 3, [9, 1516, 2, 2, 2]), (.iconst 1, 1, [1]), (.istore 4, 2, []), (.nop, 0, [23])]
def kX3_fittingPrides_23 : List qIns := [(.iload 4, 2, []), (.bipush 30, 2, [30]), (.if_icmp .gt 72, 3, [99]), (.aload_n 0, 1, []), (.getfield 25, 3, [3, 0, 440, 2]), (.getfield 43, 3, [1, 8, 330, 2]), (.iload_n 2, 1, []), (.iload 4, 2, []), (.iastore, 1, []), (.aload_n 0, 1, []), (.getfield 29, 3, [3, 1, 441, 2]), (.aload_n 0, 1, []), (.getfield 25, 3, [3, 0, 440, 2]), (.invokevirtual 46, 3, [1, 1517, 2, 0, 1]), (.pop, 1, []), (.aload_n 0, 1, []), (.getfield 29, 3, [3, 1, 441, 2]), (.getfield 52, 3, [0, 1, 402, 2]), (.iconst 0, 1, [0]), (.aload_n 0, 1, []), (.getfield 22, 3, [3, 5, 445, 2]), (.iload 4, 2, []), (.bipush 8, 2, [8]), (.imul, 1, []), (.bipush 8, 2, [8]), (.invokestatic 55, 3, [1518]), (.aload_n 0, 1, []), (.aload_n 1, 1, []), (.getfield 61, 3, [1, 4, 316, 0]), (.invokevirtual 64, 3, [44, 1519, 2, 0, 4]), (.ifCond .eq 10, 3, [93]), (.iload_n 3, 1, []), (.iconst 1, 1, [1]), (.iload 4, 2, []), (.ishl, 1, []), (.ior, 1, []), (.istore_n 3, 1, []), (.nop, 0, [93])]
def kX3_fittingPrides_93 : List qIns := [(.iinc 4 1, 3, [1]), (.goto (-73), 3, [23])]
def kX3_fittingPrides_99 : List qIns := [(.iload_n 3, 1, []), (.ireturn, 1, [0])]
def mX3_fittingPrides : qMI := (yX3_fittingPrides, cX3_fittingPrides, 5, (some .int), 3, [1514, 261, 1512, 1513], 2, false, [(0, kX3_fittingPrides_0), (12, kX3_fittingPrides_12), (23, kX3_fittingPrides_23), (93, kX3_fittingPrides_93), (99, kX3_fittingPrides_99)])
def kX3_asSeen_0 : List qIns := [(.iconst 0, 1, [0]), (.istore_n 2, 1, []), (.nop, 0, [2])]
def kX3_asSeen_2 : List qIns := [(.iload_n 2, 1, []), (.aload_n 0, 1, []), (.getfield 18, 3, [3, 4, 444, 0]), (.if_icmp .ge 51, 3, [58]), (.aload_n 0, 1, []), (.getfield 9, 3, [3, 2, 442, 2]), (.iload_n 2, 1, []), (.iaload, 1, []), (.istore_n 3, 1, []), (.iload_n 3, 1, []), (.ifCond .lt 32, 3, [50]), (.iload_n 3, 1, []), (.iload_n 1, 1, []), (.if_icmp .ge 27, 3, [50]), (.iload_n 3, 1, []), (.bipush 8, 2, [8]), (.if_icmp .ge 21, 3, [50]), (.aload_n 0, 1, []), (.getfield 29, 3, [3, 1, 441, 2]), (.getfield 52, 3, [0, 1, 402, 2]), (.iload_n 3, 1, []), (.iaload, 1, []), (.aload_n 0, 1, []), (.getfield 15, 3, [3, 3, 443, 2]), (.iload_n 2, 1, []), (.iaload, 1, []), (.if_icmp .eq 5, 3, [52]), (.nop, 0, [50])]
def kX3_asSeen_50 : List qIns := [(.iconst 0, 1, [0]), (.ireturn, 1, [1])]
def kX3_asSeen_52 : List qIns := [(.iinc 2 1, 3, [1]), (.goto (-53), 3, [2])]
def kX3_asSeen_58 : List qIns := [(.iconst 1, 1, [1]), (.ireturn, 1, [1])]
def mX3_asSeen : qMI := (yX3_asSeen, cX3_asSeen, 4, (some .boolean), 3, [1538, 261, 1537, 29], 1, false, [(0, kX3_asSeen_0), (2, kX3_asSeen_2), (50, kX3_asSeen_50), (52, kX3_asSeen_52), (58, kX3_asSeen_58)])
def kX3_bestParter_0 : List qIns := [(.iconst 0, 1, [0]), (.istore_n 3, 1, []), (.ldc 67, 2, [1557, 1000000]), (.istore 4, 2, []), (.iconst 0, 1, [0]), (.istore 5, 2, []), (.nop, 0, [9])]
def kX3_bestParter_9 : List qIns := [(.iload 5, 2, []), (.iload_n 1, 1, []), (.if_icmp .ge 32, 3, [44]), (.aload_n 0, 1, []), (.iload 5, 2, []), (.iload_n 2, 1, []), (.invokevirtual 68, 3, [46, 1558, 3, 0, 4]), (.istore 6, 2, []), (.iload 6, 2, []), (.iload 4, 2, []), (.if_icmp .ge 10, 3, [38]), (.iload 6, 2, []), (.istore 4, 2, []), (.iload 5, 2, []), (.istore_n 3, 1, []), (.nop, 0, [38])]
def kX3_bestParter_38 : List qIns := [(.iinc 5 1, 3, [1]), (.goto (-32), 3, [9])]
def kX3_bestParter_44 : List qIns := [(.iload_n 3, 1, []), (.ireturn, 1, [0])]
def mX3_bestParter : qMI := (yX3_bestParter, cX3_bestParter, 7, (some .int), 3, [1556, 261, 1554, 1555], 2, false, [(0, kX3_bestParter_0), (9, kX3_bestParter_9), (38, kX3_bestParter_38), (44, kX3_bestParter_44)])
def kX3_mostAlike_0 : List qIns := [(.iconst 0, 1, [0]), (.istore_n 3, 1, []), (.iconst 1, 1, [1]), (.istore 4, 2, []), (.nop, 0, [5])]
def kX3_mostAlike_5 : List qIns := [(.iload 4, 2, []), (.bipush 30, 2, [30]), (.if_icmp .gt 31, 3, [40]), (.iload_n 2, 1, []), (.iconst 1, 1, [1]), (.iload 4, 2, []), (.ishl, 1, []), (.iand, 1, []), (.ifCond .eq 16, 3, [34]), (.iload_n 3, 1, []), (.aload_n 0, 1, []), (.iload_n 1, 1, []), (.iload_n 2, 1, []), (.iload 4, 2, []), (.invokevirtual 72, 3, [47, 1562, 4, 0, 4]), (.invokestatic 76, 3, [1566, 0]), (.istore_n 3, 1, []), (.nop, 0, [34])]
def kX3_mostAlike_34 : List qIns := [(.iinc 4 1, 3, [1]), (.goto (-32), 3, [5])]
def kX3_mostAlike_40 : List qIns := [(.iload_n 3, 1, []), (.ireturn, 1, [0])]
def mX3_mostAlike : qMI := (yX3_mostAlike, cX3_mostAlike, 5, (some .int), 3, [1561, 261, 1560, 30], 2, false, [(0, kX3_mostAlike_0), (5, kX3_mostAlike_5), (34, kX3_mostAlike_34), (40, kX3_mostAlike_40)])
def kX3_alike_0 : List qIns := [(.iconst 0, 1, [0]), (.istore 4, 2, []), (.iload_n 1, 1, []), (.ifCond .lt 20, 3, [24]), (.iload_n 1, 1, []), (.bipush 8, 2, [8]), (.if_icmp .ge 14, 3, [24]), (.iload_n 3, 1, []), (.iconst 1, 1, [1]), (.if_icmp .lt 9, 3, [24]), (.iload_n 3, 1, []), (.bipush 30, 2, [30]), (.if_icmp .le 6, 3, [27]), (.nop, 0, [24])]
def kX3_alike_24 : List qIns := [(.iload 4, 2, []), (.ireturn, 1, [0])]
def kX3_alike_27 : List qIns := [(.iconst 1, 1, [1]), (.istore 5, 2, []), (.nop, 0, [30])]
def kX3_alike_30 : List qIns := [(.iload 5, 2, []), (.bipush 30, 2, [30]), (.if_icmp .gt 59, 3, [93]), (.aload_n 0, 1, []), (.getfield 22, 3, [3, 5, 445, 2]), (.iload 5, 2, []), (.bipush 8, 2, [8]), (.imul, 1, []), (.iload_n 1, 1, []), (.iadd, 1, []), (.iaload, 1, []), (.aload_n 0, 1, []), (.getfield 22, 3, [3, 5, 445, 2]), (.iload_n 3, 1, []), (.bipush 8, 2, [8]), (.imul, 1, []), (.iload_n 1, 1, []), (.iadd, 1, []), (.iaload, 1, []), (.if_icmp .ne 7, 3, [67]), (.iconst 1, 1, [1]), (.goto 4, 3, [68])]
def kX3_alike_67 : List qIns := [(.iconst 0, 1, [0]), (.nop, 0, [68])]
def kX3_alike_68 : List qIns := [(.istore 6, 2, []), (.iload 6, 2, []), (.ifCond .eq 15, 3, [87]), (.iload_n 2, 1, []), (.iconst 1, 1, [1]), (.iload 5, 2, []), (.ishl, 1, []), (.iand, 1, []), (.ifCond .eq 6, 3, [87]), (.iinc 4 1, 3, [1]), (.nop, 0, [87])]
def kX3_alike_87 : List qIns := [(.iinc 5 1, 3, [1]), (.goto (-60), 3, [30])]
def kX3_alike_93 : List qIns := [(.iload 4, 2, []), (.ireturn, 1, [0])]
def mX3_alike : qMI := (yX3_alike, cX3_alike, 7, (some .int), 3, [1565, 261, 1564, 31], 3, false, [(0, kX3_alike_0), (24, kX3_alike_24), (27, kX3_alike_27), (30, kX3_alike_30), (67, kX3_alike_67), (68, kX3_alike_68), (87, kX3_alike_87), (93, kX3_alike_93)])
def kX3_least_0 : List qIns := [(.iconst 1, 1, [1]), (.istore_n 1, 1, []), (.nop, 0, [2])]
def kX3_least_2 : List qIns := [(.iload_n 1, 1, []), (.bipush 30, 2, [30]), (.if_icmp .gt 19, 3, [24]), (.iload_n 0, 1, []), (.iconst 1, 1, [1]), (.iload_n 1, 1, []), (.ishl, 1, []), (.iand, 1, []), (.ifCond .eq 5, 3, [18]), (.iload_n 1, 1, []), (.ireturn, 1, [0])]
def kX3_least_18 : List qIns := [(.iinc 1 1, 3, [1]), (.goto (-19), 3, [2])]
def kX3_least_24 : List qIns := [(.iconst (-1), 1, []), (.ireturn, 1, [0])]
def mX3_least : qMI := (yX3_least, cX3_least, 2, (some .int), 3, [1545, 261, 1544], 1, true, [(0, kX3_least_0), (2, kX3_least_2), (18, kX3_least_18), (24, kX3_least_24)])
def kX3_greatest_0 : List qIns := [(.bipush 30, 2, [30]), (.istore_n 1, 1, []), (.nop, 0, [3])]
def kX3_greatest_3 : List qIns := [(.iload_n 1, 1, []), (.iconst 1, 1, [1]), (.if_icmp .lt 19, 3, [24]), (.iload_n 0, 1, []), (.iconst 1, 1, [1]), (.iload_n 1, 1, []), (.ishl, 1, []), (.iand, 1, []), (.ifCond .eq 5, 3, [18]), (.iload_n 1, 1, []), (.ireturn, 1, [0])]
def kX3_greatest_18 : List qIns := [(.iinc 1 (-1), 3, []), (.goto (-18), 3, [3])]
def kX3_greatest_24 : List qIns := [(.iconst (-1), 1, []), (.ireturn, 1, [0])]
def mX3_greatest : qMI := (yX3_greatest, cX3_greatest, 2, (some .int), 3, [1548, 261, 1547], 1, true, [(0, kX3_greatest_0), (3, kX3_greatest_3), (18, kX3_greatest_18), (24, kX3_greatest_24)])
def kX4_init_0 : List qIns := [(.aload_n 0, 1, []), (.nop, 0, [1])]
def kX4_init_1 : List qIns := [(.invokespecial 3, 3, [999, 464, 1, 2]), (.nop, 0, [4])]
def kX4_init_4 : List qIns := [(.aload_n 0, 1, []), (.aload_n 1, 1, []), (.nop, 0, [6])]
def kX4_init_6 : List qIns := [(.putfield 9, 3, [4, 0, 465, 2]), (.nop, 0, [9])]
def kX4_init_9 : List qIns := [(.aload_n 0, 1, []), (.aload_n 2, 1, []), (.nop, 0, [11])]
def kX4_init_11 : List qIns := [(.putfield 15, 3, [4, 1, 466, 2]), (.nop, 0, [14])]
def kX4_init_14 : List qIns := [(.return_, 1, [])]
def mX4_init : qMI := (yX4_init, cX4_init, 3, none, 4, [463, 262, 462, 0], 2, false, [(0, kX4_init_0), (1, kX4_init_1), (4, kX4_init_4), (6, kX4_init_6), (9, kX4_init_9), (11, kX4_init_11), (14, kX4_init_14)])
def kX4_won_0 : List qIns := [(.iload_n 0, 1, []), (.iload_n 1, 1, []), (.if_icmp .gt 8, 3, [10]), (.iload_n 0, 1, []), (.ineg, 1, []), (.goto 6, 3, [13])]
def kX4_won_10 : List qIns := [(.iload_n 2, 1, []), (.iload_n 1, 1, []), (.isub, 1, []), (.nop, 0, [13])]
def kX4_won_13 : List qIns := [(.ireturn, 1, [0])]
def mX4_won : qMI := (yX4_won, cX4_won, 3, (some .int), 4, [1579, 262, 1578], 3, true, [(0, kX4_won_0), (10, kX4_won_10), (13, kX4_won_13)])
def kX4_isRest_0 : List qIns := [(.iconst 0, 1, [0]), (.istore 4, 2, []), (.nop, 0, [3])]
def kX4_isRest_3 : List qIns := [(.iload 4, 2, []), (.iload_n 3, 1, []), (.if_icmp .gt 45, 3, [51]), (.iload 4, 2, []), (.iload_n 1, 1, []), (.iload_n 2, 1, []), (.invokestatic 19, 3, [51, 1577, 3, 0, 0]), (.iload_n 0, 1, []), (.iload_n 1, 1, []), (.iload_n 2, 1, []), (.invokestatic 19, 3, [51, 1577, 3, 0, 0]), (.if_icmp .le 5, 3, [27]), (.iconst 0, 1, [0]), (.ireturn, 1, [1])]
def kX4_isRest_27 : List qIns := [(.iload 4, 2, []), (.iload_n 0, 1, []), (.iload_n 2, 1, []), (.invokestatic 19, 3, [51, 1577, 3, 0, 0]), (.iload_n 1, 1, []), (.iload_n 0, 1, []), (.iload_n 2, 1, []), (.invokestatic 19, 3, [51, 1577, 3, 0, 0]), (.if_icmp .le 5, 3, [45]), (.iconst 0, 1, [0]), (.ireturn, 1, [1])]
def kX4_isRest_45 : List qIns := [(.iinc 4 1, 3, [1]), (.goto (-45), 3, [3])]
def kX4_isRest_51 : List qIns := [(.iconst 1, 1, [1]), (.ireturn, 1, [1])]
def mX4_isRest : qMI := (yX4_isRest, cX4_isRest, 5, (some .boolean), 4, [1576, 262, 1575], 4, true, [(0, kX4_isRest_0), (3, kX4_isRest_3), (27, kX4_isRest_27), (45, kX4_isRest_45), (51, kX4_isRest_51)])
def kX4_howManyRests_0 : List qIns := [(.iconst 0, 1, [0]), (.istore_n 2, 1, []), (.iconst 0, 1, [0]), (.istore_n 3, 1, []), (.nop, 0, [4])]
def kX4_howManyRests_4 : List qIns := [(.iload_n 3, 1, []), (.iload_n 1, 1, []), (.if_icmp .gt 38, 3, [44]), (.iconst 0, 1, [0]), (.istore 4, 2, []), (.nop, 0, [12])]
def kX4_howManyRests_12 : List qIns := [(.iload 4, 2, []), (.iload_n 1, 1, []), (.if_icmp .gt 23, 3, [38]), (.iload_n 3, 1, []), (.iload 4, 2, []), (.iload_n 0, 1, []), (.iload_n 1, 1, []), (.invokestatic 23, 3, [52, 1574, 4, 0, 0]), (.ifCond .eq 6, 3, [32]), (.iinc 2 1, 3, [1]), (.nop, 0, [32])]
def kX4_howManyRests_32 : List qIns := [(.iinc 4 1, 3, [1]), (.goto (-23), 3, [12])]
def kX4_howManyRests_38 : List qIns := [(.iinc 3 1, 3, [1]), (.goto (-37), 3, [4])]
def kX4_howManyRests_44 : List qIns := [(.iload_n 2, 1, []), (.ireturn, 1, [0])]
def mX4_howManyRests : qMI := (yX4_howManyRests, cX4_howManyRests, 5, (some .int), 4, [1573, 262, 1572], 2, true, [(0, kX4_howManyRests_0), (4, kX4_howManyRests_4), (12, kX4_howManyRests_12), (32, kX4_howManyRests_32), (38, kX4_howManyRests_38), (44, kX4_howManyRests_44)])
def kX4_restOf_0 : List qIns := [(.iconst 0, 1, [0]), (.istore_n 3, 1, []), (.iconst 0, 1, [0]), (.istore 4, 2, []), (.nop, 0, [5])]
def kX4_restOf_5 : List qIns := [(.iload 4, 2, []), (.iload_n 1, 1, []), (.if_icmp .gt 54, 3, [62]), (.iconst 0, 1, [0]), (.istore 5, 2, []), (.nop, 0, [14])]
def kX4_restOf_14 : List qIns := [(.iload 5, 2, []), (.iload_n 1, 1, []), (.if_icmp .gt 39, 3, [56]), (.iload 4, 2, []), (.iload 5, 2, []), (.iload_n 0, 1, []), (.iload_n 1, 1, []), (.invokestatic 23, 3, [52, 1574, 4, 0, 0]), (.ifCond .eq 21, 3, [50]), (.iload_n 3, 1, []), (.iload_n 2, 1, []), (.if_icmp .ne 13, 3, [47]), (.iload 4, 2, []), (.iload_n 1, 1, []), (.iconst 1, 1, [1]), (.iadd, 1, []), (.imul, 1, []), (.iload 5, 2, []), (.iadd, 1, []), (.ireturn, 1, [0])]
def kX4_restOf_47 : List qIns := [(.iinc 3 1, 3, [1]), (.nop, 0, [50])]
def kX4_restOf_50 : List qIns := [(.iinc 5 1, 3, [1]), (.goto (-39), 3, [14])]
def kX4_restOf_56 : List qIns := [(.iinc 4 1, 3, [1]), (.goto (-54), 3, [5])]
def kX4_restOf_62 : List qIns := [(.iconst (-1), 1, []), (.ireturn, 1, [0])]
def mX4_restOf : qMI := (yX4_restOf, cX4_restOf, 6, (some .int), 4, [1586, 262, 1585], 3, true, [(0, kX4_restOf_0), (5, kX4_restOf_5), (14, kX4_restOf_14), (47, kX4_restOf_47), (50, kX4_restOf_50), (56, kX4_restOf_56), (62, kX4_restOf_62)])
def kX4_outcome_0 : List qIns := [(.aload_n 0, 1, []), (.getfield 9, 3, [4, 0, 465, 2]), (.aload_n 1, 1, []), (.invokevirtual 27, 3, [9, 1595, 2, 2, 2]), (.aload_n 0, 1, []), (.getfield 9, 3, [4, 0, 465, 2]), (.aload_n 0, 1, []), (.getfield 15, 3, [4, 1, 466, 2]), (.iconst 0, 1, [0]), (.iload_n 2, 1, []), (.invokestatic 33, 3, [57, 1596, 4, 0, 0]), (.ireturn, 1, [0])]
def mX4_outcome : qMI := (yX4_outcome, cX4_outcome, 3, (some .int), 4, [1594, 262, 1592, 1593], 2, false, [(0, kX4_outcome_0)])
def kX4_firstMove_0 : List qIns := [(.aload_n 0, 1, []), (.getfield 9, 3, [4, 0, 465, 2]), (.aload_n 1, 1, []), (.invokevirtual 27, 3, [9, 1595, 2, 2, 2]), (.ldc 37, 2, [1604, 1000000]), (.istore_n 3, 1, []), (.iconst (-1), 1, []), (.istore 4, 2, []), (.iconst 0, 1, [0]), (.istore 5, 2, []), (.nop, 0, [17])]
def kX4_firstMove_17 : List qIns := [(.iload 5, 2, []), (.aload_n 1, 1, []), (.getfield 38, 3, [1, 5, 323, 0]), (.if_icmp .ge 52, 3, [75]), (.aload_n 0, 1, []), (.getfield 9, 3, [4, 0, 465, 2]), (.getfield 42, 3, [1, 16, 352, 2]), (.iload 5, 2, []), (.iaload, 1, []), (.ifCond .ne 33, 3, [69]), (.aload_n 0, 1, []), (.getfield 9, 3, [4, 0, 465, 2]), (.aload_n 0, 1, []), (.getfield 15, 3, [4, 1, 466, 2]), (.iconst 0, 1, [0]), (.iload_n 2, 1, []), (.iload 5, 2, []), (.invokestatic 46, 3, [58, 1600, 5, 0, 0]), (.istore 6, 2, []), (.iload 6, 2, []), (.iload_n 3, 1, []), (.if_icmp .ge 10, 3, [69]), (.iload 6, 2, []), (.istore_n 3, 1, []), (.iload 5, 2, []), (.istore 4, 2, []), (.nop, 0, [69])]
def kX4_firstMove_69 : List qIns := [(.iinc 5 1, 3, [1]), (.goto (-55), 3, [17])]
def kX4_firstMove_75 : List qIns := [(.aload_n 0, 1, []), (.getfield 9, 3, [4, 0, 465, 2]), (.aload_n 0, 1, []), (.getfield 15, 3, [4, 1, 466, 2]), (.iconst 1, 1, [1]), (.iload_n 2, 1, []), (.invokestatic 33, 3, [57, 1596, 4, 0, 0]), (.iload_n 3, 1, []), (.if_icmp .ge 7, 3, [96]), (.iconst (-1), 1, []), (.goto 5, 3, [98])]
def kX4_firstMove_96 : List qIns := [(.iload 4, 2, []), (.nop, 0, [98])]
def kX4_firstMove_98 : List qIns := [(.ireturn, 1, [0])]
def mX4_firstMove : qMI := (yX4_firstMove, cX4_firstMove, 7, (some .int), 4, [1614, 262, 1612, 1613], 2, false, [(0, kX4_firstMove_0), (17, kX4_firstMove_17), (69, kX4_firstMove_69), (75, kX4_firstMove_75), (96, kX4_firstMove_96), (98, kX4_firstMove_98)])
def kX4_play_0 : List qIns := [(.iload_n 2, 1, []), (.iload_n 3, 1, []), (.if_icmp .ge 8, 3, [10]), (.iload_n 2, 1, []), (.iconst 3, 1, [3]), (.if_icmp .lt 9, 3, [16]), (.nop, 0, [10])]
def kX4_play_10 : List qIns := [(.aload_n 1, 1, []), (.aload_n 0, 1, []), (.invokevirtual 50, 3, [1, 1599, 2, 0, 1]), (.ireturn, 1, [0])]
def kX4_play_16 : List qIns := [(.aload_n 0, 1, []), (.aload_n 1, 1, []), (.iload_n 2, 1, []), (.iconst 1, 1, [1]), (.iadd, 1, []), (.iload_n 3, 1, []), (.invokestatic 33, 3, [57, 1596, 4, 0, 0]), (.istore 4, 2, []), (.iconst 0, 1, [0]), (.istore 5, 2, []), (.nop, 0, [30])]
def kX4_play_30 : List qIns := [(.iload 5, 2, []), (.aload_n 0, 1, []), (.getfield 38, 3, [1, 5, 323, 0]), (.if_icmp .ge 55, 3, [91]), (.aload_n 0, 1, []), (.getfield 42, 3, [1, 16, 352, 2]), (.iload 5, 2, []), (.iaload, 1, []), (.ifCond .ne 39, 3, [85]), (.aload_n 0, 1, []), (.aload_n 1, 1, []), (.iload_n 2, 1, []), (.iload_n 3, 1, []), (.iload 5, 2, []), (.invokestatic 46, 3, [58, 1600, 5, 0, 0]), (.istore 6, 2, []), (.iload_n 2, 1, []), (.iconst 2, 1, [2]), (.irem, 1, []), (.ifCond .ne 13, 3, [76]), (.iload 4, 2, []), (.iload 6, 2, []), (.invokestatic 56, 3, [1605, 1]), (.goto 10, 3, [83])]
def kX4_play_76 : List qIns := [(.iload 4, 2, []), (.iload 6, 2, []), (.invokestatic 62, 3, [1606, 0]), (.nop, 0, [83])]
def kX4_play_83 : List qIns := [(.istore 4, 2, []), (.nop, 0, [85])]
def kX4_play_85 : List qIns := [(.iinc 5 1, 3, [1]), (.goto (-58), 3, [30])]
def kX4_play_91 : List qIns := [(.iload 4, 2, []), (.ireturn, 1, [0])]
def mX4_play : qMI := (yX4_play, cX4_play, 7, (some .int), 4, [1598, 262, 1597], 4, true, [(0, kX4_play_0), (10, kX4_play_10), (16, kX4_play_16), (30, kX4_play_30), (76, kX4_play_76), (83, kX4_play_83), (85, kX4_play_85), (91, kX4_play_91)])
def kX4_playedOn_0 : List qIns := [(.aload_n 0, 1, []), (.iload 4, 2, []), (.invokevirtual 65, 3, [11, 1603, 2, 0, 2]), (.ifCond .ne 6, 3, [12]), (.ldc 37, 2, [1604, 1000000]), (.ireturn, 1, [0])]
def kX4_playedOn_12 : List qIns := [(.aload_n 0, 1, []), (.getfield 69, 3, [1, 15, 347, 2]), (.iload 4, 2, []), (.iaload, 1, []), (.istore 5, 2, []), (.aload_n 0, 1, []), (.getfield 42, 3, [1, 16, 352, 2]), (.iload 4, 2, []), (.iaload, 1, []), (.istore 6, 2, []), (.iload_n 2, 1, []), (.iconst 2, 1, [2]), (.irem, 1, []), (.ifCond .ne 14, 3, [47]), (.aload_n 0, 1, []), (.getfield 42, 3, [1, 16, 352, 2]), (.iload 4, 2, []), (.iconst 1, 1, [1]), (.iastore, 1, []), (.goto 20, 3, [64])]
def kX4_playedOn_47 : List qIns := [(.aload_n 0, 1, []), (.getfield 69, 3, [1, 15, 347, 2]), (.iload 4, 2, []), (.bipush 99, 2, [99]), (.iload 5, 2, []), (.bipush 9, 2, [9]), (.iadd, 1, []), (.invokestatic 56, 3, [1605, 1]), (.iastore, 1, []), (.nop, 0, [64])]
def kX4_playedOn_64 : List qIns := [(.aload_n 0, 1, []), (.aload_n 1, 1, []), (.iload_n 2, 1, []), (.iconst 1, 1, [1]), (.iadd, 1, []), (.iload_n 3, 1, []), (.invokestatic 33, 3, [57, 1596, 4, 0, 0]), (.istore 7, 2, []), (.aload_n 0, 1, []), (.getfield 69, 3, [1, 15, 347, 2]), (.iload 4, 2, []), (.iload 5, 2, []), (.iastore, 1, []), (.aload_n 0, 1, []), (.getfield 42, 3, [1, 16, 352, 2]), (.iload 4, 2, []), (.iload 6, 2, []), (.iastore, 1, []), (.iload 7, 2, []), (.ireturn, 1, [0])]
def mX4_playedOn : qMI := (yX4_playedOn, cX4_playedOn, 8, (some .int), 4, [1602, 262, 1601], 5, true, [(0, kX4_playedOn_0), (12, kX4_playedOn_12), (47, kX4_playedOn_47), (64, kX4_playedOn_64)])
def kX4_nightsWithFew_0 : List qIns := [(.lconst 0, 1, []), (.lstore_n 3, 1, []), (.lconst 1, 1, []), (.lstore 5, 2, []), (.iconst 0, 1, [0]), (.istore 7, 2, []), (.nop, 0, [8])]
def kX4_nightsWithFew_8 : List qIns := [(.iload 7, 2, []), (.iload_n 0, 1, []), (.if_icmp .gt 57, 3, [68]), (.iload 7, 2, []), (.iload_n 1, 1, []), (.if_icmp .gt 51, 3, [68]), (.lload_n 3, 1, []), (.lload 5, 2, []), (.iload_n 2, 1, []), (.i2l, 1, []), (.iload_n 0, 1, []), (.iload 7, 2, []), (.isub, 1, []), (.invokestatic 72, 3, [60, 1623, 2, 1, 0]), (.lmul, 1, []), (.bipush 16, 2, [16]), (.iload_n 2, 1, []), (.isub, 1, []), (.i2l, 1, []), (.iload 7, 2, []), (.invokestatic 72, 3, [60, 1623, 2, 1, 0]), (.lmul, 1, []), (.ladd, 1, []), (.lstore_n 3, 1, []), (.lload 5, 2, []), (.iload_n 0, 1, []), (.iload 7, 2, []), (.isub, 1, []), (.i2l, 1, []), (.lmul, 1, []), (.iload 7, 2, []), (.iconst 1, 1, [1]), (.iadd, 1, []), (.i2l, 1, []), (.ldiv, 1, []), (.lstore 5, 2, []), (.iinc 7 1, 3, [1]), (.goto (-57), 3, [8])]
def kX4_nightsWithFew_68 : List qIns := [(.lload_n 3, 1, []), (.lreturn, 1, [])]
def mX4_nightsWithFew : qMI := (yX4_nightsWithFew, cX4_nightsWithFew, 8, (some .long), 4, [1622, 262, 1621], 3, true, [(0, kX4_nightsWithFew_0), (8, kX4_nightsWithFew_8), (68, kX4_nightsWithFew_68)])
def kX4_power_0 : List qIns := [(.lconst 1, 1, []), (.lstore_n 3, 1, []), (.iconst 0, 1, [0]), (.istore 5, 2, []), (.nop, 0, [5])]
def kX4_power_5 : List qIns := [(.iload 5, 2, []), (.iload_n 2, 1, []), (.if_icmp .ge 13, 3, [21]), (.lload_n 3, 1, []), (.lload_n 0, 1, []), (.lmul, 1, []), (.lstore_n 3, 1, []), (.iinc 5 1, 3, [1]), (.goto (-13), 3, [5])]
def kX4_power_21 : List qIns := [(.lload_n 3, 1, []), (.lreturn, 1, [])]
def mX4_power : qMI := (yX4_power, cX4_power, 6, (some .long), 4, [1625, 262, 1624], 2, true, [(0, kX4_power_0), (5, kX4_power_5), (21, kX4_power_21)])
def kX4_commonDivisor_0 : List qIns := [(.lload_n 0, 1, []), (.lstore 4, 2, []), (.lload_n 2, 1, []), (.lstore 6, 2, []), (.iconst 0, 1, [0]), (.istore 8, 2, []), (.nop, 0, [9])]
def kX4_commonDivisor_9 : List qIns := [(.iload 8, 2, []), (.sipush 200, 3, [200]), (.if_icmp .ge 31, 3, [45]), (.lload 6, 2, []), (.lconst 0, 1, []), (.lcmp, 1, []), (.ifCond .eq 24, 3, [45]), (.lload 4, 2, []), (.lload 6, 2, []), (.lrem, 1, []), (.lstore 9, 2, []), (.lload 6, 2, []), (.lstore 4, 2, []), (.lload 9, 2, []), (.lstore 6, 2, []), (.iinc 8 1, 3, [1]), (.goto (-33), 3, [9])]
def kX4_commonDivisor_45 : List qIns := [(.lload 4, 2, []), (.lreturn, 1, [])]
def mX4_commonDivisor : qMI := (yX4_commonDivisor, cX4_commonDivisor, 11, (some .long), 4, [1633, 262, 1632], 2, true, [(0, kX4_commonDivisor_0), (9, kX4_commonDivisor_9), (45, kX4_commonDivisor_45)])
def kX5_init_0 : List qIns := [(.aload_n 0, 1, []), (.nop, 0, [1])]
def kX5_init_1 : List qIns := [(.invokespecial 3, 3, [999, 705, 1, 2]), (.nop, 0, [4])]
def kX5_init_4 : List qIns := [(.aload_n 0, 1, []), (.iconst 0, 1, [0]), (.putfield 9, 3, [5, 0, 706, 0]), (.aload_n 0, 1, []), (.iconst 0, 1, [0]), (.putfield 15, 3, [5, 1, 708, 0]), (.aload_n 0, 1, []), (.iconst 0, 1, [0]), (.putfield 18, 3, [5, 2, 710, 0]), (.aload_n 0, 1, []), (.iconst 0, 1, [0]), (.putfield 21, 3, [5, 3, 712, 0]), (.aload_n 0, 1, []), (.iconst 0, 1, [0]), (.putfield 24, 3, [5, 4, 714, 0]), (.aload_n 0, 1, []), (.iconst 0, 1, [0]), (.putfield 27, 3, [5, 5, 716, 3]), (.aload_n 0, 1, []), (.iconst 0, 1, [0]), (.putfield 31, 3, [5, 6, 718, 0]), (.aload_n 0, 1, []), (.bipush 60, 2, [60]), (.nop, 0, [42])]
def kX5_init_42 : List qIns := [(.newarray .int, 2, []), (.nop, 0, [44])]
def kX5_init_44 : List qIns := [(.putfield 34, 3, [5, 7, 719, 2]), (.nop, 0, [47])]
def kX5_init_47 : List qIns := [(.return_, 1, [])]
def mX5_init : qMI := (yX5_init, cX5_init, 1, none, 5, [704, 272, 703, 0], 0, false, [(0, kX5_init_0), (1, kX5_init_1), (4, kX5_init_4), (42, kX5_init_42), (44, kX5_init_44), (47, kX5_init_47)])
def kX5_run_0 : List qIns := [(.aload_n 0, 1, []), (.iconst 0, 1, [0]), (.putfield 9, 3, [5, 0, 706, 0]), (.aload_n 0, 1, []), (.iconst 0, 1, [0]), (.putfield 15, 3, [5, 1, 708, 0]), (.aload_n 0, 1, []), (.iconst 0, 1, [0]), (.putfield 18, 3, [5, 2, 710, 0]), (.aload_n 0, 1, []), (.iconst 0, 1, [0]), (.putfield 21, 3, [5, 3, 712, 0]), (.aload_n 0, 1, []), (.iconst 0, 1, [0]), (.putfield 24, 3, [5, 4, 714, 0]), (.aload_n 0, 1, []), (.iconst 0, 1, [0]), (.putfield 27, 3, [5, 5, 716, 3]), (.aload_n 0, 1, []), (.iload_n 3, 1, []), (.putfield 31, 3, [5, 6, 718, 0]), (.iconst 0, 1, [0]), (.istore 4, 2, []), (.iconst 0, 1, [0]), (.istore 5, 2, []), (.nop, 0, [41])]
def kX5_run_41 : List qIns := [(.iload 5, 2, []), (.ldc 38, 2, [1651, 1000000]), (.if_icmp .ge 83, 3, [128]), (.aload_n 2, 1, []), (.iload 4, 2, []), (.invokevirtual 39, 3, [122, 1652, 2, 0, 10]), (.ifCond .eq 74, 3, [128]), (.aload_n 2, 1, []), (.getfield 45, 3, [9, 3, 658, 2]), (.iload 4, 2, []), (.iaload, 1, []), (.bipush 20, 2, [20]), (.if_icmp .ne 15, 3, [81]), (.aload_n 0, 1, []), (.aload_n 2, 1, []), (.iload 4, 2, []), (.invokevirtual 48, 3, [64, 1653, 3, 0, 6]), (.istore 4, 2, []), (.goto 44, 3, [122])]
def kX5_run_81 : List qIns := [(.aload_n 0, 1, []), (.getfield 9, 3, [5, 0, 706, 0]), (.sipush 300, 3, [300]), (.if_icmp .lt 14, 3, [102]), (.aload_n 0, 1, []), (.iconst 1, 1, [1]), (.putfield 27, 3, [5, 5, 716, 3]), (.iconst (-1), 1, []), (.istore 4, 2, []), (.goto 23, 3, [122])]
def kX5_run_102 : List qIns := [(.aload_n 0, 1, []), (.dup, 1, []), (.getfield 9, 3, [5, 0, 706, 0]), (.iconst 1, 1, [1]), (.iadd, 1, []), (.putfield 9, 3, [5, 0, 706, 0]), (.aload_n 0, 1, []), (.aload_n 1, 1, []), (.aload_n 2, 1, []), (.iload 4, 2, []), (.invokevirtual 52, 3, [65, 1657, 4, 0, 6]), (.istore 4, 2, []), (.nop, 0, [122])]
def kX5_run_122 : List qIns := [(.iinc 5 1, 3, [1]), (.goto (-84), 3, [41])]
def kX5_run_128 : List qIns := [(.return_, 1, [])]
def mX5_run : qMI := (yX5_run, cX5_run, 6, none, 5, [1650, 272, 1648, 1649], 3, false, [(0, kX5_run_0), (41, kX5_run_41), (81, kX5_run_81), (102, kX5_run_102), (122, kX5_run_122), (128, kX5_run_128)])
def kX5_behindEnd_0 : List qIns := [(.aload_n 1, 1, []), (.iload_n 2, 1, []), (.invokevirtual 39, 3, [122, 1652, 2, 0, 10]), (.ifCond .eq 12, 3, [17]), (.aload_n 1, 1, []), (.getfield 56, 3, [9, 7, 666, 2]), (.iload_n 2, 1, []), (.iaload, 1, []), (.goto 4, 3, [18])]
def kX5_behindEnd_17 : List qIns := [(.iconst (-1), 1, []), (.nop, 0, [18])]
def kX5_behindEnd_18 : List qIns := [(.istore_n 3, 1, []), (.aload_n 1, 1, []), (.iload_n 3, 1, []), (.invokevirtual 39, 3, [122, 1652, 2, 0, 10]), (.ifCond .eq 14, 3, [38]), (.aload_n 1, 1, []), (.getfield 45, 3, [9, 3, 658, 2]), (.iload_n 3, 1, []), (.iaload, 1, []), (.bipush 19, 2, [19]), (.if_icmp .eq 7, 3, [42]), (.nop, 0, [38])]
def kX5_behindEnd_38 : List qIns := [(.iload_n 2, 1, []), (.iconst 1, 1, [1]), (.iadd, 1, []), (.ireturn, 1, [0])]
def kX5_behindEnd_42 : List qIns := [(.aload_n 0, 1, []), (.getfield 34, 3, [5, 7, 719, 2]), (.iload_n 3, 1, []), (.dup2, 1, []), (.iaload, 1, []), (.iconst 1, 1, [1]), (.isub, 1, []), (.iastore, 1, []), (.aload_n 0, 1, []), (.getfield 34, 3, [5, 7, 719, 2]), (.iload_n 3, 1, []), (.iaload, 1, []), (.ifCond .le 9, 3, [67]), (.iload_n 3, 1, []), (.iconst 1, 1, [1]), (.iadd, 1, []), (.goto 6, 3, [70])]
def kX5_behindEnd_67 : List qIns := [(.iload_n 2, 1, []), (.iconst 1, 1, [1]), (.iadd, 1, []), (.nop, 0, [70])]
def kX5_behindEnd_70 : List qIns := [(.ireturn, 1, [0])]
def mX5_behindEnd : qMI := (yX5_behindEnd, cX5_behindEnd, 4, (some .int), 5, [1656, 272, 1655, 33], 2, false, [(0, kX5_behindEnd_0), (17, kX5_behindEnd_17), (18, kX5_behindEnd_18), (38, kX5_behindEnd_38), (42, kX5_behindEnd_42), (67, kX5_behindEnd_67), (70, kX5_behindEnd_70)])
def kX5_behindStep_0 : List qIns := [(.aload_n 2, 1, []), (.iload_n 3, 1, []), (.invokevirtual 39, 3, [122, 1652, 2, 0, 10]), (.ifCond .ne 5, 3, [10]), (.iconst (-1), 1, []), (.ireturn, 1, [0])]
def kX5_behindStep_10 : List qIns := [(.aload_n 2, 1, []), (.getfield 59, 3, [9, 4, 660, 2]), (.iload_n 3, 1, []), (.iaload, 1, []), (.istore 4, 2, []), (.aload_n 2, 1, []), (.getfield 62, 3, [9, 5, 662, 2]), (.iload_n 3, 1, []), (.iaload, 1, []), (.istore 5, 2, []), (.aload_n 2, 1, []), (.getfield 65, 3, [9, 6, 664, 2]), (.iload_n 3, 1, []), (.iaload, 1, []), (.istore 6, 2, []), (.aload_n 2, 1, []), (.getfield 45, 3, [9, 3, 658, 2]), (.iload_n 3, 1, []), (.iaload, 1, []), (.tableswitch 208 8 21 #[137, 208, 114, 127, 154, 183, 197, 86, 208, 208, 208, 74, 208, 72], 72, [248, 177, 248, 154, 167, 194, 223, 237, 126, 248, 248, 248, 114, 248, 112])]
def kX5_behindStep_112 : List qIns := [(.iconst (-1), 1, []), (.ireturn, 1, [0])]
def kX5_behindStep_114 : List qIns := [(.aload_n 0, 1, []), (.getfield 34, 3, [5, 7, 719, 2]), (.iload_n 3, 1, []), (.iload 4, 2, []), (.iastore, 1, []), (.iload_n 3, 1, []), (.iconst 1, 1, [1]), (.iadd, 1, []), (.ireturn, 1, [0])]
def kX5_behindStep_126 : List qIns := [(.aload_n 1, 1, []), (.iload 4, 2, []), (.iload 5, 2, []), (.iload 6, 2, []), (.invokestatic 68, 3, [67, 1661, 4, 0, 0]), (.ifCond .eq 9, 3, [145]), (.iload_n 3, 1, []), (.iconst 1, 1, [1]), (.iadd, 1, []), (.goto 11, 3, [153])]
def kX5_behindStep_145 : List qIns := [(.aload_n 2, 1, []), (.getfield 56, 3, [9, 7, 666, 2]), (.iload_n 3, 1, []), (.iaload, 1, []), (.iconst 1, 1, [1]), (.iadd, 1, []), (.nop, 0, [153])]
def kX5_behindStep_153 : List qIns := [(.ireturn, 1, [0])]
def kX5_behindStep_154 : List qIns := [(.aload_n 0, 1, []), (.iload_n 3, 1, []), (.aload_n 0, 1, []), (.aload_n 1, 1, []), (.iload 4, 2, []), (.invokevirtual 72, 3, [68, 1668, 3, 0, 6]), (.invokevirtual 76, 3, [66, 1673, 3, 0, 6]), (.ireturn, 1, [0])]
def kX5_behindStep_167 : List qIns := [(.aload_n 0, 1, []), (.iload_n 3, 1, []), (.aload_n 1, 1, []), (.invokestatic 80, 3, [69, 1677, 1, 0, 0]), (.invokevirtual 76, 3, [66, 1673, 3, 0, 6]), (.ireturn, 1, [0])]
def kX5_behindStep_177 : List qIns := [(.aload_n 0, 1, []), (.iload_n 3, 1, []), (.aload_n 0, 1, []), (.aload_n 1, 1, []), (.iload 4, 2, []), (.iload 5, 2, []), (.iload 6, 2, []), (.invokevirtual 84, 3, [70, 1681, 5, 0, 6]), (.invokevirtual 76, 3, [66, 1673, 3, 0, 6]), (.ireturn, 1, [0])]
def kX5_behindStep_194 : List qIns := [(.aload_n 0, 1, []), (.iload_n 3, 1, []), (.aload_n 1, 1, []), (.iload 4, 2, []), (.invokevirtual 87, 3, [10, 1664, 2, 0, 2]), (.ifCond .eq 16, 3, [218]), (.aload_n 1, 1, []), (.iload 4, 2, []), (.invokevirtual 92, 3, [31, 1686, 2, 0, 2]), (.ifCond .le 7, 3, [218]), (.iconst 1, 1, [1]), (.goto 4, 3, [219])]
def kX5_behindStep_218 : List qIns := [(.iconst 0, 1, [0]), (.nop, 0, [219])]
def kX5_behindStep_219 : List qIns := [(.invokevirtual 76, 3, [66, 1673, 3, 0, 6]), (.ireturn, 1, [0])]
def kX5_behindStep_223 : List qIns := [(.aload_n 0, 1, []), (.iload_n 3, 1, []), (.aload_n 1, 1, []), (.iload 4, 2, []), (.iload 5, 2, []), (.invokestatic 96, 3, [71, 1687, 3, 0, 0]), (.invokevirtual 76, 3, [66, 1673, 3, 0, 6]), (.ireturn, 1, [0])]
def kX5_behindStep_237 : List qIns := [(.aload_n 0, 1, []), (.iload_n 3, 1, []), (.aload_n 0, 1, []), (.aload_n 1, 1, []), (.invokevirtual 100, 3, [72, 1691, 2, 0, 6]), (.invokevirtual 76, 3, [66, 1673, 3, 0, 6]), (.ireturn, 1, [0])]
def kX5_behindStep_248 : List qIns := [(.iconst (-1), 1, []), (.ireturn, 1, [0])]
def mX5_behindStep : qMI := (yX5_behindStep, cX5_behindStep, 7, (some .int), 5, [1660, 272, 1659, 34], 3, false, [(0, kX5_behindStep_0), (10, kX5_behindStep_10), (112, kX5_behindStep_112), (114, kX5_behindStep_114), (126, kX5_behindStep_126), (145, kX5_behindStep_145), (153, kX5_behindStep_153), (154, kX5_behindStep_154), (167, kX5_behindStep_167), (177, kX5_behindStep_177), (194, kX5_behindStep_194), (218, kX5_behindStep_218), (219, kX5_behindStep_219), (223, kX5_behindStep_223), (237, kX5_behindStep_237), (248, kX5_behindStep_248)])
def kX5_behind_0 : List qIns := [(.iload_n 2, 1, []), (.ifCond .ne 13, 3, [14]), (.aload_n 0, 1, []), (.dup, 1, []), (.getfield 15, 3, [5, 1, 708, 0]), (.iconst 1, 1, [1]), (.iadd, 1, []), (.putfield 15, 3, [5, 1, 708, 0]), (.nop, 0, [14])]
def kX5_behind_14 : List qIns := [(.iload_n 1, 1, []), (.iconst 1, 1, [1]), (.iadd, 1, []), (.ireturn, 1, [0])]
def mX5_behind : qMI := (yX5_behind, cX5_behind, 3, (some .int), 5, [1676, 272, 1675, 36], 2, false, [(0, kX5_behind_0), (14, kX5_behind_14)])
def kX5_holds_0 : List qIns := [(.iload_n 1, 1, []), (.bipush 16, 2, [16]), (.if_icmp .ne 25, 3, [28]), (.aload_n 0, 1, []), (.iload_n 2, 1, []), (.invokevirtual 87, 3, [10, 1664, 2, 0, 2]), (.ifCond .eq 15, 3, [26]), (.aload_n 0, 1, []), (.iload_n 2, 1, []), (.invokevirtual 103, 3, [21, 1665, 2, 0, 2]), (.ifCond .eq 7, 3, [26]), (.iconst 1, 1, [1]), (.goto 4, 3, [27])]
def kX5_holds_26 : List qIns := [(.iconst 0, 1, [0]), (.nop, 0, [27])]
def kX5_holds_27 : List qIns := [(.ireturn, 1, [1])]
def kX5_holds_28 : List qIns := [(.iload_n 1, 1, []), (.bipush 17, 2, [17]), (.if_icmp .ne 13, 3, [44]), (.aload_n 0, 1, []), (.invokevirtual 106, 3, [23, 1666, 1, 0, 2]), (.invokestatic 110, 3, [368, 1667, 1, 0, 0]), (.goto 7, 3, [48])]
def kX5_holds_44 : List qIns := [(.aload_n 0, 1, []), (.getfield 115, 3, [1, 3, 310, 0]), (.nop, 0, [48])]
def kX5_holds_48 : List qIns := [(.istore 4, 2, []), (.iload_n 2, 1, []), (.bipush 60, 2, [60]), (.if_icmp .ne 15, 3, [68]), (.iload 4, 2, []), (.iload_n 3, 1, []), (.if_icmp .ge 7, 3, [66]), (.iconst 1, 1, [1]), (.goto 4, 3, [67])]
def kX5_holds_66 : List qIns := [(.iconst 0, 1, [0]), (.nop, 0, [67])]
def kX5_holds_67 : List qIns := [(.ireturn, 1, [1])]
def kX5_holds_68 : List qIns := [(.iload_n 2, 1, []), (.bipush 62, 2, [62]), (.if_icmp .ne 17, 3, [88]), (.iload 4, 2, []), (.iload_n 3, 1, []), (.if_icmp .le 7, 3, [84]), (.iconst 1, 1, [1]), (.goto 18, 3, [99])]
def kX5_holds_84 : List qIns := [(.iconst 0, 1, [0]), (.goto 14, 3, [99])]
def kX5_holds_88 : List qIns := [(.iload 4, 2, []), (.iload_n 3, 1, []), (.if_icmp .ne 7, 3, [98]), (.iconst 1, 1, [1]), (.goto 4, 3, [99])]
def kX5_holds_98 : List qIns := [(.iconst 0, 1, [0]), (.nop, 0, [99])]
def kX5_holds_99 : List qIns := [(.ireturn, 1, [1])]
def mX5_holds : qMI := (yX5_holds, cX5_holds, 5, (some .boolean), 5, [1663, 272, 1662], 4, true, [(0, kX5_holds_0), (26, kX5_holds_26), (27, kX5_holds_27), (28, kX5_holds_28), (44, kX5_holds_44), (48, kX5_holds_48), (66, kX5_holds_66), (67, kX5_holds_67), (68, kX5_holds_68), (84, kX5_holds_84), (88, kX5_holds_88), (98, kX5_holds_98), (99, kX5_holds_99)])
def kX5_letPass_0 : List qIns := [(.aload_n 1, 1, []), (.getfield 115, 3, [1, 3, 310, 0]), (.iload_n 2, 1, []), (.iadd, 1, []), (.sipush 9999, 3, [9999]), (.if_icmp .le 5, 3, [14]), (.iconst 0, 1, [0]), (.ireturn, 1, [1])]
def kX5_letPass_14 : List qIns := [(.aload_n 0, 1, []), (.dup, 1, []), (.getfield 21, 3, [5, 3, 712, 0]), (.aload_n 1, 1, []), (.iload_n 2, 1, []), (.invokevirtual 118, 3, [30, 1672, 2, 0, 2]), (.iadd, 1, []), (.putfield 21, 3, [5, 3, 712, 0]), (.aload_n 0, 1, []), (.dup, 1, []), (.getfield 18, 3, [5, 2, 710, 0]), (.iload_n 2, 1, []), (.iadd, 1, []), (.putfield 18, 3, [5, 2, 710, 0]), (.iconst 1, 1, [1]), (.ireturn, 1, [1])]
def mX5_letPass : qMI := (yX5_letPass, cX5_letPass, 3, (some .boolean), 5, [1671, 272, 1670, 35], 2, false, [(0, kX5_letPass_0), (14, kX5_letPass_14)])
def kX5_newDay_0 : List qIns := [(.aload_n 0, 1, []), (.getfield 115, 3, [1, 3, 310, 0]), (.istore_n 1, 1, []), (.aload_n 0, 1, []), (.invokevirtual 121, 3, [32, 1680, 1, 0, 2]), (.ifCond .gt 7, 3, [16]), (.iload_n 1, 1, []), (.ifCond .le 7, 3, [20]), (.nop, 0, [16])]
def kX5_newDay_16 : List qIns := [(.iconst 1, 1, [1]), (.goto 4, 3, [21])]
def kX5_newDay_20 : List qIns := [(.iconst 0, 1, [0]), (.nop, 0, [21])]
def kX5_newDay_21 : List qIns := [(.ireturn, 1, [1])]
def mX5_newDay : qMI := (yX5_newDay, cX5_newDay, 2, (some .boolean), 5, [1679, 272, 1678], 1, true, [(0, kX5_newDay_0), (16, kX5_newDay_16), (20, kX5_newDay_20), (21, kX5_newDay_21)])
def kX5_fallOut_0 : List qIns := [(.aload_n 1, 1, []), (.iload_n 2, 1, []), (.invokevirtual 87, 3, [10, 1664, 2, 0, 2]), (.ifCond .eq 15, 3, [20]), (.aload_n 1, 1, []), (.iload_n 3, 1, []), (.invokevirtual 87, 3, [10, 1664, 2, 0, 2]), (.ifCond .eq 7, 3, [20]), (.iconst 1, 1, [1]), (.goto 4, 3, [21])]
def kX5_fallOut_20 : List qIns := [(.iconst 0, 1, [0]), (.nop, 0, [21])]
def kX5_fallOut_21 : List qIns := [(.istore 5, 2, []), (.iload 5, 2, []), (.ifCond .eq 20, 3, [45]), (.iload_n 2, 1, []), (.iload_n 3, 1, []), (.if_icmp .eq 15, 3, [45]), (.aload_n 1, 1, []), (.iload_n 2, 1, []), (.iload_n 3, 1, []), (.iload 4, 2, []), (.invokevirtual 124, 3, [15, 1685, 4, 0, 2]), (.iconst (-1), 1, []), (.if_icmp .ne 5, 3, [47]), (.nop, 0, [45])]
def kX5_fallOut_45 : List qIns := [(.iconst 0, 1, [0]), (.ireturn, 1, [1])]
def kX5_fallOut_47 : List qIns := [(.aload_n 0, 1, []), (.dup, 1, []), (.getfield 24, 3, [5, 4, 714, 0]), (.iconst 1, 1, [1]), (.iadd, 1, []), (.putfield 24, 3, [5, 4, 714, 0]), (.iconst 1, 1, [1]), (.ireturn, 1, [1])]
def mX5_fallOut : qMI := (yX5_fallOut, cX5_fallOut, 6, (some .boolean), 5, [1684, 272, 1683, 37], 4, false, [(0, kX5_fallOut_0), (20, kX5_fallOut_20), (21, kX5_fallOut_21), (45, kX5_fallOut_45), (47, kX5_fallOut_47)])
def kX5_moveTo_0 : List qIns := [(.aload_n 0, 1, []), (.iload_n 1, 1, []), (.invokevirtual 87, 3, [10, 1664, 2, 0, 2]), (.ifCond .eq 13, 3, [18]), (.aload_n 0, 1, []), (.getfield 128, 3, [1, 7, 327, 2]), (.iload_n 1, 1, []), (.iaload, 1, []), (.iload_n 2, 1, []), (.if_icmp .ne 5, 3, [20]), (.nop, 0, [18])]
def kX5_moveTo_18 : List qIns := [(.iconst 0, 1, [0]), (.ireturn, 1, [1])]
def kX5_moveTo_20 : List qIns := [(.aload_n 0, 1, []), (.iload_n 1, 1, []), (.iload_n 2, 1, []), (.invokevirtual 131, 3, [16, 1690, 3, 2, 2]), (.iconst 1, 1, [1]), (.ireturn, 1, [1])]
def mX5_moveTo : qMI := (yX5_moveTo, cX5_moveTo, 3, (some .boolean), 5, [1689, 272, 1688], 3, true, [(0, kX5_moveTo_0), (18, kX5_moveTo_18), (20, kX5_moveTo_20)])
def kX5_drawQuarrel_0 : List qIns := [(.aload_n 1, 1, []), (.getfield 135, 3, [1, 4, 317, 0]), (.iconst 1, 1, [1]), (.if_icmp .ge 5, 3, [10]), (.iconst 0, 1, [0]), (.ireturn, 1, [1])]
def kX5_drawQuarrel_10 : List qIns := [(.aload_n 0, 1, []), (.aload_n 1, 1, []), (.getfield 135, 3, [1, 4, 317, 0]), (.invokevirtual 138, 3, [73, 1695, 2, 0, 6]), (.istore_n 2, 1, []), (.aload_n 0, 1, []), (.aload_n 1, 1, []), (.getfield 135, 3, [1, 4, 317, 0]), (.invokevirtual 138, 3, [73, 1695, 2, 0, 6]), (.istore_n 3, 1, []), (.aload_n 0, 1, []), (.bipush 20, 2, [20]), (.invokevirtual 138, 3, [73, 1695, 2, 0, 6]), (.istore 4, 2, []), (.aload_n 0, 1, []), (.aload_n 1, 1, []), (.iload_n 2, 1, []), (.iload_n 3, 1, []), (.iload 4, 2, []), (.invokevirtual 84, 3, [70, 1681, 5, 0, 6]), (.ireturn, 1, [1])]
def mX5_drawQuarrel : qMI := (yX5_drawQuarrel, cX5_drawQuarrel, 5, (some .boolean), 5, [1694, 272, 1693, 38], 1, false, [(0, kX5_drawQuarrel_0), (10, kX5_drawQuarrel_10)])
def kX5_drawBy_0 : List qIns := [(.aload_n 0, 1, []), (.aload_n 0, 1, []), (.getfield 31, 3, [5, 6, 718, 0]), (.sipush 3187, 3, [3187]), (.imul, 1, []), (.sipush 11411, 3, [11411]), (.iadd, 1, []), (.ldc 141, 2, [1699, 65536]), (.irem, 1, []), (.putfield 31, 3, [5, 6, 718, 0]), (.iload_n 1, 1, []), (.iconst 1, 1, [1]), (.if_icmp .ge 7, 3, [28]), (.iconst 0, 1, [0]), (.goto 12, 3, [37])]
def kX5_drawBy_28 : List qIns := [(.aload_n 0, 1, []), (.getfield 31, 3, [5, 6, 718, 0]), (.bipush 8, 2, [8]), (.idiv, 1, []), (.iload_n 1, 1, []), (.irem, 1, []), (.nop, 0, [37])]
def kX5_drawBy_37 : List qIns := [(.ireturn, 1, [0])]
def mX5_drawBy : qMI := (yX5_drawBy, cX5_drawBy, 2, (some .int), 5, [1698, 272, 1697, 39], 1, false, [(0, kX5_drawBy_0), (28, kX5_drawBy_28), (37, kX5_drawBy_37)])
def kX6_init_0 : List qIns := [(.aload_n 0, 1, []), (.nop, 0, [1])]
def kX6_init_1 : List qIns := [(.invokespecial 3, 3, [999, 422, 1, 2]), (.nop, 0, [4])]
def kX6_init_4 : List qIns := [(.aload_n 0, 1, []), (.iconst 0, 1, [0]), (.putfield 9, 3, [6, 2, 425, 0]), (.aload_n 0, 1, []), (.aload_n 1, 1, []), (.nop, 0, [11])]
def kX6_init_11 : List qIns := [(.putfield 15, 3, [6, 0, 423, 2]), (.nop, 0, [14])]
def kX6_init_14 : List qIns := [(.aload_n 0, 1, []), (.aload_n 2, 1, []), (.nop, 0, [16])]
def kX6_init_16 : List qIns := [(.putfield 19, 3, [6, 1, 424, 2]), (.nop, 0, [19])]
def kX6_init_19 : List qIns := [(.return_, 1, [])]
def mX6_init : qMI := (yX6_init, cX6_init, 3, none, 6, [421, 260, 420, 0], 2, false, [(0, kX6_init_0), (1, kX6_init_1), (4, kX6_init_4), (11, kX6_init_11), (14, kX6_init_14), (16, kX6_init_16), (19, kX6_init_19)])
def kX6_quickestSet_0 : List qIns := [(.iconst 0, 1, [0]), (.istore_n 3, 1, []), (.aload_n 0, 1, []), (.ldc 23, 2, [1405, 1000000]), (.putfield 9, 3, [6, 2, 425, 0]), (.iconst 0, 1, [0]), (.istore 4, 2, []), (.nop, 0, [11])]
def kX6_quickestSet_11 : List qIns := [(.iload 4, 2, []), (.iconst 1, 1, [1]), (.aload_n 1, 1, []), (.getfield 24, 3, [1, 4, 312, 0]), (.ishl, 1, []), (.if_icmp .ge 45, 3, [64]), (.iload 4, 2, []), (.invokestatic 29, 3, [368, 1406, 1, 0, 0]), (.iload_n 2, 1, []), (.if_icmp .ne 30, 3, [58]), (.aload_n 0, 1, []), (.aload_n 1, 1, []), (.iload 4, 2, []), (.invokevirtual 35, 3, [76, 1407, 3, 0, 7]), (.istore 5, 2, []), (.iload 5, 2, []), (.aload_n 0, 1, []), (.getfield 9, 3, [6, 2, 425, 0]), (.if_icmp .ge 12, 3, [58]), (.aload_n 0, 1, []), (.iload 5, 2, []), (.putfield 9, 3, [6, 2, 425, 0]), (.iload 4, 2, []), (.istore_n 3, 1, []), (.nop, 0, [58])]
def kX6_quickestSet_58 : List qIns := [(.iinc 4 1, 3, [1]), (.goto (-50), 3, [11])]
def kX6_quickestSet_64 : List qIns := [(.iload_n 3, 1, []), (.ireturn, 1, [0])]
def mX6_quickestSet : qMI := (yX6_quickestSet, cX6_quickestSet, 6, (some .int), 6, [1404, 260, 1402, 1403], 2, false, [(0, kX6_quickestSet_0), (11, kX6_quickestSet_11), (58, kX6_quickestSet_58), (64, kX6_quickestSet_64)])
def kX6_breakfastIfYield_0 : List qIns := [(.aload_n 0, 1, []), (.getfield 15, 3, [6, 0, 423, 2]), (.aload_n 1, 1, []), (.invokevirtual 39, 3, [9, 1411, 2, 2, 2]), (.iconst 0, 1, [0]), (.istore_n 3, 1, []), (.nop, 0, [10])]
def kX6_breakfastIfYield_10 : List qIns := [(.iload_n 3, 1, []), (.aload_n 1, 1, []), (.getfield 24, 3, [1, 4, 312, 0]), (.if_icmp .ge 26, 3, [41]), (.iload_n 2, 1, []), (.iconst 1, 1, [1]), (.iload_n 3, 1, []), (.ishl, 1, []), (.iand, 1, []), (.ifCond .eq 12, 3, [35]), (.aload_n 0, 1, []), (.getfield 15, 3, [6, 0, 423, 2]), (.iload_n 3, 1, []), (.invokevirtual 43, 3, [31, 1412, 2, 0, 2]), (.pop, 1, []), (.nop, 0, [35])]
def kX6_breakfastIfYield_35 : List qIns := [(.iinc 3 1, 3, [1]), (.goto (-28), 3, [10])]
def kX6_breakfastIfYield_41 : List qIns := [(.aload_n 0, 1, []), (.getfield 19, 3, [6, 1, 424, 2]), (.aload_n 0, 1, []), (.getfield 15, 3, [6, 0, 423, 2]), (.invokevirtual 46, 3, [1, 1413, 2, 0, 1]), (.ireturn, 1, [0])]
def mX6_breakfastIfYield : qMI := (yX6_breakfastIfYield, cX6_breakfastIfYield, 4, (some .int), 6, [1410, 260, 1409, 26], 2, false, [(0, kX6_breakfastIfYield_0), (10, kX6_breakfastIfYield_10), (35, kX6_breakfastIfYield_35), (41, kX6_breakfastIfYield_41)])
def kX6_quickestCell_0 : List qIns := [(.iconst 0, 1, [0]), (.istore_n 3, 1, []), (.aload_n 0, 1, []), (.ldc 23, 2, [1405, 1000000]), (.putfield 9, 3, [6, 2, 425, 0]), (.aload_n 0, 1, []), (.getfield 15, 3, [6, 0, 423, 2]), (.aload_n 1, 1, []), (.invokevirtual 39, 3, [9, 1411, 2, 2, 2]), (.aload_n 1, 1, []), (.getfield 52, 3, [1, 0, 297, 0]), (.aload_n 1, 1, []), (.getfield 55, 3, [1, 1, 302, 0]), (.imul, 1, []), (.istore 4, 2, []), (.iconst 0, 1, [0]), (.istore 5, 2, []), (.nop, 0, [30])]
def kX6_quickestCell_30 : List qIns := [(.iload 5, 2, []), (.iload 4, 2, []), (.if_icmp .ge 50, 3, [84]), (.aload_n 0, 1, []), (.getfield 15, 3, [6, 0, 423, 2]), (.iload_n 2, 1, []), (.iload 5, 2, []), (.invokevirtual 58, 3, [16, 1426, 3, 2, 2]), (.aload_n 0, 1, []), (.getfield 19, 3, [6, 1, 424, 2]), (.aload_n 0, 1, []), (.getfield 15, 3, [6, 0, 423, 2]), (.invokevirtual 46, 3, [1, 1413, 2, 0, 1]), (.istore 6, 2, []), (.iload 6, 2, []), (.aload_n 0, 1, []), (.getfield 9, 3, [6, 2, 425, 0]), (.if_icmp .ge 12, 3, [78]), (.aload_n 0, 1, []), (.iload 6, 2, []), (.putfield 9, 3, [6, 2, 425, 0]), (.iload 5, 2, []), (.istore_n 3, 1, []), (.nop, 0, [78])]
def kX6_quickestCell_78 : List qIns := [(.iinc 5 1, 3, [1]), (.goto (-51), 3, [30])]
def kX6_quickestCell_84 : List qIns := [(.iload_n 3, 1, []), (.ireturn, 1, [0])]
def mX6_quickestCell : qMI := (yX6_quickestCell, cX6_quickestCell, 7, (some .int), 6, [1425, 260, 1423, 1424], 2, false, [(0, kX6_quickestCell_0), (30, kX6_quickestCell_30), (78, kX6_quickestCell_78), (84, kX6_quickestCell_84)])
def kX6_fewestEnders_0 : List qIns := [(.iconst 1, 1, [1]), (.aload_n 0, 1, []), (.getfield 24, 3, [1, 4, 312, 0]), (.ishl, 1, []), (.iconst 1, 1, [1]), (.isub, 1, []), (.istore_n 1, 1, []), (.iload_n 1, 1, []), (.istore_n 2, 1, []), (.iconst 0, 1, [0]), (.istore_n 3, 1, []), (.nop, 0, [13])]
def kX6_fewestEnders_13 : List qIns := [(.iload_n 3, 1, []), (.iload_n 1, 1, []), (.if_icmp .gt 30, 3, [45]), (.iload_n 3, 1, []), (.invokestatic 29, 3, [368, 1406, 1, 0, 0]), (.iload_n 2, 1, []), (.invokestatic 29, 3, [368, 1406, 1, 0, 0]), (.if_icmp .ge 13, 3, [39]), (.aload_n 0, 1, []), (.iload_n 3, 1, []), (.invokestatic 62, 3, [79, 1438, 2, 0, 0]), (.ifCond .eq 5, 3, [39]), (.iload_n 3, 1, []), (.istore_n 2, 1, []), (.nop, 0, [39])]
def kX6_fewestEnders_39 : List qIns := [(.iinc 3 1, 3, [1]), (.goto (-29), 3, [13])]
def kX6_fewestEnders_45 : List qIns := [(.iload_n 2, 1, []), (.ireturn, 1, [0])]
def mX6_fewestEnders : qMI := (yX6_fewestEnders, cX6_fewestEnders, 4, (some .int), 6, [1437, 260, 1436], 1, true, [(0, kX6_fewestEnders_0), (13, kX6_fewestEnders_13), (39, kX6_fewestEnders_39), (45, kX6_fewestEnders_45)])
def kX6_endsAll_0 : List qIns := [(.iconst 0, 1, [0]), (.istore_n 2, 1, []), (.nop, 0, [2])]
def kX6_endsAll_2 : List qIns := [(.iload_n 2, 1, []), (.aload_n 0, 1, []), (.getfield 66, 3, [1, 5, 321, 0]), (.if_icmp .ge 30, 3, [37]), (.aload_n 0, 1, []), (.getfield 69, 3, [1, 16, 351, 2]), (.iload_n 2, 1, []), (.iaload, 1, []), (.ifCond .ne 15, 3, [31]), (.iload_n 1, 1, []), (.aload_n 0, 1, []), (.iload_n 2, 1, []), (.invokestatic 73, 3, [80, 1441, 2, 0, 0]), (.iand, 1, []), (.ifCond .ne 5, 3, [31]), (.iconst 0, 1, [0]), (.ireturn, 1, [1])]
def kX6_endsAll_31 : List qIns := [(.iinc 2 1, 3, [1]), (.goto (-32), 3, [2])]
def kX6_endsAll_37 : List qIns := [(.iconst 1, 1, [1]), (.ireturn, 1, [1])]
def mX6_endsAll : qMI := (yX6_endsAll, cX6_endsAll, 3, (some .boolean), 6, [1440, 260, 1439], 2, true, [(0, kX6_endsAll_0), (2, kX6_endsAll_2), (31, kX6_endsAll_31), (37, kX6_endsAll_37)])
def kX6_pairOf_0 : List qIns := [(.aload_n 0, 1, []), (.iload_n 1, 1, []), (.invokevirtual 76, 3, [11, 1444, 2, 0, 2]), (.ifCond .eq 23, 3, [28]), (.iconst 1, 1, [1]), (.aload_n 0, 1, []), (.getfield 80, 3, [1, 13, 341, 2]), (.iload_n 1, 1, []), (.iaload, 1, []), (.ishl, 1, []), (.iconst 1, 1, [1]), (.aload_n 0, 1, []), (.getfield 83, 3, [1, 14, 344, 2]), (.iload_n 1, 1, []), (.iaload, 1, []), (.ishl, 1, []), (.ior, 1, []), (.goto 4, 3, [29])]
def kX6_pairOf_28 : List qIns := [(.iconst 0, 1, [0]), (.nop, 0, [29])]
def kX6_pairOf_29 : List qIns := [(.ireturn, 1, [0])]
def mX6_pairOf : qMI := (yX6_pairOf, cX6_pairOf, 2, (some .int), 6, [1443, 260, 1442], 2, true, [(0, kX6_pairOf_0), (28, kX6_pairOf_28), (29, kX6_pairOf_29)])
def kX6_mostApart_0 : List qIns := [(.aload_n 0, 1, []), (.invokevirtual 86, 3, [23, 1457, 1, 0, 2]), (.istore_n 1, 1, []), (.iconst 0, 1, [0]), (.istore_n 2, 1, []), (.iconst 0, 1, [0]), (.istore_n 3, 1, []), (.nop, 0, [9])]
def kX6_mostApart_9 : List qIns := [(.iload_n 3, 1, []), (.iconst 1, 1, [1]), (.aload_n 0, 1, []), (.getfield 66, 3, [1, 5, 321, 0]), (.ishl, 1, []), (.if_icmp .ge 50, 3, [66]), (.iload_n 3, 1, []), (.invokestatic 29, 3, [368, 1406, 1, 0, 0]), (.iload_n 2, 1, []), (.invokestatic 29, 3, [368, 1406, 1, 0, 0]), (.if_icmp .le 7, 3, [34]), (.iconst 1, 1, [1]), (.goto 4, 3, [35])]
def kX6_mostApart_34 : List qIns := [(.iconst 0, 1, [0]), (.nop, 0, [35])]
def kX6_mostApart_35 : List qIns := [(.istore 4, 2, []), (.iload 4, 2, []), (.ifCond .eq 21, 3, [60]), (.iload_n 3, 1, []), (.iload_n 1, 1, []), (.iconst (-1), 1, []), (.ixor, 1, []), (.iand, 1, []), (.ifCond .ne 13, 3, [60]), (.aload_n 0, 1, []), (.iload_n 3, 1, []), (.invokestatic 90, 3, [82, 1458, 2, 0, 0]), (.ifCond .eq 5, 3, [60]), (.iload_n 3, 1, []), (.istore_n 2, 1, []), (.nop, 0, [60])]
def kX6_mostApart_60 : List qIns := [(.iinc 3 1, 3, [1]), (.goto (-54), 3, [9])]
def kX6_mostApart_66 : List qIns := [(.iload_n 2, 1, []), (.ireturn, 1, [0])]
def mX6_mostApart : qMI := (yX6_mostApart, cX6_mostApart, 5, (some .int), 6, [1456, 260, 1455], 1, true, [(0, kX6_mostApart_0), (9, kX6_mostApart_9), (34, kX6_mostApart_34), (35, kX6_mostApart_35), (60, kX6_mostApart_60), (66, kX6_mostApart_66)])
def kX6_isApart_0 : List qIns := [(.iconst 0, 1, [0]), (.istore_n 2, 1, []), (.iconst 0, 1, [0]), (.istore_n 3, 1, []), (.nop, 0, [4])]
def kX6_isApart_4 : List qIns := [(.iload_n 3, 1, []), (.aload_n 0, 1, []), (.getfield 66, 3, [1, 5, 321, 0]), (.if_icmp .ge 38, 3, [47]), (.iload_n 1, 1, []), (.iconst 1, 1, [1]), (.iload_n 3, 1, []), (.ishl, 1, []), (.iand, 1, []), (.ifCond .eq 24, 3, [41]), (.aload_n 0, 1, []), (.iload_n 3, 1, []), (.invokestatic 73, 3, [80, 1441, 2, 0, 0]), (.istore 4, 2, []), (.iload_n 2, 1, []), (.iload 4, 2, []), (.iand, 1, []), (.ifCond .eq 5, 3, [36]), (.iconst 0, 1, [0]), (.ireturn, 1, [1])]
def kX6_isApart_36 : List qIns := [(.iload_n 2, 1, []), (.iload 4, 2, []), (.ior, 1, []), (.istore_n 2, 1, []), (.nop, 0, [41])]
def kX6_isApart_41 : List qIns := [(.iinc 3 1, 3, [1]), (.goto (-40), 3, [4])]
def kX6_isApart_47 : List qIns := [(.iconst 1, 1, [1]), (.ireturn, 1, [1])]
def mX6_isApart : qMI := (yX6_isApart, cX6_isApart, 5, (some .boolean), 6, [1460, 260, 1459], 2, true, [(0, kX6_isApart_0), (4, kX6_isApart_4), (36, kX6_isApart_36), (41, kX6_isApart_41), (47, kX6_isApart_47)])
def kX6_circleOf_0 : List qIns := [(.iconst 1, 1, [1]), (.iload_n 1, 1, []), (.ishl, 1, []), (.istore_n 2, 1, []), (.iconst 0, 1, [0]), (.istore_n 3, 1, []), (.nop, 0, [6])]
def kX6_circleOf_6 : List qIns := [(.iload_n 3, 1, []), (.bipush 8, 2, [8]), (.if_icmp .ge 57, 3, [66]), (.iconst 0, 1, [0]), (.istore 4, 2, []), (.nop, 0, [15])]
def kX6_circleOf_15 : List qIns := [(.iload 4, 2, []), (.aload_n 0, 1, []), (.getfield 66, 3, [1, 5, 321, 0]), (.if_icmp .ge 39, 3, [60]), (.aload_n 0, 1, []), (.iload 4, 2, []), (.invokestatic 73, 3, [80, 1441, 2, 0, 0]), (.istore 5, 2, []), (.aload_n 0, 1, []), (.getfield 69, 3, [1, 16, 351, 2]), (.iload 4, 2, []), (.iaload, 1, []), (.ifCond .ne 15, 3, [54]), (.iload_n 2, 1, []), (.iload 5, 2, []), (.iand, 1, []), (.ifCond .eq 8, 3, [54]), (.iload_n 2, 1, []), (.iload 5, 2, []), (.ior, 1, []), (.istore_n 2, 1, []), (.nop, 0, [54])]
def kX6_circleOf_54 : List qIns := [(.iinc 4 1, 3, [1]), (.goto (-42), 3, [15])]
def kX6_circleOf_60 : List qIns := [(.iinc 3 1, 3, [1]), (.goto (-57), 3, [6])]
def kX6_circleOf_66 : List qIns := [(.iload_n 2, 1, []), (.ireturn, 1, [0])]
def mX6_circleOf : qMI := (yX6_circleOf, cX6_circleOf, 6, (some .int), 6, [1471, 260, 1470], 2, true, [(0, kX6_circleOf_0), (6, kX6_circleOf_6), (15, kX6_circleOf_15), (54, kX6_circleOf_54), (60, kX6_circleOf_60), (66, kX6_circleOf_66)])
def kX6_howManyCircles_0 : List qIns := [(.iconst 0, 1, [0]), (.istore_n 1, 1, []), (.iconst 0, 1, [0]), (.istore_n 2, 1, []), (.nop, 0, [4])]
def kX6_howManyCircles_4 : List qIns := [(.iload_n 2, 1, []), (.aload_n 0, 1, []), (.getfield 24, 3, [1, 4, 312, 0]), (.if_icmp .ge 28, 3, [37]), (.iconst 1, 1, [1]), (.iload_n 2, 1, []), (.ishl, 1, []), (.iconst 1, 1, [1]), (.isub, 1, []), (.istore_n 3, 1, []), (.aload_n 0, 1, []), (.iload_n 2, 1, []), (.invokestatic 93, 3, [83, 1479, 2, 0, 0]), (.iload_n 3, 1, []), (.iand, 1, []), (.ifCond .ne 6, 3, [31]), (.iinc 1 1, 3, [1]), (.nop, 0, [31])]
def kX6_howManyCircles_31 : List qIns := [(.iinc 2 1, 3, [1]), (.goto (-30), 3, [4])]
def kX6_howManyCircles_37 : List qIns := [(.iload_n 1, 1, []), (.ireturn, 1, [0])]
def mX6_howManyCircles : qMI := (yX6_howManyCircles, cX6_howManyCircles, 4, (some .int), 6, [1478, 260, 1477], 1, true, [(0, kX6_howManyCircles_0), (4, kX6_howManyCircles_4), (31, kX6_howManyCircles_31), (37, kX6_howManyCircles_37)])
def kX6_leastSide_0 : List qIns := [(.iconst 0, 1, [0]), (.istore_n 1, 1, []), (.nop, 0, [2])]
def kX6_leastSide_2 : List qIns := [(.iload_n 1, 1, []), (.iconst 1, 1, [1]), (.aload_n 0, 1, []), (.getfield 24, 3, [1, 4, 312, 0]), (.ishl, 1, []), (.if_icmp .ge 19, 3, [28]), (.aload_n 0, 1, []), (.iload_n 1, 1, []), (.invokestatic 96, 3, [86, 1487, 2, 0, 0]), (.ifCond .eq 5, 3, [22]), (.iload_n 1, 1, []), (.ireturn, 1, [0])]
def kX6_leastSide_22 : List qIns := [(.iinc 1 1, 3, [1]), (.goto (-23), 3, [2])]
def kX6_leastSide_28 : List qIns := [(.iconst (-1), 1, []), (.ireturn, 1, [0])]
def mX6_leastSide : qMI := (yX6_leastSide, cX6_leastSide, 2, (some .int), 6, [1486, 260, 1485], 1, true, [(0, kX6_leastSide_0), (2, kX6_leastSide_2), (22, kX6_leastSide_22), (28, kX6_leastSide_28)])
def kX6_isSide_0 : List qIns := [(.iconst 0, 1, [0]), (.istore_n 2, 1, []), (.nop, 0, [2])]
def kX6_isSide_2 : List qIns := [(.iload_n 2, 1, []), (.aload_n 0, 1, []), (.getfield 66, 3, [1, 5, 321, 0]), (.if_icmp .ge 34, 3, [41]), (.aload_n 0, 1, []), (.getfield 69, 3, [1, 16, 351, 2]), (.iload_n 2, 1, []), (.iaload, 1, []), (.ifCond .ne 19, 3, [35]), (.iload_n 1, 1, []), (.aload_n 0, 1, []), (.iload_n 2, 1, []), (.invokestatic 73, 3, [80, 1441, 2, 0, 0]), (.iand, 1, []), (.invokestatic 29, 3, [368, 1406, 1, 0, 0]), (.iconst 1, 1, [1]), (.if_icmp .eq 5, 3, [35]), (.iconst 0, 1, [0]), (.ireturn, 1, [1])]
def kX6_isSide_35 : List qIns := [(.iinc 2 1, 3, [1]), (.goto (-36), 3, [2])]
def kX6_isSide_41 : List qIns := [(.iconst 1, 1, [1]), (.ireturn, 1, [1])]
def mX6_isSide : qMI := (yX6_isSide, cX6_isSide, 3, (some .boolean), 6, [1489, 260, 1488], 2, true, [(0, kX6_isSide_0), (2, kX6_isSide_2), (35, kX6_isSide_35), (41, kX6_isSide_41)])
def kX7_init_0 : List qIns := [(.aload_n 0, 1, []), (.nop, 0, [1])]
def kX7_init_1 : List qIns := [(.invokespecial 3, 3, [999, 493, 1, 2]), (.nop, 0, [4])]
def kX7_init_4 : List qIns := [(.aload_n 0, 1, []), (.sipush 900, 3, [900]), (.nop, 0, [8])]
def kX7_init_8 : List qIns := [(.newarray .byte, 2, []), (.nop, 0, [10])]
def kX7_init_10 : List qIns := [(.putfield 9, 3, [7, 0, 563, 2]), (.nop, 0, [13])]
def kX7_init_13 : List qIns := [(.aload_n 0, 1, []), (.iconst 0, 1, [0]), (.putfield 15, 3, [7, 1, 564, 0]), (.aload_n 0, 1, []), (.iconst 0, 1, [0]), (.putfield 19, 3, [7, 2, 566, 0]), (.aload_n 0, 1, []), (.iconst 0, 1, [0]), (.putfield 22, 3, [7, 3, 567, 0]), (.aload_n 0, 1, []), (.iconst 0, 1, [0]), (.putfield 25, 3, [7, 4, 568, 0]), (.aload_n 0, 1, []), (.iconst 0, 1, [0]), (.putfield 28, 3, [7, 5, 569, 0]), (.aload_n 0, 1, []), (.lconst 0, 1, []), (.putfield 31, 3, [7, 6, 570, 1]), (.aload_n 0, 1, []), (.iconst (-1), 1, []), (.putfield 35, 3, [7, 7, 572, 0]), (.aload_n 0, 1, []), (.iconst 0, 1, [0]), (.putfield 38, 3, [7, 8, 575, 0]), (.aload_n 0, 1, []), (.iconst 0, 1, [0]), (.putfield 41, 3, [7, 9, 576, 0]), (.aload_n 0, 1, []), (.iconst 0, 1, [0]), (.putfield 44, 3, [7, 10, 577, 0]), (.aload_n 0, 1, []), (.iconst (-1), 1, []), (.putfield 47, 3, [7, 11, 580, 0]), (.aload_n 0, 1, []), (.iconst (-1), 1, []), (.putfield 50, 3, [7, 12, 582, 0]), (.aload_n 0, 1, []), (.bipush 22, 2, [22]), (.nop, 0, [76])]
def kX7_init_76 : List qIns := [(.newarray .long, 2, []), (.nop, 0, [78])]
def kX7_init_78 : List qIns := [(.putfield 53, 3, [7, 13, 584, 2]), (.nop, 0, [81])]
def kX7_init_81 : List qIns := [(.iconst 0, 1, [0]), (.istore_n 1, 1, []), (.iconst 0, 1, [0]), (.istore_n 2, 1, []), (.nop, 0, [85])]
def kX7_init_85 : List qIns := [(.iload_n 2, 1, []), (.ldc 57, 2, [494, 1000, 2]), (.invokevirtual 59, 3, [369, 495, 1, 0, 91]), (.if_icmp .ge 50, 3, [141]), (.iload_n 1, 1, []), (.bipush 22, 2, [22]), (.if_icmp .ge 44, 3, [141]), (.ldc 57, 2, [494, 1000, 2]), (.iload_n 2, 1, []), (.invokevirtual 64, 3, [370, 521, 2, 0, 91]), (.istore_n 3, 1, []), (.iload_n 3, 1, []), (.bipush 32, 2, [32]), (.if_icmp .ne 9, 3, [119]), (.iinc 1 1, 3, [1]), (.goto 19, 3, [135])]
def kX7_init_119 : List qIns := [(.aload_n 0, 1, []), (.getfield 53, 3, [7, 13, 584, 2]), (.iload_n 1, 1, []), (.aload_n 0, 1, []), (.getfield 53, 3, [7, 13, 584, 2]), (.iload_n 1, 1, []), (.laload, 1, []), (.iload_n 3, 1, []), (.invokestatic 68, 3, [88, 559, 2, 1, 0]), (.lastore, 1, []), (.nop, 0, [135])]
def kX7_init_135 : List qIns := [(.iinc 2 1, 3, [1]), (.goto (-53), 3, [85])]
def kX7_init_141 : List qIns := [(.return_, 1, [])]
def mX7_init : qMI := (yX7_init, cX7_init, 4, none, 7, [492, 264, 491, 0], 0, false, [(0, kX7_init_0), (1, kX7_init_1), (4, kX7_init_4), (8, kX7_init_8), (10, kX7_init_10), (13, kX7_init_13), (76, kX7_init_76), (78, kX7_init_78), (81, kX7_init_81), (85, kX7_init_85), (119, kX7_init_119), (135, kX7_init_135), (141, kX7_init_141)])
def kX7_withLetter_0 : List qIns := [(.lload_n 0, 1, []), (.ldc2_w 72, 3, [562, 32]), (.lmul, 1, []), (.iload_n 2, 1, []), (.bipush 97, 2, [97]), (.isub, 1, []), (.iconst 1, 1, [1]), (.iadd, 1, []), (.i2l, 1, []), (.ladd, 1, []), (.lreturn, 1, [])]
def mX7_withLetter : qMI := (yX7_withLetter, cX7_withLetter, 3, (some .long), 7, [561, 264, 560], 2, true, [(0, kX7_withLetter_0)])
def kX7_hasRoom_0 : List qIns := [(.aload_n 0, 1, []), (.getfield 15, 3, [7, 1, 564, 0]), (.ifCond .lt 20, 3, [24]), (.aload_n 0, 1, []), (.getfield 15, 3, [7, 1, 564, 0]), (.bipush 20, 2, [20]), (.iadd, 1, []), (.sipush 900, 3, [900]), (.if_icmp .gt 7, 3, [24]), (.iconst 1, 1, [1]), (.goto 4, 3, [25])]
def kX7_hasRoom_24 : List qIns := [(.iconst 0, 1, [0]), (.nop, 0, [25])]
def kX7_hasRoom_25 : List qIns := [(.ireturn, 1, [1])]
def mX7_hasRoom : qMI := (yX7_hasRoom, cX7_hasRoom, 1, (some .boolean), 7, [919, 264, 917, 918], 0, false, [(0, kX7_hasRoom_0), (24, kX7_hasRoom_24), (25, kX7_hasRoom_25)])
def kX7_addFour_0 : List qIns := [(.aload_n 0, 1, []), (.getfield 15, 3, [7, 1, 564, 0]), (.ifCond .lt 15, 3, [19]), (.aload_n 0, 1, []), (.getfield 15, 3, [7, 1, 564, 0]), (.iconst 4, 1, [4]), (.iadd, 1, []), (.sipush 900, 3, [900]), (.if_icmp .le 4, 3, [20]), (.nop, 0, [19])]
def kX7_addFour_19 : List qIns := [(.return_, 1, [])]
def kX7_addFour_20 : List qIns := [(.aload_n 0, 1, []), (.getfield 9, 3, [7, 0, 563, 2]), (.aload_n 0, 1, []), (.getfield 15, 3, [7, 1, 564, 0]), (.iload_n 1, 1, []), (.bipush 24, 2, [24]), (.ishr, 1, []), (.i2b, 1, []), (.bastore, 1, []), (.aload_n 0, 1, []), (.getfield 9, 3, [7, 0, 563, 2]), (.aload_n 0, 1, []), (.getfield 15, 3, [7, 1, 564, 0]), (.iconst 1, 1, [1]), (.iadd, 1, []), (.iload_n 1, 1, []), (.bipush 16, 2, [16]), (.ishr, 1, []), (.i2b, 1, []), (.bastore, 1, []), (.aload_n 0, 1, []), (.getfield 9, 3, [7, 0, 563, 2]), (.aload_n 0, 1, []), (.getfield 15, 3, [7, 1, 564, 0]), (.iconst 2, 1, [2]), (.iadd, 1, []), (.iload_n 1, 1, []), (.bipush 8, 2, [8]), (.ishr, 1, []), (.i2b, 1, []), (.bastore, 1, []), (.aload_n 0, 1, []), (.getfield 9, 3, [7, 0, 563, 2]), (.aload_n 0, 1, []), (.getfield 15, 3, [7, 1, 564, 0]), (.iconst 3, 1, [3]), (.iadd, 1, []), (.iload_n 1, 1, []), (.i2b, 1, []), (.bastore, 1, []), (.aload_n 0, 1, []), (.dup, 1, []), (.getfield 15, 3, [7, 1, 564, 0]), (.iconst 4, 1, [4]), (.iadd, 1, []), (.putfield 15, 3, [7, 1, 564, 0]), (.return_, 1, [])]
def mX7_addFour : qMI := (yX7_addFour, cX7_addFour, 2, none, 7, [923, 264, 921, 922], 1, false, [(0, kX7_addFour_0), (19, kX7_addFour_19), (20, kX7_addFour_20)])
def kX7_open_0 : List qIns := [(.aload_n 0, 1, []), (.iconst 0, 1, [0]), (.iload_n 1, 1, []), (.sipush 900, 3, [900]), (.invokestatic 74, 3, [937, 1]), (.invokestatic 80, 3, [940, 0]), (.putfield 19, 3, [7, 2, 566, 0]), (.aload_n 0, 1, []), (.iconst 0, 1, [0]), (.putfield 22, 3, [7, 3, 567, 0]), (.aload_n 0, 1, []), (.iconst 0, 1, [0]), (.putfield 47, 3, [7, 11, 580, 0]), (.aload_n 0, 1, []), (.iconst (-1), 1, []), (.putfield 50, 3, [7, 12, 582, 0]), (.aload_n 0, 1, []), (.invokevirtual 83, 3, [93, 943, 1, 2, 8]), (.return_, 1, [])]
def mX7_open : qMI := (yX7_open, cX7_open, 2, none, 7, [936, 264, 934, 935], 1, false, [(0, kX7_open_0)])
def kX7_signAt_0 : List qIns := [(.iload_n 1, 1, []), (.ifCond .lt 24, 3, [25]), (.iload_n 1, 1, []), (.aload_n 0, 1, []), (.getfield 19, 3, [7, 2, 566, 0]), (.if_icmp .ge 16, 3, [25]), (.aload_n 0, 1, []), (.getfield 9, 3, [7, 0, 563, 2]), (.iload_n 1, 1, []), (.baload, 1, []), (.sipush 255, 3, [255]), (.iand, 1, []), (.goto 4, 3, [26])]
def kX7_signAt_25 : List qIns := [(.iconst 0, 1, [0]), (.nop, 0, [26])]
def kX7_signAt_26 : List qIns := [(.ireturn, 1, [0])]
def mX7_signAt : qMI := (yX7_signAt, cX7_signAt, 2, (some .int), 7, [950, 264, 949, 4], 1, false, [(0, kX7_signAt_0), (25, kX7_signAt_25), (26, kX7_signAt_26)])
def kX7_step_0 : List qIns := [(.aload_n 0, 1, []), (.getfield 22, 3, [7, 3, 567, 0]), (.aload_n 0, 1, []), (.getfield 19, 3, [7, 2, 566, 0]), (.if_icmp .ge 42, 3, [50]), (.aload_n 0, 1, []), (.aload_n 0, 1, []), (.getfield 22, 3, [7, 3, 567, 0]), (.invokevirtual 86, 3, [92, 947, 2, 0, 8]), (.bipush 10, 2, [10]), (.if_icmp .eq 16, 3, [37]), (.aload_n 0, 1, []), (.aload_n 0, 1, []), (.getfield 22, 3, [7, 3, 567, 0]), (.invokevirtual 86, 3, [92, 947, 2, 0, 8]), (.bipush 32, 2, [32]), (.if_icmp .ne 16, 3, [50]), (.nop, 0, [37])]
def kX7_step_37 : List qIns := [(.aload_n 0, 1, []), (.dup, 1, []), (.getfield 22, 3, [7, 3, 567, 0]), (.iconst 1, 1, [1]), (.iadd, 1, []), (.putfield 22, 3, [7, 3, 567, 0]), (.goto (-47), 3, [0])]
def kX7_step_50 : List qIns := [(.aload_n 0, 1, []), (.aload_n 0, 1, []), (.getfield 22, 3, [7, 3, 567, 0]), (.putfield 28, 3, [7, 5, 569, 0]), (.aload_n 0, 1, []), (.iconst (-1), 1, []), (.putfield 35, 3, [7, 7, 572, 0]), (.aload_n 0, 1, []), (.aload_n 0, 1, []), (.getfield 22, 3, [7, 3, 567, 0]), (.invokevirtual 86, 3, [92, 947, 2, 0, 8]), (.istore_n 1, 1, []), (.aload_n 0, 1, []), (.getfield 22, 3, [7, 3, 567, 0]), (.aload_n 0, 1, []), (.getfield 19, 3, [7, 2, 566, 0]), (.if_icmp .lt 11, 3, [91]), (.aload_n 0, 1, []), (.iconst 0, 1, [0]), (.putfield 25, 3, [7, 4, 568, 0]), (.goto 79, 3, [167])]
def kX7_step_91 : List qIns := [(.iload_n 1, 1, []), (.invokestatic 90, 3, [96, 951, 1, 0, 0]), (.ifCond .eq 10, 3, [105]), (.aload_n 0, 1, []), (.invokevirtual 94, 3, [94, 954, 1, 2, 8]), (.goto 65, 3, [167])]
def kX7_step_105 : List qIns := [(.iload_n 1, 1, []), (.invokestatic 97, 3, [97, 963, 1, 0, 0]), (.ifCond .eq 10, 3, [119]), (.aload_n 0, 1, []), (.invokevirtual 100, 3, [95, 966, 1, 2, 8]), (.goto 51, 3, [167])]
def kX7_step_119 : List qIns := [(.aload_n 0, 1, []), (.iload_n 1, 1, []), (.bipush 59, 2, [59]), (.if_icmp .eq 21, 3, [144]), (.iload_n 1, 1, []), (.bipush 60, 2, [60]), (.if_icmp .eq 15, 3, [144]), (.iload_n 1, 1, []), (.bipush 62, 2, [62]), (.if_icmp .eq 9, 3, [144]), (.iload_n 1, 1, []), (.bipush 61, 2, [61]), (.if_icmp .ne 7, 3, [148]), (.nop, 0, [144])]
def kX7_step_144 : List qIns := [(.iconst 3, 1, [3]), (.goto 4, 3, [149])]
def kX7_step_148 : List qIns := [(.iconst 4, 1, [4]), (.nop, 0, [149])]
def kX7_step_149 : List qIns := [(.putfield 25, 3, [7, 4, 568, 0]), (.aload_n 0, 1, []), (.iload_n 1, 1, []), (.putfield 41, 3, [7, 9, 576, 0]), (.aload_n 0, 1, []), (.dup, 1, []), (.getfield 22, 3, [7, 3, 567, 0]), (.iconst 1, 1, [1]), (.iadd, 1, []), (.putfield 22, 3, [7, 3, 567, 0]), (.nop, 0, [167])]
def kX7_step_167 : List qIns := [(.return_, 1, [])]
def mX7_step : qMI := (yX7_step, cX7_step, 2, none, 7, [946, 264, 944, 945], 0, false, [(0, kX7_step_0), (37, kX7_step_37), (50, kX7_step_50), (91, kX7_step_91), (105, kX7_step_105), (119, kX7_step_119), (144, kX7_step_144), (148, kX7_step_148), (149, kX7_step_149), (167, kX7_step_167)])
def kX7_wordToken_0 : List qIns := [(.aload_n 0, 1, []), (.iconst 1, 1, [1]), (.putfield 25, 3, [7, 4, 568, 0]), (.aload_n 0, 1, []), (.lconst 0, 1, []), (.putfield 31, 3, [7, 6, 570, 1]), (.nop, 0, [10])]
def kX7_wordToken_10 : List qIns := [(.aload_n 0, 1, []), (.getfield 22, 3, [7, 3, 567, 0]), (.aload_n 0, 1, []), (.getfield 19, 3, [7, 2, 566, 0]), (.if_icmp .ge 69, 3, [87]), (.aload_n 0, 1, []), (.aload_n 0, 1, []), (.getfield 22, 3, [7, 3, 567, 0]), (.invokevirtual 86, 3, [92, 947, 2, 0, 8]), (.invokestatic 90, 3, [96, 951, 1, 0, 0]), (.ifCond .eq 55, 3, [87]), (.aload_n 0, 1, []), (.aload_n 0, 1, []), (.getfield 22, 3, [7, 3, 567, 0]), (.aload_n 0, 1, []), (.getfield 28, 3, [7, 5, 569, 0]), (.isub, 1, []), (.bipush 8, 2, [8]), (.if_icmp .ge 21, 3, [68]), (.aload_n 0, 1, []), (.getfield 31, 3, [7, 6, 570, 1]), (.aload_n 0, 1, []), (.aload_n 0, 1, []), (.getfield 22, 3, [7, 3, 567, 0]), (.invokevirtual 86, 3, [92, 947, 2, 0, 8]), (.invokestatic 68, 3, [88, 559, 2, 1, 0]), (.goto 6, 3, [71])]
def kX7_wordToken_68 : List qIns := [(.ldc2_w 103, 3, [958, 1, 1]), (.nop, 0, [71])]
def kX7_wordToken_71 : List qIns := [(.putfield 31, 3, [7, 6, 570, 1]), (.aload_n 0, 1, []), (.dup, 1, []), (.getfield 22, 3, [7, 3, 567, 0]), (.iconst 1, 1, [1]), (.iadd, 1, []), (.putfield 22, 3, [7, 3, 567, 0]), (.goto (-74), 3, [10])]
def kX7_wordToken_87 : List qIns := [(.aload_n 0, 1, []), (.aload_n 0, 1, []), (.aload_n 0, 1, []), (.getfield 31, 3, [7, 6, 570, 1]), (.invokevirtual 105, 3, [98, 959, 2, 0, 8]), (.putfield 35, 3, [7, 7, 572, 0]), (.return_, 1, [])]
def mX7_wordToken : qMI := (yX7_wordToken, cX7_wordToken, 1, none, 7, [957, 264, 956, 5], 0, false, [(0, kX7_wordToken_0), (10, kX7_wordToken_10), (68, kX7_wordToken_68), (71, kX7_wordToken_71), (87, kX7_wordToken_87)])
def kX7_numberToken_0 : List qIns := [(.aload_n 0, 1, []), (.iconst 0, 1, [0]), (.putfield 38, 3, [7, 8, 575, 0]), (.nop, 0, [5])]
def kX7_numberToken_5 : List qIns := [(.aload_n 0, 1, []), (.getfield 22, 3, [7, 3, 567, 0]), (.aload_n 0, 1, []), (.getfield 19, 3, [7, 2, 566, 0]), (.if_icmp .ge 70, 3, [83]), (.aload_n 0, 1, []), (.aload_n 0, 1, []), (.getfield 22, 3, [7, 3, 567, 0]), (.invokevirtual 86, 3, [92, 947, 2, 0, 8]), (.invokestatic 97, 3, [97, 963, 1, 0, 0]), (.ifCond .eq 56, 3, [83]), (.aload_n 0, 1, []), (.aload_n 0, 1, []), (.getfield 22, 3, [7, 3, 567, 0]), (.aload_n 0, 1, []), (.getfield 28, 3, [7, 5, 569, 0]), (.isub, 1, []), (.iconst 4, 1, [4]), (.if_icmp .ge 25, 3, [66]), (.aload_n 0, 1, []), (.getfield 38, 3, [7, 8, 575, 0]), (.bipush 10, 2, [10]), (.imul, 1, []), (.aload_n 0, 1, []), (.aload_n 0, 1, []), (.getfield 22, 3, [7, 3, 567, 0]), (.invokevirtual 86, 3, [92, 947, 2, 0, 8]), (.bipush 48, 2, [48]), (.isub, 1, []), (.iadd, 1, []), (.goto 4, 3, [67])]
def kX7_numberToken_66 : List qIns := [(.iconst 0, 1, [0]), (.nop, 0, [67])]
def kX7_numberToken_67 : List qIns := [(.putfield 38, 3, [7, 8, 575, 0]), (.aload_n 0, 1, []), (.dup, 1, []), (.getfield 22, 3, [7, 3, 567, 0]), (.iconst 1, 1, [1]), (.iadd, 1, []), (.putfield 22, 3, [7, 3, 567, 0]), (.goto (-75), 3, [5])]
def kX7_numberToken_83 : List qIns := [(.aload_n 0, 1, []), (.aload_n 0, 1, []), (.getfield 22, 3, [7, 3, 567, 0]), (.aload_n 0, 1, []), (.getfield 28, 3, [7, 5, 569, 0]), (.isub, 1, []), (.iconst 4, 1, [4]), (.if_icmp .le 7, 3, [101]), (.iconst 4, 1, [4]), (.goto 4, 3, [102])]
def kX7_numberToken_101 : List qIns := [(.iconst 2, 1, [2]), (.nop, 0, [102])]
def kX7_numberToken_102 : List qIns := [(.putfield 25, 3, [7, 4, 568, 0]), (.return_, 1, [])]
def mX7_numberToken : qMI := (yX7_numberToken, cX7_numberToken, 1, none, 7, [969, 264, 968, 7], 0, false, [(0, kX7_numberToken_0), (5, kX7_numberToken_5), (66, kX7_numberToken_66), (67, kX7_numberToken_67), (83, kX7_numberToken_83), (101, kX7_numberToken_101), (102, kX7_numberToken_102)])
def kX7_isLetter_0 : List qIns := [(.iload_n 0, 1, []), (.bipush 97, 2, [97]), (.if_icmp .lt 13, 3, [16]), (.iload_n 0, 1, []), (.bipush 122, 2, [122]), (.if_icmp .gt 7, 3, [16]), (.iconst 1, 1, [1]), (.goto 4, 3, [17])]
def kX7_isLetter_16 : List qIns := [(.iconst 0, 1, [0]), (.nop, 0, [17])]
def kX7_isLetter_17 : List qIns := [(.ireturn, 1, [1])]
def mX7_isLetter : qMI := (yX7_isLetter, cX7_isLetter, 1, (some .boolean), 7, [953, 264, 952], 1, true, [(0, kX7_isLetter_0), (16, kX7_isLetter_16), (17, kX7_isLetter_17)])
def kX7_isDigit_0 : List qIns := [(.iload_n 0, 1, []), (.bipush 48, 2, [48]), (.if_icmp .lt 13, 3, [16]), (.iload_n 0, 1, []), (.bipush 57, 2, [57]), (.if_icmp .gt 7, 3, [16]), (.iconst 1, 1, [1]), (.goto 4, 3, [17])]
def kX7_isDigit_16 : List qIns := [(.iconst 0, 1, [0]), (.nop, 0, [17])]
def kX7_isDigit_17 : List qIns := [(.ireturn, 1, [1])]
def mX7_isDigit : qMI := (yX7_isDigit, cX7_isDigit, 1, (some .boolean), 7, [965, 264, 964], 1, true, [(0, kX7_isDigit_0), (16, kX7_isDigit_16), (17, kX7_isDigit_17)])
def kX7_reservedNumber_0 : List qIns := [(.iconst 0, 1, [0]), (.istore_n 3, 1, []), (.nop, 0, [2])]
def kX7_reservedNumber_2 : List qIns := [(.iload_n 3, 1, []), (.bipush 22, 2, [22]), (.if_icmp .ge 22, 3, [27]), (.aload_n 0, 1, []), (.getfield 53, 3, [7, 13, 584, 2]), (.iload_n 3, 1, []), (.laload, 1, []), (.lload_n 1, 1, []), (.lcmp, 1, []), (.ifCond .ne 5, 3, [21]), (.iload_n 3, 1, []), (.ireturn, 1, [0])]
def kX7_reservedNumber_21 : List qIns := [(.iinc 3 1, 3, [1]), (.goto (-22), 3, [2])]
def kX7_reservedNumber_27 : List qIns := [(.iconst (-1), 1, []), (.ireturn, 1, [0])]
def mX7_reservedNumber : qMI := (yX7_reservedNumber, cX7_reservedNumber, 4, (some .int), 7, [962, 264, 961, 6], 1, false, [(0, kX7_reservedNumber_0), (2, kX7_reservedNumber_2), (21, kX7_reservedNumber_21), (27, kX7_reservedNumber_27)])
def kX7_atEnd_0 : List qIns := [(.aload_n 0, 1, []), (.getfield 25, 3, [7, 4, 568, 0]), (.ifCond .ne 7, 3, [11]), (.iconst 1, 1, [1]), (.goto 4, 3, [12])]
def kX7_atEnd_11 : List qIns := [(.iconst 0, 1, [0]), (.nop, 0, [12])]
def kX7_atEnd_12 : List qIns := [(.ireturn, 1, [1])]
def mX7_atEnd : qMI := (yX7_atEnd, cX7_atEnd, 1, (some .boolean), 7, [973, 264, 971, 972], 0, false, [(0, kX7_atEnd_0), (11, kX7_atEnd_11), (12, kX7_atEnd_12)])
def kX7_fail_0 : List qIns := [(.aload_n 0, 1, []), (.iload_n 1, 1, []), (.putfield 47, 3, [7, 11, 580, 0]), (.aload_n 0, 1, []), (.aload_n 0, 1, []), (.getfield 28, 3, [7, 5, 569, 0]), (.putfield 50, 3, [7, 12, 582, 0]), (.iconst 0, 1, [0]), (.ireturn, 1, [1])]
def mX7_fail : qMI := (yX7_fail, cX7_fail, 2, (some .boolean), 7, [981, 264, 979, 980], 1, false, [(0, kX7_fail_0)])
def kX7_cannotStand_0 : List qIns := [(.aload_n 0, 1, []), (.aload_n 0, 1, []), (.getfield 25, 3, [7, 4, 568, 0]), (.iconst 4, 1, [4]), (.if_icmp .ne 7, 3, [13]), (.iconst 1, 1, [1]), (.goto 4, 3, [14])]
def kX7_cannotStand_13 : List qIns := [(.iconst 2, 1, [2]), (.nop, 0, [14])]
def kX7_cannotStand_14 : List qIns := [(.invokevirtual 109, 3, [100, 991, 2, 0, 8]), (.ireturn, 1, [1])]
def mX7_cannotStand : qMI := (yX7_cannotStand, cX7_cannotStand, 1, (some .boolean), 7, [990, 264, 988, 989], 0, false, [(0, kX7_cannotStand_0), (13, kX7_cannotStand_13), (14, kX7_cannotStand_14)])
def kX7_isName_0 : List qIns := [(.aload_n 0, 1, []), (.getfield 25, 3, [7, 4, 568, 0]), (.iconst 1, 1, [1]), (.if_icmp .ne 26, 3, [31]), (.aload_n 0, 1, []), (.getfield 35, 3, [7, 7, 572, 0]), (.iconst (-1), 1, []), (.if_icmp .ne 18, 3, [31]), (.aload_n 0, 1, []), (.getfield 31, 3, [7, 6, 570, 1]), (.ldc2_w 103, 3, [958, 1, 1]), (.lcmp, 1, []), (.ifCond .eq 7, 3, [31]), (.iconst 1, 1, [1]), (.goto 4, 3, [32])]
def kX7_isName_31 : List qIns := [(.iconst 0, 1, [0]), (.nop, 0, [32])]
def kX7_isName_32 : List qIns := [(.ireturn, 1, [1])]
def mX7_isName : qMI := (yX7_isName, cX7_isName, 1, (some .boolean), 7, [1027, 264, 1025, 1026], 0, false, [(0, kX7_isName_0), (31, kX7_isName_31), (32, kX7_isName_32)])
def kX7_takeWord_0 : List qIns := [(.aload_n 0, 1, []), (.getfield 35, 3, [7, 7, 572, 0]), (.iload_n 1, 1, []), (.if_icmp .eq 8, 3, [13]), (.aload_n 0, 1, []), (.invokevirtual 112, 3, [101, 987, 1, 0, 8]), (.ireturn, 1, [1])]
def kX7_takeWord_13 : List qIns := [(.aload_n 0, 1, []), (.invokevirtual 83, 3, [93, 943, 1, 2, 8]), (.iconst 1, 1, [1]), (.ireturn, 1, [1])]
def mX7_takeWord : qMI := (yX7_takeWord, cX7_takeWord, 2, (some .boolean), 7, [995, 264, 993, 994], 1, false, [(0, kX7_takeWord_0), (13, kX7_takeWord_13)])
def kX7_takeNumber_0 : List qIns := [(.aload_n 0, 1, []), (.getfield 25, 3, [7, 4, 568, 0]), (.iconst 2, 1, [2]), (.if_icmp .eq 8, 3, [13]), (.aload_n 0, 1, []), (.invokevirtual 112, 3, [101, 987, 1, 0, 8]), (.ireturn, 1, [1])]
def kX7_takeNumber_13 : List qIns := [(.aload_n 0, 1, []), (.getfield 38, 3, [7, 8, 575, 0]), (.iload_n 1, 1, []), (.if_icmp .lt 11, 3, [29]), (.aload_n 0, 1, []), (.getfield 38, 3, [7, 8, 575, 0]), (.iload_n 2, 1, []), (.if_icmp .le 9, 3, [35]), (.nop, 0, [29])]
def kX7_takeNumber_29 : List qIns := [(.aload_n 0, 1, []), (.iconst 4, 1, [4]), (.invokevirtual 109, 3, [100, 991, 2, 0, 8]), (.ireturn, 1, [1])]
def kX7_takeNumber_35 : List qIns := [(.aload_n 0, 1, []), (.aload_n 0, 1, []), (.getfield 38, 3, [7, 8, 575, 0]), (.putfield 44, 3, [7, 10, 577, 0]), (.aload_n 0, 1, []), (.invokevirtual 83, 3, [93, 943, 1, 2, 8]), (.iconst 1, 1, [1]), (.ireturn, 1, [1])]
def mX7_takeNumber : qMI := (yX7_takeNumber, cX7_takeNumber, 3, (some .boolean), 7, [986, 264, 984, 985], 2, false, [(0, kX7_takeNumber_0), (13, kX7_takeNumber_13), (29, kX7_takeNumber_29), (35, kX7_takeNumber_35)])
def kX7_takeStop_0 : List qIns := [(.aload_n 0, 1, []), (.getfield 25, 3, [7, 4, 568, 0]), (.iconst 3, 1, [3]), (.if_icmp .ne 12, 3, [17]), (.aload_n 0, 1, []), (.getfield 41, 3, [7, 9, 576, 0]), (.bipush 59, 2, [59]), (.if_icmp .eq 8, 3, [22]), (.nop, 0, [17])]
def kX7_takeStop_17 : List qIns := [(.aload_n 0, 1, []), (.invokevirtual 112, 3, [101, 987, 1, 0, 8]), (.ireturn, 1, [1])]
def kX7_takeStop_22 : List qIns := [(.aload_n 0, 1, []), (.invokevirtual 83, 3, [93, 943, 1, 2, 8]), (.iconst 1, 1, [1]), (.ireturn, 1, [1])]
def mX7_takeStop : qMI := (yX7_takeStop, cX7_takeStop, 1, (some .boolean), 7, [999, 264, 997, 998], 0, false, [(0, kX7_takeStop_0), (17, kX7_takeStop_17), (22, kX7_takeStop_22)])
def kX7_takeCompares_0 : List qIns := [(.aload_n 0, 1, []), (.getfield 25, 3, [7, 4, 568, 0]), (.iconst 3, 1, [3]), (.if_icmp .ne 12, 3, [17]), (.aload_n 0, 1, []), (.getfield 41, 3, [7, 9, 576, 0]), (.bipush 59, 2, [59]), (.if_icmp .ne 8, 3, [22]), (.nop, 0, [17])]
def kX7_takeCompares_17 : List qIns := [(.aload_n 0, 1, []), (.invokevirtual 112, 3, [101, 987, 1, 0, 8]), (.ireturn, 1, [1])]
def kX7_takeCompares_22 : List qIns := [(.aload_n 0, 1, []), (.aload_n 0, 1, []), (.getfield 41, 3, [7, 9, 576, 0]), (.putfield 44, 3, [7, 10, 577, 0]), (.aload_n 0, 1, []), (.invokevirtual 83, 3, [93, 943, 1, 2, 8]), (.iconst 1, 1, [1]), (.ireturn, 1, [1])]
def mX7_takeCompares : qMI := (yX7_takeCompares, cX7_takeCompares, 1, (some .boolean), 7, [1154, 264, 1152, 1153], 0, false, [(0, kX7_takeCompares_0), (17, kX7_takeCompares_17), (22, kX7_takeCompares_22)])
def kX7_boyHere_0 : List qIns := [(.aload_n 0, 1, []), (.invokevirtual 116, 3, [102, 1064, 1, 0, 8]), (.ifCond .ne 10, 3, [14]), (.aload_n 0, 1, []), (.invokevirtual 112, 3, [101, 987, 1, 0, 8]), (.pop, 1, []), (.iconst (-1), 1, []), (.ireturn, 1, [0])]
def kX7_boyHere_14 : List qIns := [(.aload_n 1, 1, []), (.aload_n 0, 1, []), (.getfield 31, 3, [7, 6, 570, 1]), (.invokevirtual 119, 3, [13, 1065, 2, 0, 2]), (.istore_n 2, 1, []), (.iload_n 2, 1, []), (.iconst (-1), 1, []), (.if_icmp .ne 9, 3, [34]), (.aload_n 0, 1, []), (.iconst 3, 1, [3]), (.invokevirtual 109, 3, [100, 991, 2, 0, 8]), (.pop, 1, []), (.nop, 0, [34])]
def kX7_boyHere_34 : List qIns := [(.iload_n 2, 1, []), (.ireturn, 1, [0])]
def mX7_boyHere : qMI := (yX7_boyHere, cX7_boyHere, 3, (some .int), 7, [1063, 264, 1061, 1062], 1, false, [(0, kX7_boyHere_0), (14, kX7_boyHere_14), (34, kX7_boyHere_34)])
def kX8_init_0 : List qIns := [(.aload_n 0, 1, []), (.nop, 0, [1])]
def kX8_init_1 : List qIns := [(.invokespecial 3, 3, [999, 477, 1, 2]), (.nop, 0, [4])]
def kX8_init_4 : List qIns := [(.aload_n 0, 1, []), (.iconst 4, 1, [4]), (.nop, 0, [6])]
def kX8_init_6 : List qIns := [(.newarray .int, 2, []), (.nop, 0, [8])]
def kX8_init_8 : List qIns := [(.putfield 9, 3, [8, 0, 478, 2]), (.nop, 0, [11])]
def kX8_init_11 : List qIns := [(.aload_n 0, 1, []), (.iconst 4, 1, [4]), (.nop, 0, [13])]
def kX8_init_13 : List qIns := [(.newarray .int, 2, []), (.nop, 0, [15])]
def kX8_init_15 : List qIns := [(.putfield 15, 3, [8, 1, 479, 2]), (.nop, 0, [18])]
def kX8_init_18 : List qIns := [(.aload_n 0, 1, []), (.sipush 240, 3, [240]), (.nop, 0, [22])]
def kX8_init_22 : List qIns := [(.newarray .long, 2, []), (.nop, 0, [24])]
def kX8_init_24 : List qIns := [(.putfield 18, 3, [8, 2, 480, 2]), (.nop, 0, [27])]
def kX8_init_27 : List qIns := [(.iconst 0, 1, [0]), (.istore_n 1, 1, []), (.nop, 0, [29])]
def kX8_init_29 : List qIns := [(.iload_n 1, 1, []), (.iconst 4, 1, [4]), (.if_icmp .ge 16, 3, [47]), (.aload_n 0, 1, []), (.getfield 9, 3, [8, 0, 478, 2]), (.iload_n 1, 1, []), (.iconst (-1), 1, []), (.iastore, 1, []), (.iinc 1 1, 3, [1]), (.goto (-15), 3, [29])]
def kX8_init_47 : List qIns := [(.return_, 1, [])]
def mX8_init : qMI := (yX8_init, cX8_init, 2, none, 8, [476, 263, 475, 0], 0, false, [(0, kX8_init_0), (1, kX8_init_1), (4, kX8_init_4), (6, kX8_init_6), (8, kX8_init_8), (11, kX8_init_11), (13, kX8_init_13), (15, kX8_init_15), (18, kX8_init_18), (22, kX8_init_22), (24, kX8_init_24), (27, kX8_init_27), (29, kX8_init_29), (47, kX8_init_47)])
def kX8_known_0 : List qIns := [(.iload_n 1, 1, []), (.ifCond .lt 12, 3, [13]), (.iload_n 1, 1, []), (.iconst 4, 1, [4]), (.if_icmp .ge 7, 3, [13]), (.iconst 1, 1, [1]), (.goto 4, 3, [14])]
def kX8_known_13 : List qIns := [(.iconst 0, 1, [0]), (.nop, 0, [14])]
def kX8_known_14 : List qIns := [(.ireturn, 1, [1])]
def mX8_known : qMI := (yX8_known, cX8_known, 2, (some .boolean), 8, [835, 263, 833, 834], 1, false, [(0, kX8_known_0), (13, kX8_known_13), (14, kX8_known_14)])
def kX8_laid_0 : List qIns := [(.aload_n 0, 1, []), (.iload_n 1, 1, []), (.invokevirtual 22, 3, [109, 849, 2, 0, 9]), (.ifCond .eq 17, 3, [22]), (.aload_n 0, 1, []), (.getfield 9, 3, [8, 0, 478, 2]), (.iload_n 1, 1, []), (.iaload, 1, []), (.iconst (-1), 1, []), (.if_icmp .eq 7, 3, [22]), (.iconst 1, 1, [1]), (.goto 4, 3, [23])]
def kX8_laid_22 : List qIns := [(.iconst 0, 1, [0]), (.nop, 0, [23])]
def kX8_laid_23 : List qIns := [(.ireturn, 1, [1])]
def mX8_laid : qMI := (yX8_laid, cX8_laid, 2, (some .boolean), 8, [865, 263, 863, 864], 1, false, [(0, kX8_laid_0), (22, kX8_laid_22), (23, kX8_laid_23)])
def kX8_alike_0 : List qIns := [(.aload_n 0, 1, []), (.iload_n 1, 1, []), (.invokevirtual 22, 3, [109, 849, 2, 0, 9]), (.ifCond .eq 30, 3, [35]), (.aload_n 0, 1, []), (.iload_n 2, 1, []), (.invokevirtual 22, 3, [109, 849, 2, 0, 9]), (.ifCond .eq 22, 3, [35]), (.aload_n 0, 1, []), (.getfield 9, 3, [8, 0, 478, 2]), (.iload_n 1, 1, []), (.iaload, 1, []), (.aload_n 0, 1, []), (.getfield 9, 3, [8, 0, 478, 2]), (.iload_n 2, 1, []), (.iaload, 1, []), (.if_icmp .ne 7, 3, [35]), (.iconst 1, 1, [1]), (.goto 4, 3, [36])]
def kX8_alike_35 : List qIns := [(.iconst 0, 1, [0]), (.nop, 0, [36])]
def kX8_alike_36 : List qIns := [(.ireturn, 1, [1])]
def mX8_alike : qMI := (yX8_alike, cX8_alike, 3, (some .boolean), 8, [899, 263, 897, 898], 2, false, [(0, kX8_alike_0), (35, kX8_alike_35), (36, kX8_alike_36)])
def kX8_has_0 : List qIns := [(.aload_n 0, 1, []), (.iload_n 1, 1, []), (.invokevirtual 26, 3, [110, 870, 2, 0, 9]), (.ifCond .eq 21, 3, [26]), (.iload_n 2, 1, []), (.ifCond .lt 17, 3, [26]), (.iload_n 2, 1, []), (.aload_n 0, 1, []), (.getfield 15, 3, [8, 1, 479, 2]), (.iload_n 1, 1, []), (.iaload, 1, []), (.if_icmp .ge 7, 3, [26]), (.iconst 1, 1, [1]), (.goto 4, 3, [27])]
def kX8_has_26 : List qIns := [(.iconst 0, 1, [0]), (.nop, 0, [27])]
def kX8_has_27 : List qIns := [(.ireturn, 1, [1])]
def mX8_has : qMI := (yX8_has, cX8_has, 3, (some .boolean), 8, [869, 263, 867, 868], 2, false, [(0, kX8_has_0), (26, kX8_has_26), (27, kX8_has_27)])
def kX8_holds_0 : List qIns := [(.aload_n 0, 1, []), (.iload_n 1, 1, []), (.invokevirtual 26, 3, [110, 870, 2, 0, 9]), (.ifCond .eq 37, 3, [42]), (.iload_n 2, 1, []), (.ifCond .lt 33, 3, [42]), (.iload_n 3, 1, []), (.ifCond .lt 29, 3, [42]), (.iload_n 2, 1, []), (.aload_n 0, 1, []), (.getfield 15, 3, [8, 1, 479, 2]), (.iload_n 1, 1, []), (.iaload, 1, []), (.if_icmp .gt 19, 3, [42]), (.iload_n 3, 1, []), (.aload_n 0, 1, []), (.getfield 15, 3, [8, 1, 479, 2]), (.iload_n 1, 1, []), (.iaload, 1, []), (.iload_n 2, 1, []), (.isub, 1, []), (.if_icmp .gt 7, 3, [42]), (.iconst 1, 1, [1]), (.goto 4, 3, [43])]
def kX8_holds_42 : List qIns := [(.iconst 0, 1, [0]), (.nop, 0, [43])]
def kX8_holds_43 : List qIns := [(.ireturn, 1, [1])]
def mX8_holds : qMI := (yX8_holds, cX8_holds, 4, (some .boolean), 8, [903, 263, 901, 902], 3, false, [(0, kX8_holds_0), (42, kX8_holds_42), (43, kX8_holds_43)])
def kX8_lay_0 : List qIns := [(.aload_n 0, 1, []), (.iload_n 1, 1, []), (.invokevirtual 22, 3, [109, 849, 2, 0, 9]), (.ifCond .eq 13, 3, [18]), (.iload_n 3, 1, []), (.ifCond .lt 9, 3, [18]), (.iload_n 3, 1, []), (.bipush 60, 2, [60]), (.if_icmp .le 4, 3, [19]), (.nop, 0, [18])]
def kX8_lay_18 : List qIns := [(.return_, 1, [])]
def kX8_lay_19 : List qIns := [(.aload_n 0, 1, []), (.getfield 9, 3, [8, 0, 478, 2]), (.iload_n 1, 1, []), (.iload_n 2, 1, []), (.iastore, 1, []), (.aload_n 0, 1, []), (.getfield 15, 3, [8, 1, 479, 2]), (.iload_n 1, 1, []), (.iload_n 3, 1, []), (.iastore, 1, []), (.iconst 0, 1, [0]), (.istore 4, 2, []), (.nop, 0, [36])]
def kX8_lay_36 : List qIns := [(.iload 4, 2, []), (.iload_n 3, 1, []), (.if_icmp .ge 22, 3, [61]), (.aload_n 0, 1, []), (.getfield 18, 3, [8, 2, 480, 2]), (.iload_n 1, 1, []), (.bipush 60, 2, [60]), (.imul, 1, []), (.iload 4, 2, []), (.iadd, 1, []), (.lconst 0, 1, []), (.lastore, 1, []), (.iinc 4 1, 3, [1]), (.goto (-22), 3, [36])]
def kX8_lay_61 : List qIns := [(.return_, 1, [])]
def mX8_lay : qMI := (yX8_lay, cX8_lay, 5, none, 8, [848, 263, 846, 847], 3, false, [(0, kX8_lay_0), (18, kX8_lay_18), (19, kX8_lay_19), (36, kX8_lay_36), (61, kX8_lay_61)])
def kX8_put_0 : List qIns := [(.aload_n 0, 1, []), (.iload_n 1, 1, []), (.iload_n 2, 1, []), (.invokevirtual 29, 3, [112, 875, 3, 0, 9]), (.ifCond .eq 24, 3, [30]), (.aload_n 0, 1, []), (.getfield 18, 3, [8, 2, 480, 2]), (.iload_n 1, 1, []), (.bipush 60, 2, [60]), (.imul, 1, []), (.iload_n 2, 1, []), (.iadd, 1, []), (.lload_n 3, 1, []), (.aload_n 0, 1, []), (.getfield 9, 3, [8, 0, 478, 2]), (.iload_n 1, 1, []), (.iaload, 1, []), (.invokestatic 33, 3, [118, 876, 2, 1, 0]), (.lastore, 1, []), (.nop, 0, [30])]
def kX8_put_30 : List qIns := [(.return_, 1, [])]
def mX8_put : qMI := (yX8_put, cX8_put, 5, none, 8, [874, 263, 872, 873], 3, false, [(0, kX8_put_0), (30, kX8_put_30)])
def kX8_get_0 : List qIns := [(.aload_n 0, 1, []), (.iload_n 1, 1, []), (.iload_n 2, 1, []), (.invokevirtual 29, 3, [112, 875, 3, 0, 9]), (.ifCond .eq 17, 3, [23]), (.aload_n 0, 1, []), (.getfield 18, 3, [8, 2, 480, 2]), (.iload_n 1, 1, []), (.bipush 60, 2, [60]), (.imul, 1, []), (.iload_n 2, 1, []), (.iadd, 1, []), (.laload, 1, []), (.goto 6, 3, [26])]
def kX8_get_23 : List qIns := [(.ldc2_w 37, 3, [891, 1, 1]), (.nop, 0, [26])]
def kX8_get_26 : List qIns := [(.lreturn, 1, [])]
def mX8_get : qMI := (yX8_get, cX8_get, 3, (some .long), 8, [890, 263, 888, 889], 2, false, [(0, kX8_get_0), (23, kX8_get_23), (26, kX8_get_26)])
def kX8_move_0 : List qIns := [(.aload_n 0, 1, []), (.iload_n 1, 1, []), (.iload_n 2, 1, []), (.iload 5, 2, []), (.invokevirtual 39, 3, [113, 908, 4, 0, 9]), (.ifCond .eq 41, 3, [49]), (.aload_n 0, 1, []), (.iload_n 3, 1, []), (.iload 4, 2, []), (.iload 5, 2, []), (.invokevirtual 39, 3, [113, 908, 4, 0, 9]), (.ifCond .eq 29, 3, [49]), (.aload_n 0, 1, []), (.getfield 18, 3, [8, 2, 480, 2]), (.iload_n 1, 1, []), (.bipush 60, 2, [60]), (.imul, 1, []), (.iload_n 2, 1, []), (.iadd, 1, []), (.aload_n 0, 1, []), (.getfield 18, 3, [8, 2, 480, 2]), (.iload_n 3, 1, []), (.bipush 60, 2, [60]), (.imul, 1, []), (.iload 4, 2, []), (.iadd, 1, []), (.iload 5, 2, []), (.invokestatic 43, 3, [909]), (.nop, 0, [49])]
def kX8_move_49 : List qIns := [(.return_, 1, [])]
def mX8_move : qMI := (yX8_move, cX8_move, 6, none, 8, [907, 263, 905, 906], 5, false, [(0, kX8_move_0), (49, kX8_move_49)])
def kX8_cut_0 : List qIns := [(.iload_n 2, 1, []), (.tableswitch 41 0 2 #[27, 32, 37], 27, [42, 28, 33, 38])]
def kX8_cut_28 : List qIns := [(.lload_n 0, 1, []), (.l2i, 1, []), (.i2b, 1, []), (.i2l, 1, []), (.lreturn, 1, [])]
def kX8_cut_33 : List qIns := [(.lload_n 0, 1, []), (.l2i, 1, []), (.i2s, 1, []), (.i2l, 1, []), (.lreturn, 1, [])]
def kX8_cut_38 : List qIns := [(.lload_n 0, 1, []), (.l2i, 1, []), (.i2l, 1, []), (.lreturn, 1, [])]
def kX8_cut_42 : List qIns := [(.lload_n 0, 1, []), (.lreturn, 1, [])]
def mX8_cut : qMI := (yX8_cut, cX8_cut, 3, (some .long), 8, [878, 263, 877], 2, true, [(0, kX8_cut_0), (28, kX8_cut_28), (33, kX8_cut_33), (38, kX8_cut_38), (42, kX8_cut_42)])
def kX9_init_0 : List qIns := [(.aload_n 0, 1, []), (.nop, 0, [1])]
def kX9_init_1 : List qIns := [(.invokespecial 3, 3, [999, 648, 1, 2]), (.nop, 0, [4])]
def kX9_init_4 : List qIns := [(.aload_n 0, 1, []), (.iconst 0, 1, [0]), (.putfield 9, 3, [9, 0, 649, 3]), (.aload_n 0, 1, []), (.iconst 0, 1, [0]), (.putfield 15, 3, [9, 1, 652, 0]), (.aload_n 0, 1, []), (.iconst 0, 1, [0]), (.putfield 19, 3, [9, 2, 654, 0]), (.aload_n 0, 1, []), (.bipush 60, 2, [60]), (.nop, 0, [22])]
def kX9_init_22 : List qIns := [(.newarray .int, 2, []), (.nop, 0, [24])]
def kX9_init_24 : List qIns := [(.putfield 22, 3, [9, 3, 657, 2]), (.nop, 0, [27])]
def kX9_init_27 : List qIns := [(.aload_n 0, 1, []), (.bipush 60, 2, [60]), (.nop, 0, [30])]
def kX9_init_30 : List qIns := [(.newarray .int, 2, []), (.nop, 0, [32])]
def kX9_init_32 : List qIns := [(.putfield 26, 3, [9, 4, 659, 2]), (.nop, 0, [35])]
def kX9_init_35 : List qIns := [(.aload_n 0, 1, []), (.bipush 60, 2, [60]), (.nop, 0, [38])]
def kX9_init_38 : List qIns := [(.newarray .int, 2, []), (.nop, 0, [40])]
def kX9_init_40 : List qIns := [(.putfield 29, 3, [9, 5, 661, 2]), (.nop, 0, [43])]
def kX9_init_43 : List qIns := [(.aload_n 0, 1, []), (.bipush 60, 2, [60]), (.nop, 0, [46])]
def kX9_init_46 : List qIns := [(.newarray .int, 2, []), (.nop, 0, [48])]
def kX9_init_48 : List qIns := [(.putfield 32, 3, [9, 6, 663, 2]), (.nop, 0, [51])]
def kX9_init_51 : List qIns := [(.aload_n 0, 1, []), (.bipush 60, 2, [60]), (.nop, 0, [54])]
def kX9_init_54 : List qIns := [(.newarray .int, 2, []), (.nop, 0, [56])]
def kX9_init_56 : List qIns := [(.putfield 35, 3, [9, 7, 665, 2]), (.nop, 0, [59])]
def kX9_init_59 : List qIns := [(.return_, 1, [])]
def mX9_init : qMI := (yX9_init, cX9_init, 1, none, 9, [647, 271, 646, 0], 0, false, [(0, kX9_init_0), (1, kX9_init_1), (4, kX9_init_4), (22, kX9_init_22), (24, kX9_init_24), (27, kX9_init_27), (30, kX9_init_30), (32, kX9_init_32), (35, kX9_init_35), (38, kX9_init_38), (40, kX9_init_40), (43, kX9_init_43), (46, kX9_init_46), (48, kX9_init_48), (51, kX9_init_51), (54, kX9_init_54), (56, kX9_init_56), (59, kX9_init_59)])
def kX9_drop_0 : List qIns := [(.aload_n 0, 1, []), (.iconst 0, 1, [0]), (.putfield 9, 3, [9, 0, 649, 3]), (.aload_n 0, 1, []), (.iconst 0, 1, [0]), (.putfield 15, 3, [9, 1, 652, 0]), (.aload_n 0, 1, []), (.iconst 0, 1, [0]), (.putfield 19, 3, [9, 2, 654, 0]), (.return_, 1, [])]
def mX9_drop : qMI := (yX9_drop, cX9_drop, 1, none, 9, [1078, 271, 1076, 1077], 0, false, [(0, kX9_drop_0)])
def kX9_copy_0 : List qIns := [(.aload_n 1, 1, []), (.ifnonnull 4, 3, [5]), (.return_, 1, [])]
def kX9_copy_5 : List qIns := [(.aload_n 0, 1, []), (.aload_n 1, 1, []), (.getfield 9, 3, [9, 0, 649, 3]), (.putfield 9, 3, [9, 0, 649, 3]), (.aload_n 0, 1, []), (.aload_n 1, 1, []), (.getfield 15, 3, [9, 1, 652, 0]), (.putfield 15, 3, [9, 1, 652, 0]), (.aload_n 0, 1, []), (.aload_n 1, 1, []), (.getfield 19, 3, [9, 2, 654, 0]), (.putfield 19, 3, [9, 2, 654, 0]), (.aload_n 1, 1, []), (.getfield 22, 3, [9, 3, 657, 2]), (.iconst 0, 1, [0]), (.aload_n 0, 1, []), (.getfield 22, 3, [9, 3, 657, 2]), (.iconst 0, 1, [0]), (.bipush 60, 2, [60]), (.invokestatic 38, 3, [1159]), (.aload_n 1, 1, []), (.getfield 26, 3, [9, 4, 659, 2]), (.iconst 0, 1, [0]), (.aload_n 0, 1, []), (.getfield 26, 3, [9, 4, 659, 2]), (.iconst 0, 1, [0]), (.bipush 60, 2, [60]), (.invokestatic 38, 3, [1159]), (.aload_n 1, 1, []), (.getfield 29, 3, [9, 5, 661, 2]), (.iconst 0, 1, [0]), (.aload_n 0, 1, []), (.getfield 29, 3, [9, 5, 661, 2]), (.iconst 0, 1, [0]), (.bipush 60, 2, [60]), (.invokestatic 38, 3, [1159]), (.aload_n 1, 1, []), (.getfield 32, 3, [9, 6, 663, 2]), (.iconst 0, 1, [0]), (.aload_n 0, 1, []), (.getfield 32, 3, [9, 6, 663, 2]), (.iconst 0, 1, [0]), (.bipush 60, 2, [60]), (.invokestatic 38, 3, [1159]), (.aload_n 1, 1, []), (.getfield 35, 3, [9, 7, 665, 2]), (.iconst 0, 1, [0]), (.aload_n 0, 1, []), (.getfield 35, 3, [9, 7, 665, 2]), (.iconst 0, 1, [0]), (.bipush 60, 2, [60]), (.invokestatic 38, 3, [1159]), (.return_, 1, [])]
def mX9_copy : qMI := (yX9_copy, cX9_copy, 2, none, 9, [1158, 271, 1156, 1157], 1, false, [(0, kX9_copy_0), (5, kX9_copy_5)])
def kX9_hasLine_0 : List qIns := [(.iload_n 1, 1, []), (.ifCond .lt 24, 3, [25]), (.iload_n 1, 1, []), (.aload_n 0, 1, []), (.getfield 15, 3, [9, 1, 652, 0]), (.if_icmp .ge 16, 3, [25]), (.aload_n 0, 1, []), (.getfield 15, 3, [9, 1, 652, 0]), (.bipush 60, 2, [60]), (.if_icmp .gt 7, 3, [25]), (.iconst 1, 1, [1]), (.goto 4, 3, [26])]
def kX9_hasLine_25 : List qIns := [(.iconst 0, 1, [0]), (.nop, 0, [26])]
def kX9_hasLine_26 : List qIns := [(.ireturn, 1, [1])]
def mX9_hasLine : qMI := (yX9_hasLine, cX9_hasLine, 2, (some .boolean), 9, [1111, 271, 1109, 1110], 1, false, [(0, kX9_hasLine_0), (25, kX9_hasLine_25), (26, kX9_hasLine_26)])
def kX9_addLine_0 : List qIns := [(.aload_n 0, 1, []), (.getfield 15, 3, [9, 1, 652, 0]), (.ifCond .lt 75, 3, [79]), (.aload_n 0, 1, []), (.getfield 15, 3, [9, 1, 652, 0]), (.bipush 60, 2, [60]), (.if_icmp .ge 66, 3, [79]), (.aload_n 0, 1, []), (.getfield 22, 3, [9, 3, 657, 2]), (.aload_n 0, 1, []), (.getfield 15, 3, [9, 1, 652, 0]), (.iload_n 1, 1, []), (.iastore, 1, []), (.aload_n 0, 1, []), (.getfield 26, 3, [9, 4, 659, 2]), (.aload_n 0, 1, []), (.getfield 15, 3, [9, 1, 652, 0]), (.iconst 0, 1, [0]), (.iastore, 1, []), (.aload_n 0, 1, []), (.getfield 29, 3, [9, 5, 661, 2]), (.aload_n 0, 1, []), (.getfield 15, 3, [9, 1, 652, 0]), (.iconst 0, 1, [0]), (.iastore, 1, []), (.aload_n 0, 1, []), (.getfield 32, 3, [9, 6, 663, 2]), (.aload_n 0, 1, []), (.getfield 15, 3, [9, 1, 652, 0]), (.iconst 0, 1, [0]), (.iastore, 1, []), (.aload_n 0, 1, []), (.getfield 35, 3, [9, 7, 665, 2]), (.aload_n 0, 1, []), (.getfield 15, 3, [9, 1, 652, 0]), (.aload_n 0, 1, []), (.getfield 15, 3, [9, 1, 652, 0]), (.iastore, 1, []), (.aload_n 0, 1, []), (.dup, 1, []), (.getfield 15, 3, [9, 1, 652, 0]), (.iconst 1, 1, [1]), (.iadd, 1, []), (.putfield 15, 3, [9, 1, 652, 0]), (.nop, 0, [79])]
def kX9_addLine_79 : List qIns := [(.return_, 1, [])]
def mX9_addLine : qMI := (yX9_addLine, cX9_addLine, 2, none, 9, [1103, 271, 1101, 1102], 1, false, [(0, kX9_addLine_0), (79, kX9_addLine_79)])
def kX9_fill_0 : List qIns := [(.aload_n 0, 1, []), (.getfield 15, 3, [9, 1, 652, 0]), (.iconst 1, 1, [1]), (.isub, 1, []), (.istore 4, 2, []), (.aload_n 0, 1, []), (.iload 4, 2, []), (.invokevirtual 44, 3, [122, 1108, 2, 0, 10]), (.ifCond .eq 27, 3, [41]), (.aload_n 0, 1, []), (.getfield 26, 3, [9, 4, 659, 2]), (.iload 4, 2, []), (.iload_n 1, 1, []), (.iastore, 1, []), (.aload_n 0, 1, []), (.getfield 29, 3, [9, 5, 661, 2]), (.iload 4, 2, []), (.iload_n 2, 1, []), (.iastore, 1, []), (.aload_n 0, 1, []), (.getfield 32, 3, [9, 6, 663, 2]), (.iload 4, 2, []), (.iload_n 3, 1, []), (.iastore, 1, []), (.nop, 0, [41])]
def kX9_fill_41 : List qIns := [(.return_, 1, [])]
def mX9_fill : qMI := (yX9_fill, cX9_fill, 5, none, 9, [1133, 271, 1131, 1132], 3, false, [(0, kX9_fill_0), (41, kX9_fill_41)])
def kX9_join_0 : List qIns := [(.aload_n 0, 1, []), (.iload_n 1, 1, []), (.invokevirtual 44, 3, [122, 1108, 2, 0, 10]), (.ifCond .eq 25, 3, [30]), (.aload_n 0, 1, []), (.iload_n 2, 1, []), (.invokevirtual 44, 3, [122, 1108, 2, 0, 10]), (.ifCond .eq 17, 3, [30]), (.aload_n 0, 1, []), (.getfield 35, 3, [9, 7, 665, 2]), (.iload_n 1, 1, []), (.iload_n 2, 1, []), (.iastore, 1, []), (.aload_n 0, 1, []), (.getfield 35, 3, [9, 7, 665, 2]), (.iload_n 2, 1, []), (.iload_n 1, 1, []), (.iastore, 1, []), (.nop, 0, [30])]
def kX9_join_30 : List qIns := [(.return_, 1, [])]
def mX9_join : qMI := (yX9_join, cX9_join, 3, none, 9, [1107, 271, 1105, 1106], 2, false, [(0, kX9_join_0), (30, kX9_join_30)])
def kX10_init_0 : List qIns := [(.aload_n 0, 1, []), (.nop, 0, [1])]
def kX10_init_1 : List qIns := [(.invokespecial 3, 3, [999, 642, 1, 2]), (.nop, 0, [4])]
def kX10_init_4 : List qIns := [(.aload_n 0, 1, []), (.nop, 0, [5])]
def kX10_init_5 : List qIns := [(.new 9, 3, []), (.nop, 0, [8])]
def kX10_init_8 : List qIns := [(.dup, 1, []), (.nop, 0, [9])]
def kX10_init_9 : List qIns := [(.invokespecial 11, 3, [119, 645, 1, 2]), (.nop, 0, [12])]
def kX10_init_12 : List qIns := [(.putfield 12, 3, [10, 1, 685, 2]), (.nop, 0, [15])]
def kX10_init_15 : List qIns := [(.aload_n 0, 1, []), (.iconst 3, 1, [3]), (.nop, 0, [17])]
def kX10_init_17 : List qIns := [(.newarray .int, 2, []), (.nop, 0, [19])]
def kX10_init_19 : List qIns := [(.putfield 18, 3, [10, 2, 687, 2]), (.nop, 0, [22])]
def kX10_init_22 : List qIns := [(.aload_n 0, 1, []), (.iconst 0, 1, [0]), (.putfield 22, 3, [10, 3, 688, 0]), (.aload_n 0, 1, []), (.aload_n 1, 1, []), (.nop, 0, [29])]
def kX10_init_29 : List qIns := [(.putfield 26, 3, [10, 0, 684, 2]), (.nop, 0, [32])]
def kX10_init_32 : List qIns := [(.return_, 1, [])]
def mX10_init : qMI := (yX10_init, cX10_init, 2, none, 10, [641, 270, 640, 0], 1, false, [(0, kX10_init_0), (1, kX10_init_1), (4, kX10_init_4), (5, kX10_init_5), (8, kX10_init_8), (9, kX10_init_9), (12, kX10_init_12), (15, kX10_init_15), (17, kX10_init_17), (19, kX10_init_19), (22, kX10_init_22), (29, kX10_init_29), (32, kX10_init_32)])
def kX10_takeIn_0 : List qIns := [(.aload_n 0, 1, []), (.getfield 12, 3, [10, 1, 685, 2]), (.invokevirtual 30, 3, [120, 1091, 1, 2, 10]), (.aload_n 0, 1, []), (.getfield 12, 3, [10, 1, 685, 2]), (.iconst 1, 1, [1]), (.putfield 33, 3, [9, 0, 650, 3]), (.aload_n 0, 1, []), (.iconst 0, 1, [0]), (.putfield 22, 3, [10, 3, 688, 0]), (.aload_n 0, 1, []), (.getfield 26, 3, [10, 0, 684, 2]), (.iload_n 1, 1, []), (.invokevirtual 37, 3, [91, 1092, 2, 2, 8]), (.iconst 1, 1, [1]), (.istore_n 3, 1, []), (.iconst 0, 1, [0]), (.istore 4, 2, []), (.nop, 0, [33])]
def kX10_takeIn_33 : List qIns := [(.iload 4, 2, []), (.sipush 300, 3, [300]), (.if_icmp .gt 82, 3, [120]), (.iload_n 3, 1, []), (.ifCond .eq 78, 3, [120]), (.aload_n 0, 1, []), (.getfield 26, 3, [10, 0, 684, 2]), (.invokevirtual 43, 3, [99, 1093, 1, 0, 8]), (.ifCond .ne 68, 3, [120]), (.aload_n 0, 1, []), (.getfield 26, 3, [10, 0, 684, 2]), (.getfield 47, 3, [7, 7, 574, 0]), (.istore 5, 2, []), (.iload 5, 2, []), (.bipush 20, 2, [20]), (.if_icmp .ne 11, 3, [79]), (.aload_n 0, 1, []), (.invokevirtual 50, 3, [130, 1094, 1, 0, 11]), (.istore_n 3, 1, []), (.goto 38, 3, [114])]
def kX10_takeIn_79 : List qIns := [(.aload_n 0, 1, []), (.iload 5, 2, []), (.invokevirtual 53, 3, [128, 1113, 2, 0, 11]), (.ifCond .eq 27, 3, [112]), (.aload_n 0, 1, []), (.iload 5, 2, []), (.aload_n 2, 1, []), (.invokevirtual 57, 3, [131, 1121, 3, 0, 11]), (.ifCond .eq 17, 3, [112]), (.aload_n 0, 1, []), (.getfield 26, 3, [10, 0, 684, 2]), (.invokevirtual 61, 3, [105, 1112, 1, 0, 8]), (.ifCond .eq 7, 3, [112]), (.iconst 1, 1, [1]), (.goto 4, 3, [113])]
def kX10_takeIn_112 : List qIns := [(.iconst 0, 1, [0]), (.nop, 0, [113])]
def kX10_takeIn_113 : List qIns := [(.istore_n 3, 1, []), (.nop, 0, [114])]
def kX10_takeIn_114 : List qIns := [(.iinc 4 1, 3, [1]), (.goto (-84), 3, [33])]
def kX10_takeIn_120 : List qIns := [(.iload_n 3, 1, []), (.ifCond .eq 24, 3, [145]), (.aload_n 0, 1, []), (.getfield 22, 3, [10, 3, 688, 0]), (.ifCond .eq 13, 3, [141]), (.aload_n 0, 1, []), (.getfield 26, 3, [10, 0, 684, 2]), (.invokevirtual 64, 3, [101, 1098, 1, 0, 8]), (.ifCond .eq 7, 3, [145]), (.nop, 0, [141])]
def kX10_takeIn_141 : List qIns := [(.iconst 1, 1, [1]), (.goto 4, 3, [146])]
def kX10_takeIn_145 : List qIns := [(.iconst 0, 1, [0]), (.nop, 0, [146])]
def kX10_takeIn_146 : List qIns := [(.ireturn, 1, [1])]
def mX10_takeIn : qMI := (yX10_takeIn, cX10_takeIn, 6, (some .boolean), 10, [1090, 270, 1088, 1089], 2, false, [(0, kX10_takeIn_0), (33, kX10_takeIn_33), (79, kX10_takeIn_79), (112, kX10_takeIn_112), (113, kX10_takeIn_113), (114, kX10_takeIn_114), (120, kX10_takeIn_120), (141, kX10_takeIn_141), (145, kX10_takeIn_145), (146, kX10_takeIn_146)])
def kX10_beginStep_0 : List qIns := [(.iload_n 1, 1, []), (.bipush 15, 2, [15]), (.if_icmp .eq 9, 3, [12]), (.iload_n 1, 1, []), (.bipush 19, 2, [19]), (.if_icmp .ne 7, 3, [16]), (.nop, 0, [12])]
def kX10_beginStep_12 : List qIns := [(.iconst 1, 1, [1]), (.goto 4, 3, [17])]
def kX10_beginStep_16 : List qIns := [(.iconst 0, 1, [0]), (.nop, 0, [17])]
def kX10_beginStep_17 : List qIns := [(.istore_n 2, 1, []), (.iload_n 1, 1, []), (.invokestatic 67, 3, [129, 1117, 1, 0, 0]), (.ifCond .ne 11, 3, [33]), (.aload_n 0, 1, []), (.getfield 26, 3, [10, 0, 684, 2]), (.invokevirtual 64, 3, [101, 1098, 1, 0, 8]), (.ireturn, 1, [1])]
def kX10_beginStep_33 : List qIns := [(.aload_n 0, 1, []), (.getfield 12, 3, [10, 1, 685, 2]), (.getfield 70, 3, [9, 2, 655, 0]), (.bipush 30, 2, [30]), (.if_icmp .lt 13, 3, [55]), (.aload_n 0, 1, []), (.getfield 26, 3, [10, 0, 684, 2]), (.bipush 6, 2, [6]), (.invokevirtual 73, 3, [100, 1120, 2, 0, 8]), (.ireturn, 1, [1])]
def kX10_beginStep_55 : List qIns := [(.iload_n 2, 1, []), (.ifCond .eq 21, 3, [77]), (.aload_n 0, 1, []), (.getfield 22, 3, [10, 3, 688, 0]), (.iconst 3, 1, [3]), (.if_icmp .lt 13, 3, [77]), (.aload_n 0, 1, []), (.getfield 26, 3, [10, 0, 684, 2]), (.bipush 7, 2, [7]), (.invokevirtual 73, 3, [100, 1120, 2, 0, 8]), (.ireturn, 1, [1])]
def kX10_beginStep_77 : List qIns := [(.aload_n 0, 1, []), (.getfield 26, 3, [10, 0, 684, 2]), (.invokevirtual 76, 3, [93, 1099, 1, 2, 8]), (.aload_n 0, 1, []), (.getfield 12, 3, [10, 1, 685, 2]), (.iload_n 1, 1, []), (.invokevirtual 79, 3, [123, 1100, 2, 2, 10]), (.aload_n 0, 1, []), (.getfield 12, 3, [10, 1, 685, 2]), (.dup, 1, []), (.getfield 70, 3, [9, 2, 655, 0]), (.iconst 1, 1, [1]), (.iadd, 1, []), (.putfield 70, 3, [9, 2, 655, 0]), (.iload_n 2, 1, []), (.ifCond .eq 46, 3, [152]), (.aload_n 0, 1, []), (.getfield 22, 3, [10, 3, 688, 0]), (.ifCond .lt 39, 3, [152]), (.aload_n 0, 1, []), (.getfield 22, 3, [10, 3, 688, 0]), (.iconst 3, 1, [3]), (.if_icmp .ge 31, 3, [152]), (.aload_n 0, 1, []), (.getfield 18, 3, [10, 2, 687, 2]), (.aload_n 0, 1, []), (.getfield 22, 3, [10, 3, 688, 0]), (.aload_n 0, 1, []), (.getfield 12, 3, [10, 1, 685, 2]), (.getfield 82, 3, [9, 1, 653, 0]), (.iconst 1, 1, [1]), (.isub, 1, []), (.iastore, 1, []), (.aload_n 0, 1, []), (.dup, 1, []), (.getfield 22, 3, [10, 3, 688, 0]), (.iconst 1, 1, [1]), (.iadd, 1, []), (.putfield 22, 3, [10, 3, 688, 0]), (.nop, 0, [152])]
def kX10_beginStep_152 : List qIns := [(.iconst 1, 1, [1]), (.ireturn, 1, [1])]
def mX10_beginStep : qMI := (yX10_beginStep, cX10_beginStep, 3, (some .boolean), 10, [1116, 270, 1115, 15], 1, false, [(0, kX10_beginStep_0), (12, kX10_beginStep_12), (16, kX10_beginStep_16), (17, kX10_beginStep_17), (33, kX10_beginStep_33), (55, kX10_beginStep_55), (77, kX10_beginStep_77), (152, kX10_beginStep_152)])
def kX10_isStep_0 : List qIns := [(.iload_n 0, 1, []), (.bipush 8, 2, [8]), (.if_icmp .eq 27, 3, [30]), (.iload_n 0, 1, []), (.bipush 19, 2, [19]), (.if_icmp .eq 21, 3, [30]), (.iload_n 0, 1, []), (.bipush 21, 2, [21]), (.if_icmp .eq 15, 3, [30]), (.iload_n 0, 1, []), (.bipush 10, 2, [10]), (.if_icmp .lt 13, 3, [34]), (.iload_n 0, 1, []), (.bipush 15, 2, [15]), (.if_icmp .gt 7, 3, [34]), (.nop, 0, [30])]
def kX10_isStep_30 : List qIns := [(.iconst 1, 1, [1]), (.goto 4, 3, [35])]
def kX10_isStep_34 : List qIns := [(.iconst 0, 1, [0]), (.nop, 0, [35])]
def kX10_isStep_35 : List qIns := [(.ireturn, 1, [1])]
def mX10_isStep : qMI := (yX10_isStep, cX10_isStep, 1, (some .boolean), 10, [1119, 270, 1118], 1, true, [(0, kX10_isStep_0), (30, kX10_isStep_30), (34, kX10_isStep_34), (35, kX10_isStep_35)])
def kX10_takeEnd_0 : List qIns := [(.aload_n 0, 1, []), (.getfield 22, 3, [10, 3, 688, 0]), (.iconst 1, 1, [1]), (.if_icmp .lt 11, 3, [16]), (.aload_n 0, 1, []), (.getfield 22, 3, [10, 3, 688, 0]), (.iconst 3, 1, [3]), (.if_icmp .le 11, 3, [24]), (.nop, 0, [16])]
def kX10_takeEnd_16 : List qIns := [(.aload_n 0, 1, []), (.getfield 26, 3, [10, 0, 684, 2]), (.invokevirtual 64, 3, [101, 1098, 1, 0, 8]), (.ireturn, 1, [1])]
def kX10_takeEnd_24 : List qIns := [(.aload_n 0, 1, []), (.getfield 26, 3, [10, 0, 684, 2]), (.invokevirtual 76, 3, [93, 1099, 1, 2, 8]), (.aload_n 0, 1, []), (.getfield 12, 3, [10, 1, 685, 2]), (.bipush 20, 2, [20]), (.invokevirtual 79, 3, [123, 1100, 2, 2, 10]), (.aload_n 0, 1, []), (.dup, 1, []), (.getfield 22, 3, [10, 3, 688, 0]), (.iconst 1, 1, [1]), (.isub, 1, []), (.putfield 22, 3, [10, 3, 688, 0]), (.aload_n 0, 1, []), (.getfield 12, 3, [10, 1, 685, 2]), (.aload_n 0, 1, []), (.getfield 18, 3, [10, 2, 687, 2]), (.aload_n 0, 1, []), (.getfield 22, 3, [10, 3, 688, 0]), (.iaload, 1, []), (.aload_n 0, 1, []), (.getfield 12, 3, [10, 1, 685, 2]), (.getfield 82, 3, [9, 1, 653, 0]), (.iconst 1, 1, [1]), (.isub, 1, []), (.invokevirtual 85, 3, [125, 1104, 3, 2, 10]), (.aload_n 0, 1, []), (.getfield 26, 3, [10, 0, 684, 2]), (.invokevirtual 61, 3, [105, 1112, 1, 0, 8]), (.ireturn, 1, [1])]
def mX10_takeEnd : qMI := (yX10_takeEnd, cX10_takeEnd, 1, (some .boolean), 10, [1097, 270, 1096, 14], 0, false, [(0, kX10_takeEnd_0), (16, kX10_takeEnd_16), (24, kX10_takeEnd_24)])
def kX10_takeRest_0 : List qIns := [(.iload_n 1, 1, []), (.tableswitch 103 8 19 #[79, 103, 63, 103, 85, 91, 103, 97, 103, 103, 103, 71], 63, [104, 80, 104, 64, 104, 86, 92, 104, 98, 104, 104, 104, 72])]
def kX10_takeRest_64 : List qIns := [(.aload_n 0, 1, []), (.iconst 1, 1, [1]), (.bipush 60, 2, [60]), (.invokevirtual 89, 3, [132, 1125, 3, 0, 11]), (.ireturn, 1, [1])]
def kX10_takeRest_72 : List qIns := [(.aload_n 0, 1, []), (.iconst 1, 1, [1]), (.bipush 99, 2, [99]), (.invokevirtual 89, 3, [132, 1125, 3, 0, 11]), (.ireturn, 1, [1])]
def kX10_takeRest_80 : List qIns := [(.aload_n 0, 1, []), (.aload_n 2, 1, []), (.invokevirtual 93, 3, [133, 1134, 2, 0, 11]), (.ireturn, 1, [1])]
def kX10_takeRest_86 : List qIns := [(.aload_n 0, 1, []), (.aload_n 2, 1, []), (.invokevirtual 97, 3, [134, 1139, 2, 0, 11]), (.ireturn, 1, [1])]
def kX10_takeRest_92 : List qIns := [(.aload_n 0, 1, []), (.aload_n 2, 1, []), (.invokevirtual 100, 3, [135, 1143, 2, 0, 11]), (.ireturn, 1, [1])]
def kX10_takeRest_98 : List qIns := [(.aload_n 0, 1, []), (.aload_n 2, 1, []), (.invokevirtual 103, 3, [136, 1147, 2, 0, 11]), (.ireturn, 1, [1])]
def kX10_takeRest_104 : List qIns := [(.iconst 1, 1, [1]), (.ireturn, 1, [1])]
def mX10_takeRest : qMI := (yX10_takeRest, cX10_takeRest, 3, (some .boolean), 10, [1124, 270, 1123, 16], 2, false, [(0, kX10_takeRest_0), (64, kX10_takeRest_64), (72, kX10_takeRest_72), (80, kX10_takeRest_80), (86, kX10_takeRest_86), (92, kX10_takeRest_92), (98, kX10_takeRest_98), (104, kX10_takeRest_104)])
def kX10_takeOne_0 : List qIns := [(.aload_n 0, 1, []), (.getfield 26, 3, [10, 0, 684, 2]), (.iload_n 1, 1, []), (.iload_n 2, 1, []), (.invokevirtual 106, 3, [104, 1129, 3, 0, 8]), (.ifCond .ne 5, 3, [14]), (.iconst 0, 1, [0]), (.ireturn, 1, [1])]
def kX10_takeOne_14 : List qIns := [(.aload_n 0, 1, []), (.getfield 12, 3, [10, 1, 685, 2]), (.aload_n 0, 1, []), (.getfield 26, 3, [10, 0, 684, 2]), (.getfield 109, 3, [7, 10, 579, 0]), (.iconst 0, 1, [0]), (.iconst 0, 1, [0]), (.invokevirtual 112, 3, [124, 1130, 4, 2, 10]), (.iconst 1, 1, [1]), (.ireturn, 1, [1])]
def mX10_takeOne : qMI := (yX10_takeOne, cX10_takeOne, 3, (some .boolean), 10, [1128, 270, 1127, 17], 2, false, [(0, kX10_takeOne_0), (14, kX10_takeOne_14)])
def kX10_takePair_0 : List qIns := [(.aload_n 0, 1, []), (.getfield 26, 3, [10, 0, 684, 2]), (.aload_n 1, 1, []), (.invokevirtual 116, 3, [107, 1138, 2, 0, 8]), (.istore_n 2, 1, []), (.iload_n 2, 1, []), (.iconst (-1), 1, []), (.if_icmp .ne 5, 3, [16]), (.iconst 0, 1, [0]), (.ireturn, 1, [1])]
def kX10_takePair_16 : List qIns := [(.aload_n 0, 1, []), (.getfield 26, 3, [10, 0, 684, 2]), (.invokevirtual 76, 3, [93, 1099, 1, 2, 8]), (.aload_n 0, 1, []), (.getfield 26, 3, [10, 0, 684, 2]), (.aload_n 1, 1, []), (.invokevirtual 116, 3, [107, 1138, 2, 0, 8]), (.istore_n 3, 1, []), (.iload_n 3, 1, []), (.iconst (-1), 1, []), (.if_icmp .ne 5, 3, [39]), (.iconst 0, 1, [0]), (.ireturn, 1, [1])]
def kX10_takePair_39 : List qIns := [(.aload_n 0, 1, []), (.getfield 26, 3, [10, 0, 684, 2]), (.invokevirtual 76, 3, [93, 1099, 1, 2, 8]), (.aload_n 0, 1, []), (.getfield 26, 3, [10, 0, 684, 2]), (.iconst 0, 1, [0]), (.bipush 99, 2, [99]), (.invokevirtual 106, 3, [104, 1129, 3, 0, 8]), (.ifCond .ne 5, 3, [61]), (.iconst 0, 1, [0]), (.ireturn, 1, [1])]
def kX10_takePair_61 : List qIns := [(.aload_n 0, 1, []), (.getfield 12, 3, [10, 1, 685, 2]), (.iload_n 2, 1, []), (.iload_n 3, 1, []), (.aload_n 0, 1, []), (.getfield 26, 3, [10, 0, 684, 2]), (.getfield 109, 3, [7, 10, 579, 0]), (.invokevirtual 112, 3, [124, 1130, 4, 2, 10]), (.iconst 1, 1, [1]), (.ireturn, 1, [1])]
def mX10_takePair : qMI := (yX10_takePair, cX10_takePair, 4, (some .boolean), 10, [1137, 270, 1136, 18], 1, false, [(0, kX10_takePair_0), (16, kX10_takePair_16), (39, kX10_takePair_39), (61, kX10_takePair_61)])
def kX10_takeBoy_0 : List qIns := [(.aload_n 0, 1, []), (.getfield 26, 3, [10, 0, 684, 2]), (.aload_n 1, 1, []), (.invokevirtual 116, 3, [107, 1138, 2, 0, 8]), (.istore_n 2, 1, []), (.iload_n 2, 1, []), (.iconst (-1), 1, []), (.if_icmp .ne 5, 3, [16]), (.iconst 0, 1, [0]), (.ireturn, 1, [1])]
def kX10_takeBoy_16 : List qIns := [(.aload_n 0, 1, []), (.getfield 26, 3, [10, 0, 684, 2]), (.invokevirtual 76, 3, [93, 1099, 1, 2, 8]), (.aload_n 0, 1, []), (.getfield 12, 3, [10, 1, 685, 2]), (.iload_n 2, 1, []), (.iconst 0, 1, [0]), (.iconst 0, 1, [0]), (.invokevirtual 112, 3, [124, 1130, 4, 2, 10]), (.iconst 1, 1, [1]), (.ireturn, 1, [1])]
def mX10_takeBoy : qMI := (yX10_takeBoy, cX10_takeBoy, 3, (some .boolean), 10, [1142, 270, 1141, 19], 1, false, [(0, kX10_takeBoy_0), (16, kX10_takeBoy_16)])
def kX10_takeBoyAndCell_0 : List qIns := [(.aload_n 0, 1, []), (.getfield 26, 3, [10, 0, 684, 2]), (.aload_n 1, 1, []), (.invokevirtual 116, 3, [107, 1138, 2, 0, 8]), (.istore_n 2, 1, []), (.iload_n 2, 1, []), (.iconst (-1), 1, []), (.if_icmp .ne 5, 3, [16]), (.iconst 0, 1, [0]), (.ireturn, 1, [1])]
def kX10_takeBoyAndCell_16 : List qIns := [(.aload_n 0, 1, []), (.getfield 26, 3, [10, 0, 684, 2]), (.invokevirtual 76, 3, [93, 1099, 1, 2, 8]), (.aload_n 0, 1, []), (.getfield 26, 3, [10, 0, 684, 2]), (.iconst 0, 1, [0]), (.aload_n 1, 1, []), (.getfield 120, 3, [1, 0, 298, 0]), (.aload_n 1, 1, []), (.getfield 125, 3, [1, 1, 303, 0]), (.imul, 1, []), (.iconst 1, 1, [1]), (.isub, 1, []), (.invokevirtual 106, 3, [104, 1129, 3, 0, 8]), (.ifCond .ne 5, 3, [47]), (.iconst 0, 1, [0]), (.ireturn, 1, [1])]
def kX10_takeBoyAndCell_47 : List qIns := [(.aload_n 0, 1, []), (.getfield 12, 3, [10, 1, 685, 2]), (.iload_n 2, 1, []), (.aload_n 0, 1, []), (.getfield 26, 3, [10, 0, 684, 2]), (.getfield 109, 3, [7, 10, 579, 0]), (.iconst 0, 1, [0]), (.invokevirtual 112, 3, [124, 1130, 4, 2, 10]), (.iconst 1, 1, [1]), (.ireturn, 1, [1])]
def mX10_takeBoyAndCell : qMI := (yX10_takeBoyAndCell, cX10_takeBoyAndCell, 3, (some .boolean), 10, [1146, 270, 1145, 20], 1, false, [(0, kX10_takeBoyAndCell_0), (16, kX10_takeBoyAndCell_16), (47, kX10_takeBoyAndCell_47)])
def kX10_takeTest_0 : List qIns := [(.aload_n 0, 1, []), (.getfield 26, 3, [10, 0, 684, 2]), (.getfield 47, 3, [7, 7, 574, 0]), (.istore_n 2, 1, []), (.iload_n 2, 1, []), (.bipush 16, 2, [16]), (.if_icmp .eq 23, 3, [34]), (.iload_n 2, 1, []), (.bipush 17, 2, [17]), (.if_icmp .eq 17, 3, [34]), (.iload_n 2, 1, []), (.bipush 18, 2, [18]), (.if_icmp .eq 11, 3, [34]), (.aload_n 0, 1, []), (.getfield 26, 3, [10, 0, 684, 2]), (.invokevirtual 64, 3, [101, 1098, 1, 0, 8]), (.ireturn, 1, [1])]
def kX10_takeTest_34 : List qIns := [(.aload_n 0, 1, []), (.getfield 26, 3, [10, 0, 684, 2]), (.invokevirtual 76, 3, [93, 1099, 1, 2, 8]), (.iload_n 2, 1, []), (.bipush 16, 2, [16]), (.if_icmp .ne 38, 3, [82]), (.aload_n 0, 1, []), (.getfield 26, 3, [10, 0, 684, 2]), (.aload_n 1, 1, []), (.invokevirtual 116, 3, [107, 1138, 2, 0, 8]), (.istore_n 3, 1, []), (.iload_n 3, 1, []), (.iconst (-1), 1, []), (.if_icmp .ne 5, 3, [63]), (.iconst 0, 1, [0]), (.ireturn, 1, [1])]
def kX10_takeTest_63 : List qIns := [(.aload_n 0, 1, []), (.getfield 26, 3, [10, 0, 684, 2]), (.invokevirtual 76, 3, [93, 1099, 1, 2, 8]), (.aload_n 0, 1, []), (.getfield 12, 3, [10, 1, 685, 2]), (.iload_n 2, 1, []), (.iload_n 3, 1, []), (.iconst 0, 1, [0]), (.invokevirtual 112, 3, [124, 1130, 4, 2, 10]), (.iconst 1, 1, [1]), (.ireturn, 1, [1])]
def kX10_takeTest_82 : List qIns := [(.aload_n 0, 1, []), (.getfield 26, 3, [10, 0, 684, 2]), (.invokevirtual 128, 3, [106, 1151, 1, 0, 8]), (.ifCond .ne 5, 3, [94]), (.iconst 0, 1, [0]), (.ireturn, 1, [1])]
def kX10_takeTest_94 : List qIns := [(.aload_n 0, 1, []), (.getfield 26, 3, [10, 0, 684, 2]), (.getfield 109, 3, [7, 10, 579, 0]), (.istore_n 3, 1, []), (.aload_n 0, 1, []), (.getfield 26, 3, [10, 0, 684, 2]), (.iconst 0, 1, [0]), (.iload_n 2, 1, []), (.bipush 17, 2, [17]), (.if_icmp .ne 8, 3, [118]), (.bipush 10, 2, [10]), (.goto 6, 3, [121])]
def kX10_takeTest_118 : List qIns := [(.sipush 9999, 3, [9999]), (.nop, 0, [121])]
def kX10_takeTest_121 : List qIns := [(.invokevirtual 106, 3, [104, 1129, 3, 0, 8]), (.ifCond .ne 5, 3, [129]), (.iconst 0, 1, [0]), (.ireturn, 1, [1])]
def kX10_takeTest_129 : List qIns := [(.aload_n 0, 1, []), (.getfield 12, 3, [10, 1, 685, 2]), (.iload_n 2, 1, []), (.iload_n 3, 1, []), (.aload_n 0, 1, []), (.getfield 26, 3, [10, 0, 684, 2]), (.getfield 109, 3, [7, 10, 579, 0]), (.invokevirtual 112, 3, [124, 1130, 4, 2, 10]), (.iconst 1, 1, [1]), (.ireturn, 1, [1])]
def mX10_takeTest : qMI := (yX10_takeTest, cX10_takeTest, 4, (some .boolean), 10, [1150, 270, 1149, 21], 1, false, [(0, kX10_takeTest_0), (34, kX10_takeTest_34), (63, kX10_takeTest_63), (82, kX10_takeTest_82), (94, kX10_takeTest_94), (118, kX10_takeTest_118), (121, kX10_takeTest_121), (129, kX10_takeTest_129)])
def kX11_init_0 : List qIns := [(.aload_n 0, 1, []), (.nop, 0, [1])]
def kX11_init_1 : List qIns := [(.invokespecial 1, 3, [999, 282, 1, 2]), (.nop, 0, [4])]
def kX11_init_4 : List qIns := [(.aload_n 0, 1, []), (.nop, 0, [5])]
def kX11_init_5 : List qIns := [(.new 7, 3, []), (.nop, 0, [8])]
def kX11_init_8 : List qIns := [(.dup, 1, []), (.nop, 0, [9])]
def kX11_init_9 : List qIns := [(.invokespecial 9, 3, [7, 287, 1, 2]), (.nop, 0, [12])]
def kX11_init_12 : List qIns := [(.putfield 10, 3, [11, 0, 739, 2]), (.nop, 0, [15])]
def kX11_init_15 : List qIns := [(.aload_n 0, 1, []), (.nop, 0, [16])]
def kX11_init_16 : List qIns := [(.new 7, 3, []), (.nop, 0, [19])]
def kX11_init_19 : List qIns := [(.dup, 1, []), (.nop, 0, [20])]
def kX11_init_20 : List qIns := [(.invokespecial 9, 3, [7, 287, 1, 2]), (.nop, 0, [23])]
def kX11_init_23 : List qIns := [(.putfield 16, 3, [11, 1, 740, 2]), (.nop, 0, [26])]
def kX11_init_26 : List qIns := [(.aload_n 0, 1, []), (.nop, 0, [27])]
def kX11_init_27 : List qIns := [(.new 19, 3, []), (.nop, 0, [30])]
def kX11_init_30 : List qIns := [(.dup, 1, []), (.nop, 0, [31])]
def kX11_init_31 : List qIns := [(.invokespecial 21, 3, [0, 393, 1, 2]), (.nop, 0, [34])]
def kX11_init_34 : List qIns := [(.putfield 22, 3, [11, 2, 741, 2]), (.nop, 0, [37])]
def kX11_init_37 : List qIns := [(.aload_n 0, 1, []), (.nop, 0, [38])]
def kX11_init_38 : List qIns := [(.new 26, 3, []), (.nop, 0, [41])]
def kX11_init_41 : List qIns := [(.dup, 1, []), (.aload_n 0, 1, []), (.getfield 16, 3, [11, 1, 740, 2]), (.aload_n 0, 1, []), (.getfield 22, 3, [11, 2, 741, 2]), (.nop, 0, [50])]
def kX11_init_50 : List qIns := [(.invokespecial 28, 3, [74, 419, 3, 2]), (.nop, 0, [53])]
def kX11_init_53 : List qIns := [(.putfield 31, 3, [11, 3, 742, 2]), (.nop, 0, [56])]
def kX11_init_56 : List qIns := [(.aload_n 0, 1, []), (.nop, 0, [57])]
def kX11_init_57 : List qIns := [(.new 35, 3, []), (.nop, 0, [60])]
def kX11_init_60 : List qIns := [(.dup, 1, []), (.aload_n 0, 1, []), (.getfield 16, 3, [11, 1, 740, 2]), (.aload_n 0, 1, []), (.getfield 22, 3, [11, 2, 741, 2]), (.nop, 0, [69])]
def kX11_init_69 : List qIns := [(.invokespecial 37, 3, [40, 436, 3, 2]), (.nop, 0, [72])]
def kX11_init_72 : List qIns := [(.putfield 38, 3, [11, 4, 743, 2]), (.nop, 0, [75])]
def kX11_init_75 : List qIns := [(.aload_n 0, 1, []), (.nop, 0, [76])]
def kX11_init_76 : List qIns := [(.new 42, 3, []), (.nop, 0, [79])]
def kX11_init_79 : List qIns := [(.dup, 1, []), (.aload_n 0, 1, []), (.getfield 16, 3, [11, 1, 740, 2]), (.aload_n 0, 1, []), (.getfield 22, 3, [11, 2, 741, 2]), (.nop, 0, [88])]
def kX11_init_88 : List qIns := [(.invokespecial 44, 3, [50, 461, 3, 2]), (.nop, 0, [91])]
def kX11_init_91 : List qIns := [(.putfield 45, 3, [11, 5, 744, 2]), (.nop, 0, [94])]
def kX11_init_94 : List qIns := [(.aload_n 0, 1, []), (.nop, 0, [95])]
def kX11_init_95 : List qIns := [(.new 49, 3, []), (.nop, 0, [98])]
def kX11_init_98 : List qIns := [(.dup, 1, []), (.nop, 0, [99])]
def kX11_init_99 : List qIns := [(.invokespecial 51, 3, [108, 474, 1, 2]), (.nop, 0, [102])]
def kX11_init_102 : List qIns := [(.putfield 52, 3, [11, 6, 745, 2]), (.nop, 0, [105])]
def kX11_init_105 : List qIns := [(.aload_n 0, 1, []), (.nop, 0, [106])]
def kX11_init_106 : List qIns := [(.new 56, 3, []), (.nop, 0, [109])]
def kX11_init_109 : List qIns := [(.dup, 1, []), (.nop, 0, [110])]
def kX11_init_110 : List qIns := [(.invokespecial 58, 3, [87, 490, 1, 2]), (.nop, 0, [113])]
def kX11_init_113 : List qIns := [(.putfield 59, 3, [11, 7, 746, 2]), (.nop, 0, [116])]
def kX11_init_116 : List qIns := [(.aload_n 0, 1, []), (.nop, 0, [117])]
def kX11_init_117 : List qIns := [(.new 63, 3, []), (.nop, 0, [120])]
def kX11_init_120 : List qIns := [(.dup, 1, []), (.aload_n 0, 1, []), (.getfield 59, 3, [11, 7, 746, 2]), (.nop, 0, [125])]
def kX11_init_125 : List qIns := [(.invokespecial 65, 3, [33, 617, 2, 2]), (.nop, 0, [128])]
def kX11_init_128 : List qIns := [(.putfield 68, 3, [11, 8, 747, 2]), (.nop, 0, [131])]
def kX11_init_131 : List qIns := [(.aload_n 0, 1, []), (.nop, 0, [132])]
def kX11_init_132 : List qIns := [(.new 72, 3, []), (.nop, 0, [135])]
def kX11_init_135 : List qIns := [(.dup, 1, []), (.aload_n 0, 1, []), (.getfield 59, 3, [11, 7, 746, 2]), (.nop, 0, [140])]
def kX11_init_140 : List qIns := [(.invokespecial 74, 3, [126, 639, 2, 2]), (.nop, 0, [143])]
def kX11_init_143 : List qIns := [(.putfield 75, 3, [11, 9, 748, 2]), (.nop, 0, [146])]
def kX11_init_146 : List qIns := [(.aload_n 0, 1, []), (.nop, 0, [147])]
def kX11_init_147 : List qIns := [(.new 79, 3, []), (.nop, 0, [150])]
def kX11_init_150 : List qIns := [(.dup, 1, []), (.nop, 0, [151])]
def kX11_init_151 : List qIns := [(.invokespecial 81, 3, [119, 699, 1, 2]), (.nop, 0, [154])]
def kX11_init_154 : List qIns := [(.putfield 82, 3, [11, 10, 749, 2]), (.nop, 0, [157])]
def kX11_init_157 : List qIns := [(.aload_n 0, 1, []), (.nop, 0, [158])]
def kX11_init_158 : List qIns := [(.new 86, 3, []), (.nop, 0, [161])]
def kX11_init_161 : List qIns := [(.dup, 1, []), (.nop, 0, [162])]
def kX11_init_162 : List qIns := [(.invokespecial 88, 3, [62, 702, 1, 2]), (.nop, 0, [165])]
def kX11_init_165 : List qIns := [(.putfield 89, 3, [11, 11, 750, 2]), (.nop, 0, [168])]
def kX11_init_168 : List qIns := [(.aload_n 0, 1, []), (.iconst 5, 1, [5]), (.nop, 0, [170])]
def kX11_init_170 : List qIns := [(.newarray .int, 2, []), (.nop, 0, [172])]
def kX11_init_172 : List qIns := [(.putfield 93, 3, [11, 12, 751, 2]), (.nop, 0, [175])]
def kX11_init_175 : List qIns := [(.aload_n 0, 1, []), (.iconst 0, 1, [0]), (.putfield 97, 3, [11, 13, 768, 3]), (.aload_n 0, 1, []), (.iconst 3, 1, [3]), (.nop, 0, [182])]
def kX11_init_182 : List qIns := [(.anewarray 7, 3, []), (.nop, 0, [185])]
def kX11_init_185 : List qIns := [(.putfield 101, 3, [11, 14, 769, 2]), (.nop, 0, [188])]
def kX11_init_188 : List qIns := [(.aload_n 0, 1, []), (.iconst 3, 1, [3]), (.nop, 0, [190])]
def kX11_init_190 : List qIns := [(.anewarray 79, 3, []), (.nop, 0, [193])]
def kX11_init_193 : List qIns := [(.putfield 105, 3, [11, 15, 770, 2]), (.nop, 0, [196])]
def kX11_init_196 : List qIns := [(.aload_n 0, 1, []), (.iconst 0, 1, [0]), (.putfield 109, 3, [11, 16, 771, 0]), (.aload_n 0, 1, []), (.iconst 0, 1, [0]), (.putfield 113, 3, [11, 17, 772, 0]), (.aload_n 0, 1, []), (.lconst 0, 1, []), (.putfield 116, 3, [11, 18, 773, 1]), (.aload_n 0, 1, []), (.lconst 1, 1, []), (.putfield 120, 3, [11, 19, 774, 1]), (.iconst 0, 1, [0]), (.istore_n 1, 1, []), (.nop, 0, [218])]
def kX11_init_218 : List qIns := [(.iload_n 1, 1, []), (.iconst 3, 1, [3]), (.if_icmp .ge 35, 3, [255]), (.aload_n 0, 1, []), (.getfield 101, 3, [11, 14, 769, 2]), (.iload_n 1, 1, []), (.nop, 0, [228])]
def kX11_init_228 : List qIns := [(.new 7, 3, []), (.nop, 0, [231])]
def kX11_init_231 : List qIns := [(.dup, 1, []), (.nop, 0, [232])]
def kX11_init_232 : List qIns := [(.invokespecial 9, 3, [7, 287, 1, 2]), (.nop, 0, [235])]
def kX11_init_235 : List qIns := [(.aastore, 1, []), (.nop, 0, [236])]
def kX11_init_236 : List qIns := [(.aload_n 0, 1, []), (.getfield 105, 3, [11, 15, 770, 2]), (.iload_n 1, 1, []), (.nop, 0, [241])]
def kX11_init_241 : List qIns := [(.new 79, 3, []), (.nop, 0, [244])]
def kX11_init_244 : List qIns := [(.dup, 1, []), (.nop, 0, [245])]
def kX11_init_245 : List qIns := [(.invokespecial 81, 3, [119, 699, 1, 2]), (.nop, 0, [248])]
def kX11_init_248 : List qIns := [(.aastore, 1, []), (.nop, 0, [249])]
def kX11_init_249 : List qIns := [(.iinc 1 1, 3, [1]), (.goto (-34), 3, [218])]
def kX11_init_255 : List qIns := [(.return_, 1, [])]
def mX11_init : qMI := (yX11_init, cX11_init, 2, none, 11, [281, 257, 280, 0], 0, false, [(0, kX11_init_0), (1, kX11_init_1), (4, kX11_init_4), (5, kX11_init_5), (8, kX11_init_8), (9, kX11_init_9), (12, kX11_init_12), (15, kX11_init_15), (16, kX11_init_16), (19, kX11_init_19), (20, kX11_init_20), (23, kX11_init_23), (26, kX11_init_26), (27, kX11_init_27), (30, kX11_init_30), (31, kX11_init_31), (34, kX11_init_34), (37, kX11_init_37), (38, kX11_init_38), (41, kX11_init_41), (50, kX11_init_50), (53, kX11_init_53), (56, kX11_init_56), (57, kX11_init_57), (60, kX11_init_60), (69, kX11_init_69), (72, kX11_init_72), (75, kX11_init_75), (76, kX11_init_76), (79, kX11_init_79), (88, kX11_init_88), (91, kX11_init_91), (94, kX11_init_94), (95, kX11_init_95), (98, kX11_init_98), (99, kX11_init_99), (102, kX11_init_102), (105, kX11_init_105), (106, kX11_init_106), (109, kX11_init_109), (110, kX11_init_110), (113, kX11_init_113), (116, kX11_init_116), (117, kX11_init_117), (120, kX11_init_120), (125, kX11_init_125), (128, kX11_init_128), (131, kX11_init_131), (132, kX11_init_132), (135, kX11_init_135), (140, kX11_init_140), (143, kX11_init_143), (146, kX11_init_146), (147, kX11_init_147), (150, kX11_init_150), (151, kX11_init_151), (154, kX11_init_154), (157, kX11_init_157), (158, kX11_init_158), (161, kX11_init_161), (162, kX11_init_162), (165, kX11_init_165), (168, kX11_init_168), (170, kX11_init_170), (172, kX11_init_172), (175, kX11_init_175), (182, kX11_init_182), (185, kX11_init_185), (188, kX11_init_188), (190, kX11_init_190), (193, kX11_init_193), (196, kX11_init_196), (218, kX11_init_218), (228, kX11_init_228), (231, kX11_init_231), (232, kX11_init_232), (235, kX11_init_235), (236, kX11_init_236), (241, kX11_init_241), (244, kX11_init_244), (245, kX11_init_245), (248, kX11_init_248), (249, kX11_init_249), (255, kX11_init_255)])
def kX11_within_0 : List qIns := [(.lload_n 0, 1, []), (.lload_n 2, 1, []), (.lcmp, 1, []), (.ifCond .lt 14, 3, [17]), (.lload_n 0, 1, []), (.lload 4, 2, []), (.lcmp, 1, []), (.ifCond .gt 7, 3, [17]), (.iconst 1, 1, [1]), (.goto 4, 3, [18])]
def kX11_within_17 : List qIns := [(.iconst 0, 1, [0]), (.nop, 0, [18])]
def kX11_within_18 : List qIns := [(.ireturn, 1, [1])]
def mX11_within : qMI := (yX11_within, cX11_within, 6, (some .boolean), 11, [839, 257, 838], 3, true, [(0, kX11_within_0), (17, kX11_within_17), (18, kX11_within_18)])
def kX11_give_0 : List qIns := [(.aload_n 0, 1, []), (.iconst 0, 1, [0]), (.putfield 113, 3, [11, 17, 772, 0]), (.iload_n 1, 1, []), (.ireturn, 1, [0])]
def mX11_give : qMI := (yX11_give, cX11_give, 2, (some .int), 11, [1082, 257, 1081, 13], 1, false, [(0, kX11_give_0)])
def kX11_refuse_0 : List qIns := [(.aload_n 0, 1, []), (.iload_n 1, 1, []), (.putfield 113, 3, [11, 17, 772, 0]), (.iconst (-1), 1, []), (.ireturn, 1, [0])]
def mX11_refuse : qMI := (yX11_refuse, cX11_refuse, 2, (some .int), 11, [886, 257, 885, 3], 1, false, [(0, kX11_refuse_0)])
def kX11_grant_0 : List qIns := [(.aload_n 0, 1, []), (.iconst 0, 1, [0]), (.putfield 113, 3, [11, 17, 772, 0]), (.iconst 1, 1, [1]), (.ireturn, 1, [1])]
def mX11_grant : qMI := (yX11_grant, cX11_grant, 1, (some .boolean), 11, [853, 257, 852, 1], 0, false, [(0, kX11_grant_0)])
def kX11_deny_0 : List qIns := [(.aload_n 0, 1, []), (.iload_n 1, 1, []), (.putfield 113, 3, [11, 17, 772, 0]), (.iconst 0, 1, [0]), (.ireturn, 1, [1])]
def mX11_deny : qMI := (yX11_deny, cX11_deny, 2, (some .boolean), 11, [844, 257, 843, 0], 1, false, [(0, kX11_deny_0)])
def kX11_tellFraction_0 : List qIns := [(.lload_n 1, 1, []), (.lload_n 3, 1, []), (.invokestatic 123, 3, [61, 1631, 2, 1, 0]), (.lstore 5, 2, []), (.lload 5, 2, []), (.lconst 1, 1, []), (.lcmp, 1, []), (.ifCond .ge 4, 3, [15]), (.return_, 1, [])]
def kX11_tellFraction_15 : List qIns := [(.aload_n 0, 1, []), (.lload_n 1, 1, []), (.lload 5, 2, []), (.ldiv, 1, []), (.putfield 116, 3, [11, 18, 773, 1]), (.aload_n 0, 1, []), (.lload_n 3, 1, []), (.lload 5, 2, []), (.ldiv, 1, []), (.putfield 120, 3, [11, 19, 774, 1]), (.return_, 1, [])]
def mX11_tellFraction : qMI := (yX11_tellFraction, cX11_tellFraction, 7, none, 11, [1630, 257, 1629, 32], 2, false, [(0, kX11_tellFraction_0), (15, kX11_tellFraction_15)])
def kX11_status_0 : List qIns := [(.aload_n 0, 1, []), (.getfield 113, 3, [11, 17, 772, 0]), (.ireturn, 1, [0])]
def mX11_status : qMI := (yX11_status, cX11_status, 1, (some .int), 11, [819, 257, 817, 818], 0, false, [(0, kX11_status_0)])
def kX11_top_0 : List qIns := [(.aload_n 0, 1, []), (.getfield 116, 3, [11, 18, 773, 1]), (.lreturn, 1, [])]
def mX11_top : qMI := (yX11_top, cX11_top, 1, (some .long), 11, [823, 257, 821, 822], 0, false, [(0, kX11_top_0)])
def kX11_bottom_0 : List qIns := [(.aload_n 0, 1, []), (.getfield 120, 3, [11, 19, 774, 1]), (.lreturn, 1, [])]
def mX11_bottom : qMI := (yX11_bottom, cX11_bottom, 1, (some .long), 11, [827, 257, 825, 826], 0, false, [(0, kX11_bottom_0)])
def kX11_tray_0 : List qIns := [(.aload_n 0, 1, []), (.getfield 52, 3, [11, 6, 745, 2]), (.iload_n 1, 1, []), (.invokevirtual 127, 3, [109, 832, 2, 0, 9]), (.ifCond .eq 27, 3, [35]), (.iload_n 2, 1, []), (.i2l, 1, []), (.lconst 0, 1, []), (.ldc2_w 131, 3, [836, 3]), (.invokestatic 133, 3, [138, 837, 3, 0, 0]), (.ifCond .eq 15, 3, [35]), (.iload_n 3, 1, []), (.i2l, 1, []), (.lconst 0, 1, []), (.ldc2_w 137, 3, [840, 60]), (.invokestatic 133, 3, [138, 837, 3, 0, 0]), (.ifCond .ne 9, 3, [41]), (.nop, 0, [35])]
def kX11_tray_35 : List qIns := [(.aload_n 0, 1, []), (.iconst 1, 1, [1]), (.invokevirtual 139, 3, [142, 841, 2, 0, 12]), (.ireturn, 1, [1])]
def kX11_tray_41 : List qIns := [(.aload_n 0, 1, []), (.getfield 52, 3, [11, 6, 745, 2]), (.iload_n 1, 1, []), (.iload_n 2, 1, []), (.iload_n 3, 1, []), (.invokevirtual 142, 3, [114, 845, 4, 2, 9]), (.aload_n 0, 1, []), (.invokevirtual 146, 3, [141, 850, 1, 0, 12]), (.ireturn, 1, [1])]
def mX11_tray : qMI := (yX11_tray, cX11_tray, 4, (some .boolean), 11, [831, 257, 829, 830], 3, false, [(0, kX11_tray_0), (35, kX11_tray_35), (41, kX11_tray_41)])
def kX11_placeStatus_0 : List qIns := [(.aload_n 0, 1, []), (.getfield 52, 3, [11, 6, 745, 2]), (.iload_n 1, 1, []), (.invokevirtual 127, 3, [109, 832, 2, 0, 9]), (.ifCond .ne 5, 3, [13]), (.iconst 1, 1, [1]), (.ireturn, 1, [0])]
def kX11_placeStatus_13 : List qIns := [(.aload_n 0, 1, []), (.getfield 52, 3, [11, 6, 745, 2]), (.iload_n 1, 1, []), (.invokevirtual 150, 3, [110, 862, 2, 0, 9]), (.ifCond .ne 5, 3, [26]), (.iconst 2, 1, [2]), (.ireturn, 1, [0])]
def kX11_placeStatus_26 : List qIns := [(.aload_n 0, 1, []), (.getfield 52, 3, [11, 6, 745, 2]), (.iload_n 1, 1, []), (.iload_n 2, 1, []), (.invokevirtual 153, 3, [112, 866, 3, 0, 9]), (.ifCond .eq 7, 3, [42]), (.iconst 0, 1, [0]), (.goto 4, 3, [43])]
def kX11_placeStatus_42 : List qIns := [(.iconst 3, 1, [3]), (.nop, 0, [43])]
def kX11_placeStatus_43 : List qIns := [(.ireturn, 1, [0])]
def mX11_placeStatus : qMI := (yX11_placeStatus, cX11_placeStatus, 3, (some .int), 11, [861, 257, 860, 2], 2, false, [(0, kX11_placeStatus_0), (13, kX11_placeStatus_13), (26, kX11_placeStatus_26), (42, kX11_placeStatus_42), (43, kX11_placeStatus_43)])
def kX11_write_0 : List qIns := [(.aload_n 0, 1, []), (.iload_n 1, 1, []), (.iload_n 2, 1, []), (.invokevirtual 157, 3, [148, 858, 3, 0, 12]), (.istore 5, 2, []), (.iload 5, 2, []), (.ifCond .eq 10, 3, [20]), (.aload_n 0, 1, []), (.iload 5, 2, []), (.invokevirtual 139, 3, [142, 841, 2, 0, 12]), (.ireturn, 1, [1])]
def kX11_write_20 : List qIns := [(.aload_n 0, 1, []), (.getfield 52, 3, [11, 6, 745, 2]), (.iload_n 1, 1, []), (.iload_n 2, 1, []), (.lload_n 3, 1, []), (.invokevirtual 161, 3, [115, 871, 4, 2, 9]), (.aload_n 0, 1, []), (.invokevirtual 146, 3, [141, 850, 1, 0, 12]), (.ireturn, 1, [1])]
def mX11_write : qMI := (yX11_write, cX11_write, 6, (some .boolean), 11, [857, 257, 855, 856], 3, false, [(0, kX11_write_0), (20, kX11_write_20)])
def kX11_read_0 : List qIns := [(.aload_n 0, 1, []), (.iload_n 1, 1, []), (.iload_n 2, 1, []), (.invokevirtual 157, 3, [148, 858, 3, 0, 12]), (.istore_n 3, 1, []), (.iload_n 3, 1, []), (.ifCond .eq 10, 3, [18]), (.aload_n 0, 1, []), (.iload_n 3, 1, []), (.invokevirtual 165, 3, [140, 883, 2, 0, 12]), (.i2l, 1, []), (.lreturn, 1, [])]
def kX11_read_18 : List qIns := [(.aload_n 0, 1, []), (.iconst 0, 1, [0]), (.putfield 113, 3, [11, 17, 772, 0]), (.aload_n 0, 1, []), (.getfield 52, 3, [11, 6, 745, 2]), (.iload_n 1, 1, []), (.iload_n 2, 1, []), (.invokevirtual 169, 3, [116, 887, 3, 1, 9]), (.lreturn, 1, [])]
def mX11_read : qMI := (yX11_read, cX11_read, 4, (some .long), 11, [882, 257, 880, 881], 2, false, [(0, kX11_read_0), (18, kX11_read_18)])
def kX11_pour_0 : List qIns := [(.aload_n 0, 1, []), (.getfield 52, 3, [11, 6, 745, 2]), (.iload_n 1, 1, []), (.invokevirtual 127, 3, [109, 832, 2, 0, 9]), (.ifCond .eq 28, 3, [36]), (.aload_n 0, 1, []), (.getfield 52, 3, [11, 6, 745, 2]), (.iload_n 3, 1, []), (.invokevirtual 127, 3, [109, 832, 2, 0, 9]), (.ifCond .eq 17, 3, [36]), (.iload_n 2, 1, []), (.ifCond .lt 13, 3, [36]), (.iload 4, 2, []), (.ifCond .lt 8, 3, [36]), (.iload 5, 2, []), (.ifCond .ge 9, 3, [42]), (.nop, 0, [36])]
def kX11_pour_36 : List qIns := [(.aload_n 0, 1, []), (.iconst 1, 1, [1]), (.invokevirtual 139, 3, [142, 841, 2, 0, 12]), (.ireturn, 1, [1])]
def kX11_pour_42 : List qIns := [(.aload_n 0, 1, []), (.getfield 52, 3, [11, 6, 745, 2]), (.iload_n 1, 1, []), (.invokevirtual 150, 3, [110, 862, 2, 0, 9]), (.ifCond .eq 14, 3, [64]), (.aload_n 0, 1, []), (.getfield 52, 3, [11, 6, 745, 2]), (.iload_n 3, 1, []), (.invokevirtual 150, 3, [110, 862, 2, 0, 9]), (.ifCond .ne 9, 3, [70]), (.nop, 0, [64])]
def kX11_pour_64 : List qIns := [(.aload_n 0, 1, []), (.iconst 2, 1, [2]), (.invokevirtual 139, 3, [142, 841, 2, 0, 12]), (.ireturn, 1, [1])]
def kX11_pour_70 : List qIns := [(.aload_n 0, 1, []), (.getfield 52, 3, [11, 6, 745, 2]), (.iload_n 1, 1, []), (.iload_n 3, 1, []), (.invokevirtual 173, 3, [111, 896, 3, 0, 9]), (.ifCond .ne 10, 3, [89]), (.aload_n 0, 1, []), (.bipush 8, 2, [8]), (.invokevirtual 139, 3, [142, 841, 2, 0, 12]), (.ireturn, 1, [1])]
def kX11_pour_89 : List qIns := [(.aload_n 0, 1, []), (.getfield 52, 3, [11, 6, 745, 2]), (.iload_n 1, 1, []), (.iload_n 2, 1, []), (.iload 5, 2, []), (.invokevirtual 176, 3, [113, 900, 4, 0, 9]), (.ifCond .eq 18, 3, [118]), (.aload_n 0, 1, []), (.getfield 52, 3, [11, 6, 745, 2]), (.iload_n 3, 1, []), (.iload 4, 2, []), (.iload 5, 2, []), (.invokevirtual 176, 3, [113, 900, 4, 0, 9]), (.ifCond .ne 9, 3, [124]), (.nop, 0, [118])]
def kX11_pour_118 : List qIns := [(.aload_n 0, 1, []), (.iconst 3, 1, [3]), (.invokevirtual 139, 3, [142, 841, 2, 0, 12]), (.ireturn, 1, [1])]
def kX11_pour_124 : List qIns := [(.aload_n 0, 1, []), (.getfield 52, 3, [11, 6, 745, 2]), (.iload_n 1, 1, []), (.iload_n 2, 1, []), (.iload_n 3, 1, []), (.iload 4, 2, []), (.iload 5, 2, []), (.invokevirtual 180, 3, [117, 904, 6, 2, 9]), (.aload_n 0, 1, []), (.invokevirtual 146, 3, [141, 850, 1, 0, 12]), (.ireturn, 1, [1])]
def mX11_pour : qMI := (yX11_pour, cX11_pour, 6, (some .boolean), 11, [895, 257, 893, 894], 5, false, [(0, kX11_pour_0), (36, kX11_pour_36), (42, kX11_pour_42), (64, kX11_pour_64), (70, kX11_pour_70), (89, kX11_pour_89), (118, kX11_pour_118), (124, kX11_pour_124)])
def kX11_feed_0 : List qIns := [(.aload_n 0, 1, []), (.getfield 59, 3, [11, 7, 746, 2]), (.invokevirtual 184, 3, [89, 916, 1, 0, 8]), (.ifCond .ne 5, 3, [12]), (.iconst (-1), 1, []), (.ireturn, 1, [0])]
def kX11_feed_12 : List qIns := [(.aload_n 0, 1, []), (.getfield 59, 3, [11, 7, 746, 2]), (.iload_n 1, 1, []), (.invokevirtual 187, 3, [90, 920, 2, 2, 8]), (.aload_n 0, 1, []), (.getfield 59, 3, [11, 7, 746, 2]), (.iload_n 2, 1, []), (.invokevirtual 187, 3, [90, 920, 2, 2, 8]), (.aload_n 0, 1, []), (.getfield 59, 3, [11, 7, 746, 2]), (.iload_n 3, 1, []), (.invokevirtual 187, 3, [90, 920, 2, 2, 8]), (.aload_n 0, 1, []), (.getfield 59, 3, [11, 7, 746, 2]), (.iload 4, 2, []), (.invokevirtual 187, 3, [90, 920, 2, 2, 8]), (.aload_n 0, 1, []), (.getfield 59, 3, [11, 7, 746, 2]), (.iload 5, 2, []), (.invokevirtual 187, 3, [90, 920, 2, 2, 8]), (.aload_n 0, 1, []), (.getfield 59, 3, [11, 7, 746, 2]), (.getfield 191, 3, [7, 1, 565, 0]), (.ireturn, 1, [0])]
def mX11_feed : qMI := (yX11_feed, cX11_feed, 6, (some .int), 11, [915, 257, 913, 914], 5, false, [(0, kX11_feed_0), (12, kX11_feed_12)])
def kX11_camp_0 : List qIns := [(.iload_n 1, 1, []), (.i2l, 1, []), (.lconst 0, 1, []), (.aload_n 0, 1, []), (.getfield 59, 3, [11, 7, 746, 2]), (.getfield 191, 3, [7, 1, 565, 0]), (.i2l, 1, []), (.invokestatic 133, 3, [138, 837, 3, 0, 0]), (.ifCond .ne 9, 3, [23]), (.aload_n 0, 1, []), (.iconst 1, 1, [1]), (.invokevirtual 165, 3, [140, 883, 2, 0, 12]), (.ireturn, 1, [0])]
def kX11_camp_23 : List qIns := [(.aload_n 0, 1, []), (.getfield 68, 3, [11, 8, 747, 2]), (.iload_n 1, 1, []), (.invokevirtual 194, 3, [34, 928, 2, 0, 3]), (.istore_n 2, 1, []), (.aload_n 0, 1, []), (.getfield 59, 3, [11, 7, 746, 2]), (.iconst 0, 1, [0]), (.putfield 191, 3, [7, 1, 565, 0]), (.iload_n 2, 1, []), (.ifCond .ne 10, 3, [51]), (.aload_n 0, 1, []), (.bipush 9, 2, [9]), (.invokevirtual 165, 3, [140, 883, 2, 0, 12]), (.ireturn, 1, [0])]
def kX11_camp_51 : List qIns := [(.aload_n 0, 1, []), (.getfield 10, 3, [11, 0, 739, 2]), (.aload_n 0, 1, []), (.getfield 68, 3, [11, 8, 747, 2]), (.getfield 197, 3, [2, 1, 625, 2]), (.invokevirtual 200, 3, [9, 1070, 2, 2, 2]), (.aload_n 0, 1, []), (.getfield 82, 3, [11, 10, 749, 2]), (.invokevirtual 204, 3, [120, 1075, 1, 2, 10]), (.aload_n 0, 1, []), (.aload_n 0, 1, []), (.getfield 10, 3, [11, 0, 739, 2]), (.getfield 207, 3, [1, 4, 318, 0]), (.invokevirtual 210, 3, [139, 1079, 2, 0, 12]), (.ireturn, 1, [0])]
def mX11_camp : qMI := (yX11_camp, cX11_camp, 3, (some .int), 11, [927, 257, 925, 926], 1, false, [(0, kX11_camp_0), (23, kX11_camp_23), (51, kX11_camp_51)])
def kX11_weeks_0 : List qIns := [(.iload_n 1, 1, []), (.i2l, 1, []), (.lconst 0, 1, []), (.aload_n 0, 1, []), (.getfield 59, 3, [11, 7, 746, 2]), (.getfield 191, 3, [7, 1, 565, 0]), (.i2l, 1, []), (.invokestatic 133, 3, [138, 837, 3, 0, 0]), (.ifCond .eq 10, 3, [24]), (.iload_n 1, 1, []), (.sipush 300, 3, [300]), (.if_icmp .le 9, 3, [30]), (.nop, 0, [24])]
def kX11_weeks_24 : List qIns := [(.aload_n 0, 1, []), (.iconst 1, 1, [1]), (.invokevirtual 165, 3, [140, 883, 2, 0, 12]), (.ireturn, 1, [0])]
def kX11_weeks_30 : List qIns := [(.aload_n 0, 1, []), (.getfield 75, 3, [11, 9, 748, 2]), (.iload_n 1, 1, []), (.aload_n 0, 1, []), (.getfield 10, 3, [11, 0, 739, 2]), (.invokevirtual 213, 3, [127, 1087, 3, 0, 11]), (.istore_n 2, 1, []), (.aload_n 0, 1, []), (.getfield 59, 3, [11, 7, 746, 2]), (.iconst 0, 1, [0]), (.putfield 191, 3, [7, 1, 565, 0]), (.iload_n 2, 1, []), (.ifCond .ne 10, 3, [62]), (.aload_n 0, 1, []), (.bipush 9, 2, [9]), (.invokevirtual 165, 3, [140, 883, 2, 0, 12]), (.ireturn, 1, [0])]
def kX11_weeks_62 : List qIns := [(.aload_n 0, 1, []), (.getfield 82, 3, [11, 10, 749, 2]), (.aload_n 0, 1, []), (.getfield 75, 3, [11, 9, 748, 2]), (.getfield 216, 3, [10, 1, 686, 2]), (.invokevirtual 218, 3, [121, 1155, 2, 2, 10]), (.aload_n 0, 1, []), (.aload_n 0, 1, []), (.getfield 82, 3, [11, 10, 749, 2]), (.getfield 221, 3, [9, 2, 656, 0]), (.invokevirtual 210, 3, [139, 1079, 2, 0, 12]), (.ireturn, 1, [0])]
def mX11_weeks : qMI := (yX11_weeks, cX11_weeks, 3, (some .int), 11, [1086, 257, 1084, 1085], 1, false, [(0, kX11_weeks_0), (24, kX11_weeks_24), (30, kX11_weeks_30), (62, kX11_weeks_62)])
def kX11_fault_0 : List qIns := [(.iload_n 1, 1, []), (.ifCond .ne 11, 3, [12]), (.aload_n 0, 1, []), (.getfield 59, 3, [11, 7, 746, 2]), (.getfield 224, 3, [7, 11, 581, 0]), (.ireturn, 1, [0])]
def kX11_fault_12 : List qIns := [(.iload_n 1, 1, []), (.iconst 1, 1, [1]), (.if_icmp .ne 13, 3, [27]), (.aload_n 0, 1, []), (.getfield 59, 3, [11, 7, 746, 2]), (.getfield 227, 3, [7, 12, 583, 0]), (.goto 4, 3, [28])]
def kX11_fault_27 : List qIns := [(.iconst (-1), 1, []), (.nop, 0, [28])]
def kX11_fault_28 : List qIns := [(.ireturn, 1, [0])]
def mX11_fault : qMI := (yX11_fault, cX11_fault, 2, (some .int), 11, [1163, 257, 1161, 1162], 1, false, [(0, kX11_fault_0), (12, kX11_fault_12), (27, kX11_fault_27), (28, kX11_fault_28)])
def kX11_told_0 : List qIns := [(.iload_n 1, 1, []), (.tableswitch 159 0 8 #[51, 63, 75, 87, 99, 111, 123, 135, 147], 51, [160, 52, 64, 76, 88, 100, 112, 124, 136, 148])]
def kX11_told_52 : List qIns := [(.aload_n 0, 1, []), (.aload_n 0, 1, []), (.getfield 10, 3, [11, 0, 739, 2]), (.getfield 207, 3, [1, 4, 318, 0]), (.invokevirtual 210, 3, [139, 1079, 2, 0, 12]), (.ireturn, 1, [0])]
def kX11_told_64 : List qIns := [(.aload_n 0, 1, []), (.aload_n 0, 1, []), (.getfield 10, 3, [11, 0, 739, 2]), (.getfield 230, 3, [1, 5, 324, 0]), (.invokevirtual 210, 3, [139, 1079, 2, 0, 12]), (.ireturn, 1, [0])]
def kX11_told_76 : List qIns := [(.aload_n 0, 1, []), (.aload_n 0, 1, []), (.getfield 10, 3, [11, 0, 739, 2]), (.getfield 233, 3, [1, 0, 299, 0]), (.invokevirtual 210, 3, [139, 1079, 2, 0, 12]), (.ireturn, 1, [0])]
def kX11_told_88 : List qIns := [(.aload_n 0, 1, []), (.aload_n 0, 1, []), (.getfield 10, 3, [11, 0, 739, 2]), (.getfield 236, 3, [1, 1, 304, 0]), (.invokevirtual 210, 3, [139, 1079, 2, 0, 12]), (.ireturn, 1, [0])]
def kX11_told_100 : List qIns := [(.aload_n 0, 1, []), (.aload_n 0, 1, []), (.getfield 10, 3, [11, 0, 739, 2]), (.getfield 239, 3, [1, 2, 307, 0]), (.invokevirtual 210, 3, [139, 1079, 2, 0, 12]), (.ireturn, 1, [0])]
def kX11_told_112 : List qIns := [(.aload_n 0, 1, []), (.aload_n 0, 1, []), (.getfield 10, 3, [11, 0, 739, 2]), (.getfield 242, 3, [1, 3, 311, 0]), (.invokevirtual 210, 3, [139, 1079, 2, 0, 12]), (.ireturn, 1, [0])]
def kX11_told_124 : List qIns := [(.aload_n 0, 1, []), (.aload_n 0, 1, []), (.getfield 10, 3, [11, 0, 739, 2]), (.invokevirtual 245, 3, [22, 1168, 1, 0, 2]), (.invokevirtual 210, 3, [139, 1079, 2, 0, 12]), (.ireturn, 1, [0])]
def kX11_told_136 : List qIns := [(.aload_n 0, 1, []), (.aload_n 0, 1, []), (.getfield 10, 3, [11, 0, 739, 2]), (.invokevirtual 249, 3, [23, 1172, 1, 0, 2]), (.invokevirtual 210, 3, [139, 1079, 2, 0, 12]), (.ireturn, 1, [0])]
def kX11_told_148 : List qIns := [(.aload_n 0, 1, []), (.aload_n 0, 1, []), (.getfield 10, 3, [11, 0, 739, 2]), (.invokevirtual 252, 3, [24, 1176, 1, 0, 2]), (.invokevirtual 210, 3, [139, 1079, 2, 0, 12]), (.ireturn, 1, [0])]
def kX11_told_160 : List qIns := [(.aload_n 0, 1, []), (.iconst 1, 1, [1]), (.invokevirtual 165, 3, [140, 883, 2, 0, 12]), (.ireturn, 1, [0])]
def mX11_told : qMI := (yX11_told, cX11_told, 2, (some .int), 11, [1167, 257, 1165, 1166], 1, false, [(0, kX11_told_0), (52, kX11_told_52), (64, kX11_told_64), (76, kX11_told_76), (88, kX11_told_88), (100, kX11_told_100), (112, kX11_told_112), (124, kX11_told_124), (136, kX11_told_136), (148, kX11_told_148), (160, kX11_told_160)])
def kX11_boy_0 : List qIns := [(.aload_n 0, 1, []), (.getfield 10, 3, [11, 0, 739, 2]), (.iload_n 1, 1, []), (.invokevirtual 255, 3, [10, 1184, 2, 0, 2]), (.ifCond .ne 9, 3, [17]), (.aload_n 0, 1, []), (.iconst 1, 1, [1]), (.invokevirtual 165, 3, [140, 883, 2, 0, 12]), (.ireturn, 1, [0])]
def kX11_boy_17 : List qIns := [(.iload_n 2, 1, []), (.tableswitch 146 0 6 #[42, 56, 70, 84, 98, 119, 132], 42, [164, 60, 74, 88, 102, 116, 137, 150])]
def kX11_boy_60 : List qIns := [(.aload_n 0, 1, []), (.aload_n 0, 1, []), (.getfield 10, 3, [11, 0, 739, 2]), (.getfield 258, 3, [1, 7, 328, 2]), (.iload_n 1, 1, []), (.iaload, 1, []), (.invokevirtual 210, 3, [139, 1079, 2, 0, 12]), (.ireturn, 1, [0])]
def kX11_boy_74 : List qIns := [(.aload_n 0, 1, []), (.aload_n 0, 1, []), (.getfield 10, 3, [11, 0, 739, 2]), (.getfield 261, 3, [1, 8, 331, 2]), (.iload_n 1, 1, []), (.iaload, 1, []), (.invokevirtual 210, 3, [139, 1079, 2, 0, 12]), (.ireturn, 1, [0])]
def kX11_boy_88 : List qIns := [(.aload_n 0, 1, []), (.aload_n 0, 1, []), (.getfield 10, 3, [11, 0, 739, 2]), (.getfield 264, 3, [1, 9, 333, 2]), (.iload_n 1, 1, []), (.iaload, 1, []), (.invokevirtual 210, 3, [139, 1079, 2, 0, 12]), (.ireturn, 1, [0])]
def kX11_boy_102 : List qIns := [(.aload_n 0, 1, []), (.aload_n 0, 1, []), (.getfield 10, 3, [11, 0, 739, 2]), (.getfield 267, 3, [1, 10, 335, 2]), (.iload_n 1, 1, []), (.iaload, 1, []), (.invokevirtual 210, 3, [139, 1079, 2, 0, 12]), (.ireturn, 1, [0])]
def kX11_boy_116 : List qIns := [(.aload_n 0, 1, []), (.aload_n 0, 1, []), (.getfield 10, 3, [11, 0, 739, 2]), (.iload_n 1, 1, []), (.invokevirtual 270, 3, [21, 1185, 2, 0, 2]), (.ifCond .eq 7, 3, [132]), (.iconst 1, 1, [1]), (.goto 4, 3, [133])]
def kX11_boy_132 : List qIns := [(.iconst 0, 1, [0]), (.nop, 0, [133])]
def kX11_boy_133 : List qIns := [(.invokevirtual 210, 3, [139, 1079, 2, 0, 12]), (.ireturn, 1, [0])]
def kX11_boy_137 : List qIns := [(.aload_n 0, 1, []), (.aload_n 0, 1, []), (.getfield 10, 3, [11, 0, 739, 2]), (.iload_n 1, 1, []), (.invokevirtual 273, 3, [25, 1190, 2, 0, 2]), (.invokevirtual 210, 3, [139, 1079, 2, 0, 12]), (.ireturn, 1, [0])]
def kX11_boy_150 : List qIns := [(.aload_n 0, 1, []), (.aload_n 0, 1, []), (.getfield 10, 3, [11, 0, 739, 2]), (.getfield 276, 3, [1, 11, 337, 2]), (.iload_n 1, 1, []), (.iaload, 1, []), (.invokevirtual 210, 3, [139, 1079, 2, 0, 12]), (.ireturn, 1, [0])]
def kX11_boy_164 : List qIns := [(.aload_n 0, 1, []), (.iconst 1, 1, [1]), (.invokevirtual 165, 3, [140, 883, 2, 0, 12]), (.ireturn, 1, [0])]
def mX11_boy : qMI := (yX11_boy, cX11_boy, 3, (some .int), 11, [1183, 257, 1181, 1182], 2, false, [(0, kX11_boy_0), (17, kX11_boy_17), (60, kX11_boy_60), (74, kX11_boy_74), (88, kX11_boy_88), (102, kX11_boy_102), (116, kX11_boy_116), (132, kX11_boy_132), (133, kX11_boy_133), (137, kX11_boy_137), (150, kX11_boy_150), (164, kX11_boy_164)])
def kX11_quarrel_0 : List qIns := [(.aload_n 0, 1, []), (.getfield 10, 3, [11, 0, 739, 2]), (.iload_n 1, 1, []), (.invokevirtual 279, 3, [11, 1198, 2, 0, 2]), (.ifCond .ne 9, 3, [17]), (.aload_n 0, 1, []), (.iconst 1, 1, [1]), (.invokevirtual 165, 3, [140, 883, 2, 0, 12]), (.ireturn, 1, [0])]
def kX11_quarrel_17 : List qIns := [(.iload_n 2, 1, []), (.tableswitch 86 0 3 #[30, 44, 58, 72], 30, [104, 48, 62, 76, 90])]
def kX11_quarrel_48 : List qIns := [(.aload_n 0, 1, []), (.aload_n 0, 1, []), (.getfield 10, 3, [11, 0, 739, 2]), (.getfield 282, 3, [1, 13, 342, 2]), (.iload_n 1, 1, []), (.iaload, 1, []), (.invokevirtual 210, 3, [139, 1079, 2, 0, 12]), (.ireturn, 1, [0])]
def kX11_quarrel_62 : List qIns := [(.aload_n 0, 1, []), (.aload_n 0, 1, []), (.getfield 10, 3, [11, 0, 739, 2]), (.getfield 285, 3, [1, 14, 345, 2]), (.iload_n 1, 1, []), (.iaload, 1, []), (.invokevirtual 210, 3, [139, 1079, 2, 0, 12]), (.ireturn, 1, [0])]
def kX11_quarrel_76 : List qIns := [(.aload_n 0, 1, []), (.aload_n 0, 1, []), (.getfield 10, 3, [11, 0, 739, 2]), (.getfield 288, 3, [1, 15, 348, 2]), (.iload_n 1, 1, []), (.iaload, 1, []), (.invokevirtual 210, 3, [139, 1079, 2, 0, 12]), (.ireturn, 1, [0])]
def kX11_quarrel_90 : List qIns := [(.aload_n 0, 1, []), (.aload_n 0, 1, []), (.getfield 10, 3, [11, 0, 739, 2]), (.getfield 291, 3, [1, 16, 353, 2]), (.iload_n 1, 1, []), (.iaload, 1, []), (.invokevirtual 210, 3, [139, 1079, 2, 0, 12]), (.ireturn, 1, [0])]
def kX11_quarrel_104 : List qIns := [(.aload_n 0, 1, []), (.iconst 1, 1, [1]), (.invokevirtual 165, 3, [140, 883, 2, 0, 12]), (.ireturn, 1, [0])]
def mX11_quarrel : qMI := (yX11_quarrel, cX11_quarrel, 3, (some .int), 11, [1197, 257, 1195, 1196], 2, false, [(0, kX11_quarrel_0), (17, kX11_quarrel_17), (48, kX11_quarrel_48), (62, kX11_quarrel_62), (76, kX11_quarrel_76), (90, kX11_quarrel_90), (104, kX11_quarrel_104)])
def kX11_minute_0 : List qIns := [(.iload_n 1, 1, []), (.i2l, 1, []), (.lconst 1, 1, []), (.ldc2_w 294, 3, [1206, 240]), (.invokestatic 133, 3, [138, 837, 3, 0, 0]), (.ifCond .ne 9, 3, [18]), (.aload_n 0, 1, []), (.iconst 1, 1, [1]), (.invokevirtual 165, 3, [140, 883, 2, 0, 12]), (.ireturn, 1, [0])]
def kX11_minute_18 : List qIns := [(.aload_n 0, 1, []), (.getfield 10, 3, [11, 0, 739, 2]), (.getfield 242, 3, [1, 3, 311, 0]), (.iload_n 1, 1, []), (.iadd, 1, []), (.sipush 9999, 3, [9999]), (.if_icmp .le 9, 3, [39]), (.aload_n 0, 1, []), (.iconst 4, 1, [4]), (.invokevirtual 165, 3, [140, 883, 2, 0, 12]), (.ireturn, 1, [0])]
def kX11_minute_39 : List qIns := [(.aload_n 0, 1, []), (.aload_n 0, 1, []), (.getfield 10, 3, [11, 0, 739, 2]), (.iload_n 1, 1, []), (.invokevirtual 296, 3, [30, 1207, 2, 0, 2]), (.invokevirtual 210, 3, [139, 1079, 2, 0, 12]), (.ireturn, 1, [0])]
def mX11_minute : qMI := (yX11_minute, cX11_minute, 2, (some .int), 11, [1205, 257, 1203, 1204], 1, false, [(0, kX11_minute_0), (18, kX11_minute_18), (39, kX11_minute_39)])
def kX11_dawn_0 : List qIns := [(.aload_n 0, 1, []), (.aload_n 0, 1, []), (.getfield 10, 3, [11, 0, 739, 2]), (.invokevirtual 299, 3, [32, 1242, 1, 0, 2]), (.invokevirtual 210, 3, [139, 1079, 2, 0, 12]), (.ireturn, 1, [0])]
def mX11_dawn : qMI := (yX11_dawn, cX11_dawn, 1, (some .int), 11, [1241, 257, 1239, 1240], 0, false, [(0, kX11_dawn_0)])
def kX11_boot_0 : List qIns := [(.aload_n 0, 1, []), (.getfield 10, 3, [11, 0, 739, 2]), (.iload_n 1, 1, []), (.invokevirtual 255, 3, [10, 1184, 2, 0, 2]), (.ifCond .eq 31, 3, [39]), (.aload_n 0, 1, []), (.getfield 10, 3, [11, 0, 739, 2]), (.iload_n 2, 1, []), (.invokevirtual 255, 3, [10, 1184, 2, 0, 2]), (.ifCond .eq 20, 3, [39]), (.iload_n 1, 1, []), (.iload_n 2, 1, []), (.if_icmp .eq 15, 3, [39]), (.iload_n 3, 1, []), (.i2l, 1, []), (.lconst 0, 1, []), (.ldc2_w 302, 3, [1250, 99]), (.invokestatic 133, 3, [138, 837, 3, 0, 0]), (.ifCond .ne 9, 3, [45]), (.nop, 0, [39])]
def kX11_boot_39 : List qIns := [(.aload_n 0, 1, []), (.iconst 1, 1, [1]), (.invokevirtual 165, 3, [140, 883, 2, 0, 12]), (.ireturn, 1, [0])]
def kX11_boot_45 : List qIns := [(.aload_n 0, 1, []), (.getfield 10, 3, [11, 0, 739, 2]), (.getfield 230, 3, [1, 5, 324, 0]), (.bipush 10, 2, [10]), (.if_icmp .lt 9, 3, [63]), (.aload_n 0, 1, []), (.iconst 4, 1, [4]), (.invokevirtual 165, 3, [140, 883, 2, 0, 12]), (.ireturn, 1, [0])]
def kX11_boot_63 : List qIns := [(.aload_n 0, 1, []), (.aload_n 0, 1, []), (.getfield 10, 3, [11, 0, 739, 2]), (.iload_n 1, 1, []), (.iload_n 2, 1, []), (.iload_n 3, 1, []), (.invokevirtual 304, 3, [15, 1251, 4, 0, 2]), (.invokevirtual 210, 3, [139, 1079, 2, 0, 12]), (.ireturn, 1, [0])]
def mX11_boot : qMI := (yX11_boot, cX11_boot, 4, (some .int), 11, [1249, 257, 1247, 1248], 3, false, [(0, kX11_boot_0), (39, kX11_boot_39), (45, kX11_boot_45), (63, kX11_boot_63)])
def kX11_forgive_0 : List qIns := [(.aload_n 0, 1, []), (.getfield 10, 3, [11, 0, 739, 2]), (.iload_n 1, 1, []), (.invokevirtual 255, 3, [10, 1184, 2, 0, 2]), (.ifCond .ne 9, 3, [17]), (.aload_n 0, 1, []), (.iconst 1, 1, [1]), (.invokevirtual 165, 3, [140, 883, 2, 0, 12]), (.ireturn, 1, [0])]
def kX11_forgive_17 : List qIns := [(.aload_n 0, 1, []), (.getfield 10, 3, [11, 0, 739, 2]), (.iload_n 1, 1, []), (.invokevirtual 270, 3, [21, 1185, 2, 0, 2]), (.ifCond .eq 10, 3, [35]), (.aload_n 0, 1, []), (.bipush 7, 2, [7]), (.invokevirtual 165, 3, [140, 883, 2, 0, 12]), (.ireturn, 1, [0])]
def kX11_forgive_35 : List qIns := [(.aload_n 0, 1, []), (.aload_n 0, 1, []), (.getfield 10, 3, [11, 0, 739, 2]), (.iload_n 1, 1, []), (.invokevirtual 308, 3, [31, 1256, 2, 0, 2]), (.invokevirtual 210, 3, [139, 1079, 2, 0, 12]), (.ireturn, 1, [0])]
def mX11_forgive : qMI := (yX11_forgive, cX11_forgive, 2, (some .int), 11, [1255, 257, 1253, 1254], 1, false, [(0, kX11_forgive_0), (17, kX11_forgive_17), (35, kX11_forgive_35)])
def kX11_pitch_0 : List qIns := [(.aload_n 0, 1, []), (.getfield 10, 3, [11, 0, 739, 2]), (.iload_n 1, 1, []), (.invokevirtual 255, 3, [10, 1184, 2, 0, 2]), (.ifCond .eq 14, 3, [22]), (.aload_n 0, 1, []), (.getfield 10, 3, [11, 0, 739, 2]), (.iload_n 2, 1, []), (.invokevirtual 311, 3, [12, 1280, 2, 0, 2]), (.ifCond .ne 9, 3, [28]), (.nop, 0, [22])]
def kX11_pitch_22 : List qIns := [(.aload_n 0, 1, []), (.iconst 1, 1, [1]), (.invokevirtual 165, 3, [140, 883, 2, 0, 12]), (.ireturn, 1, [0])]
def kX11_pitch_28 : List qIns := [(.aload_n 0, 1, []), (.getfield 10, 3, [11, 0, 739, 2]), (.getfield 258, 3, [1, 7, 328, 2]), (.iload_n 1, 1, []), (.iaload, 1, []), (.istore_n 3, 1, []), (.iload_n 3, 1, []), (.iload_n 2, 1, []), (.if_icmp .ne 10, 3, [50]), (.aload_n 0, 1, []), (.bipush 7, 2, [7]), (.invokevirtual 165, 3, [140, 883, 2, 0, 12]), (.ireturn, 1, [0])]
def kX11_pitch_50 : List qIns := [(.aload_n 0, 1, []), (.getfield 10, 3, [11, 0, 739, 2]), (.iload_n 1, 1, []), (.iload_n 2, 1, []), (.invokevirtual 314, 3, [16, 1284, 3, 2, 2]), (.aload_n 0, 1, []), (.iload_n 3, 1, []), (.invokevirtual 210, 3, [139, 1079, 2, 0, 12]), (.ireturn, 1, [0])]
def mX11_pitch : qMI := (yX11_pitch, cX11_pitch, 4, (some .int), 11, [1263, 257, 1261, 1262], 2, false, [(0, kX11_pitch_0), (22, kX11_pitch_22), (28, kX11_pitch_28), (50, kX11_pitch_50)])
def kX11_teach_0 : List qIns := [(.aload_n 0, 1, []), (.getfield 10, 3, [11, 0, 739, 2]), (.iload_n 1, 1, []), (.invokevirtual 255, 3, [10, 1184, 2, 0, 2]), (.ifCond .ne 9, 3, [17]), (.aload_n 0, 1, []), (.iconst 1, 1, [1]), (.invokevirtual 139, 3, [142, 841, 2, 0, 12]), (.ireturn, 1, [1])]
def kX11_teach_17 : List qIns := [(.iload_n 2, 1, []), (.iconst 1, 1, [1]), (.if_icmp .ne 30, 3, [49]), (.iload_n 3, 1, []), (.i2l, 1, []), (.lconst 1, 1, []), (.ldc2_w 318, 3, [1292, 30]), (.invokestatic 133, 3, [138, 837, 3, 0, 0]), (.ifCond .eq 18, 3, [49]), (.aload_n 0, 1, []), (.getfield 10, 3, [11, 0, 739, 2]), (.getfield 261, 3, [1, 8, 331, 2]), (.iload_n 1, 1, []), (.iload_n 3, 1, []), (.iastore, 1, []), (.aload_n 0, 1, []), (.invokevirtual 146, 3, [141, 850, 1, 0, 12]), (.ireturn, 1, [1])]
def kX11_teach_49 : List qIns := [(.iload_n 2, 1, []), (.iconst 2, 1, [2]), (.if_icmp .ne 30, 3, [81]), (.iload_n 3, 1, []), (.i2l, 1, []), (.lconst 0, 1, []), (.ldc2_w 320, 3, [1293, 9]), (.invokestatic 133, 3, [138, 837, 3, 0, 0]), (.ifCond .eq 18, 3, [81]), (.aload_n 0, 1, []), (.getfield 10, 3, [11, 0, 739, 2]), (.getfield 264, 3, [1, 9, 333, 2]), (.iload_n 1, 1, []), (.iload_n 3, 1, []), (.iastore, 1, []), (.aload_n 0, 1, []), (.invokevirtual 146, 3, [141, 850, 1, 0, 12]), (.ireturn, 1, [1])]
def kX11_teach_81 : List qIns := [(.iload_n 2, 1, []), (.iconst 3, 1, [3]), (.if_icmp .ne 29, 3, [112]), (.iload_n 3, 1, []), (.i2l, 1, []), (.lconst 0, 1, []), (.ldc2_w 320, 3, [1293, 9]), (.invokestatic 133, 3, [138, 837, 3, 0, 0]), (.ifCond .eq 17, 3, [112]), (.aload_n 0, 1, []), (.getfield 10, 3, [11, 0, 739, 2]), (.iload_n 1, 1, []), (.iload_n 3, 1, []), (.invokevirtual 322, 3, [17, 1294, 3, 2, 2]), (.aload_n 0, 1, []), (.invokevirtual 146, 3, [141, 850, 1, 0, 12]), (.ireturn, 1, [1])]
def kX11_teach_112 : List qIns := [(.aload_n 0, 1, []), (.iconst 1, 1, [1]), (.invokevirtual 139, 3, [142, 841, 2, 0, 12]), (.ireturn, 1, [1])]
def mX11_teach : qMI := (yX11_teach, cX11_teach, 4, (some .boolean), 11, [1291, 257, 1289, 1290], 3, false, [(0, kX11_teach_0), (17, kX11_teach_17), (49, kX11_teach_49), (81, kX11_teach_81), (112, kX11_teach_112)])
def kX11_stir_0 : List qIns := [(.aload_n 0, 1, []), (.getfield 10, 3, [11, 0, 739, 2]), (.iload_n 1, 1, []), (.invokevirtual 279, 3, [11, 1198, 2, 0, 2]), (.ifCond .eq 15, 3, [23]), (.iload_n 2, 1, []), (.i2l, 1, []), (.lconst 0, 1, []), (.ldc2_w 302, 3, [1250, 99]), (.invokestatic 133, 3, [138, 837, 3, 0, 0]), (.ifCond .ne 9, 3, [29]), (.nop, 0, [23])]
def kX11_stir_23 : List qIns := [(.aload_n 0, 1, []), (.iconst 1, 1, [1]), (.invokevirtual 165, 3, [140, 883, 2, 0, 12]), (.ireturn, 1, [0])]
def kX11_stir_29 : List qIns := [(.aload_n 0, 1, []), (.getfield 10, 3, [11, 0, 739, 2]), (.iload_n 1, 1, []), (.invokevirtual 325, 3, [20, 1302, 2, 0, 2]), (.ifCond .ne 10, 3, [47]), (.aload_n 0, 1, []), (.bipush 7, 2, [7]), (.invokevirtual 165, 3, [140, 883, 2, 0, 12]), (.ireturn, 1, [0])]
def kX11_stir_47 : List qIns := [(.aload_n 0, 1, []), (.getfield 10, 3, [11, 0, 739, 2]), (.getfield 288, 3, [1, 15, 348, 2]), (.iload_n 1, 1, []), (.iaload, 1, []), (.istore_n 3, 1, []), (.aload_n 0, 1, []), (.getfield 10, 3, [11, 0, 739, 2]), (.getfield 288, 3, [1, 15, 348, 2]), (.iload_n 1, 1, []), (.iload_n 2, 1, []), (.iastore, 1, []), (.aload_n 0, 1, []), (.iload_n 3, 1, []), (.invokevirtual 210, 3, [139, 1079, 2, 0, 12]), (.ireturn, 1, [0])]
def mX11_stir : qMI := (yX11_stir, cX11_stir, 4, (some .int), 11, [1301, 257, 1299, 1300], 2, false, [(0, kX11_stir_0), (23, kX11_stir_23), (29, kX11_stir_29), (47, kX11_stir_47)])
def kX11_come_0 : List qIns := [(.aload_n 0, 1, []), (.getfield 10, 3, [11, 0, 739, 2]), (.iload_n 1, 1, []), (.invokevirtual 311, 3, [12, 1280, 2, 0, 2]), (.ifCond .eq 15, 3, [23]), (.iload_n 2, 1, []), (.i2l, 1, []), (.lconst 1, 1, []), (.ldc2_w 318, 3, [1292, 30]), (.invokestatic 133, 3, [138, 837, 3, 0, 0]), (.ifCond .ne 9, 3, [29]), (.nop, 0, [23])]
def kX11_come_23 : List qIns := [(.aload_n 0, 1, []), (.iconst 1, 1, [1]), (.invokevirtual 165, 3, [140, 883, 2, 0, 12]), (.ireturn, 1, [0])]
def kX11_come_29 : List qIns := [(.aload_n 0, 1, []), (.getfield 10, 3, [11, 0, 739, 2]), (.getfield 207, 3, [1, 4, 318, 0]), (.bipush 8, 2, [8]), (.if_icmp .lt 9, 3, [47]), (.aload_n 0, 1, []), (.iconst 4, 1, [4]), (.invokevirtual 165, 3, [140, 883, 2, 0, 12]), (.ireturn, 1, [0])]
def kX11_come_47 : List qIns := [(.aload_n 0, 1, []), (.aload_n 0, 1, []), (.getfield 10, 3, [11, 0, 739, 2]), (.lconst 0, 1, []), (.iload_n 1, 1, []), (.iload_n 2, 1, []), (.iconst 1, 1, [1]), (.iconst 2, 1, [2]), (.invokevirtual 328, 3, [14, 1310, 6, 0, 2]), (.invokevirtual 210, 3, [139, 1079, 2, 0, 12]), (.ireturn, 1, [0])]
def mX11_come : qMI := (yX11_come, cX11_come, 3, (some .int), 11, [1309, 257, 1307, 1308], 2, false, [(0, kX11_come_0), (23, kX11_come_23), (29, kX11_come_29), (47, kX11_come_47)])
def kX11_rule_0 : List qIns := [(.iload_n 1, 1, []), (.i2l, 1, []), (.lconst 0, 1, []), (.ldc2_w 332, 3, [1315, 16]), (.invokestatic 133, 3, [138, 837, 3, 0, 0]), (.ifCond .ne 9, 3, [18]), (.aload_n 0, 1, []), (.iconst 1, 1, [1]), (.invokevirtual 139, 3, [142, 841, 2, 0, 12]), (.ireturn, 1, [1])]
def kX11_rule_18 : List qIns := [(.aload_n 0, 1, []), (.getfield 10, 3, [11, 0, 739, 2]), (.iload_n 1, 1, []), (.putfield 239, 3, [1, 2, 307, 0]), (.aload_n 0, 1, []), (.invokevirtual 146, 3, [141, 850, 1, 0, 12]), (.ireturn, 1, [1])]
def mX11_rule : qMI := (yX11_rule, cX11_rule, 2, (some .boolean), 11, [1314, 257, 1312, 1313], 1, false, [(0, kX11_rule_0), (18, kX11_rule_18)])
def kX11_far_0 : List qIns := [(.aload_n 0, 1, []), (.getfield 10, 3, [11, 0, 739, 2]), (.iload_n 1, 1, []), (.invokevirtual 255, 3, [10, 1184, 2, 0, 2]), (.ifCond .eq 14, 3, [22]), (.aload_n 0, 1, []), (.getfield 10, 3, [11, 0, 739, 2]), (.iload_n 2, 1, []), (.invokevirtual 255, 3, [10, 1184, 2, 0, 2]), (.ifCond .ne 9, 3, [28]), (.nop, 0, [22])]
def kX11_far_22 : List qIns := [(.aload_n 0, 1, []), (.iconst 1, 1, [1]), (.invokevirtual 165, 3, [140, 883, 2, 0, 12]), (.ireturn, 1, [0])]
def kX11_far_28 : List qIns := [(.aload_n 0, 1, []), (.aload_n 0, 1, []), (.getfield 10, 3, [11, 0, 739, 2]), (.iload_n 1, 1, []), (.iload_n 2, 1, []), (.invokevirtual 334, 3, [19, 1320, 3, 0, 2]), (.invokevirtual 210, 3, [139, 1079, 2, 0, 12]), (.ireturn, 1, [0])]
def mX11_far : qMI := (yX11_far, cX11_far, 3, (some .int), 11, [1319, 257, 1317, 1318], 2, false, [(0, kX11_far_0), (22, kX11_far_22), (28, kX11_far_28)])
def kX11_hears_0 : List qIns := [(.aload_n 0, 1, []), (.getfield 10, 3, [11, 0, 739, 2]), (.iload_n 1, 1, []), (.invokevirtual 255, 3, [10, 1184, 2, 0, 2]), (.ifCond .ne 9, 3, [17]), (.aload_n 0, 1, []), (.iconst 1, 1, [1]), (.invokevirtual 165, 3, [140, 883, 2, 0, 12]), (.ireturn, 1, [0])]
def kX11_hears_17 : List qIns := [(.aload_n 0, 1, []), (.aload_n 0, 1, []), (.getfield 10, 3, [11, 0, 739, 2]), (.getfield 337, 3, [1, 12, 339, 2]), (.iload_n 1, 1, []), (.iaload, 1, []), (.aload_n 0, 1, []), (.getfield 10, 3, [11, 0, 739, 2]), (.invokevirtual 245, 3, [22, 1168, 1, 0, 2]), (.iand, 1, []), (.invokevirtual 210, 3, [139, 1079, 2, 0, 12]), (.ireturn, 1, [0])]
def mX11_hears : qMI := (yX11_hears, cX11_hears, 2, (some .int), 11, [1324, 257, 1322, 1323], 1, false, [(0, kX11_hears_0), (17, kX11_hears_17)])
def kX11_near_0 : List qIns := [(.aload_n 0, 1, []), (.getfield 10, 3, [11, 0, 739, 2]), (.iload_n 1, 1, []), (.invokevirtual 255, 3, [10, 1184, 2, 0, 2]), (.ifCond .ne 9, 3, [17]), (.aload_n 0, 1, []), (.iconst 1, 1, [1]), (.invokevirtual 165, 3, [140, 883, 2, 0, 12]), (.ireturn, 1, [0])]
def kX11_near_17 : List qIns := [(.aload_n 0, 1, []), (.aload_n 0, 1, []), (.getfield 10, 3, [11, 0, 739, 2]), (.getfield 337, 3, [1, 12, 339, 2]), (.iload_n 1, 1, []), (.iaload, 1, []), (.invokevirtual 210, 3, [139, 1079, 2, 0, 12]), (.ireturn, 1, [0])]
def mX11_near : qMI := (yX11_near, cX11_near, 2, (some .int), 11, [1328, 257, 1326, 1327], 1, false, [(0, kX11_near_0), (17, kX11_near_17)])
def kX11_due_0 : List qIns := [(.aload_n 0, 1, []), (.getfield 10, 3, [11, 0, 739, 2]), (.iload_n 1, 1, []), (.invokevirtual 255, 3, [10, 1184, 2, 0, 2]), (.ifCond .eq 14, 3, [22]), (.aload_n 0, 1, []), (.getfield 10, 3, [11, 0, 739, 2]), (.iload_n 2, 1, []), (.invokevirtual 279, 3, [11, 1198, 2, 0, 2]), (.ifCond .ne 9, 3, [28]), (.nop, 0, [22])]
def kX11_due_22 : List qIns := [(.aload_n 0, 1, []), (.iconst 1, 1, [1]), (.invokevirtual 165, 3, [140, 883, 2, 0, 12]), (.ireturn, 1, [0])]
def kX11_due_28 : List qIns := [(.aload_n 0, 1, []), (.getfield 10, 3, [11, 0, 739, 2]), (.getfield 282, 3, [1, 13, 342, 2]), (.iload_n 2, 1, []), (.iaload, 1, []), (.iload_n 1, 1, []), (.if_icmp .eq 23, 3, [61]), (.aload_n 0, 1, []), (.getfield 10, 3, [11, 0, 739, 2]), (.getfield 285, 3, [1, 14, 345, 2]), (.iload_n 2, 1, []), (.iaload, 1, []), (.iload_n 1, 1, []), (.if_icmp .eq 10, 3, [61]), (.aload_n 0, 1, []), (.bipush 6, 2, [6]), (.invokevirtual 165, 3, [140, 883, 2, 0, 12]), (.ireturn, 1, [0])]
def kX11_due_61 : List qIns := [(.aload_n 0, 1, []), (.getfield 10, 3, [11, 0, 739, 2]), (.iload_n 2, 1, []), (.invokevirtual 325, 3, [20, 1302, 2, 0, 2]), (.ifCond .ne 10, 3, [79]), (.aload_n 0, 1, []), (.bipush 7, 2, [7]), (.invokevirtual 165, 3, [140, 883, 2, 0, 12]), (.ireturn, 1, [0])]
def kX11_due_79 : List qIns := [(.aload_n 0, 1, []), (.aload_n 0, 1, []), (.getfield 10, 3, [11, 0, 739, 2]), (.iload_n 1, 1, []), (.iload_n 2, 1, []), (.aload_n 0, 1, []), (.getfield 10, 3, [11, 0, 739, 2]), (.invokevirtual 245, 3, [22, 1168, 1, 0, 2]), (.invokevirtual 340, 3, [26, 1333, 4, 0, 2]), (.invokevirtual 210, 3, [139, 1079, 2, 0, 12]), (.ireturn, 1, [0])]
def mX11_due : qMI := (yX11_due, cX11_due, 3, (some .int), 11, [1332, 257, 1330, 1331], 2, false, [(0, kX11_due_0), (22, kX11_due_22), (28, kX11_due_28), (61, kX11_due_61), (79, kX11_due_79)])
def kX11_upIn_0 : List qIns := [(.aload_n 0, 1, []), (.getfield 10, 3, [11, 0, 739, 2]), (.iload_n 1, 1, []), (.invokevirtual 255, 3, [10, 1184, 2, 0, 2]), (.ifCond .ne 9, 3, [17]), (.aload_n 0, 1, []), (.iconst 1, 1, [1]), (.invokevirtual 165, 3, [140, 883, 2, 0, 12]), (.ireturn, 1, [0])]
def kX11_upIn_17 : List qIns := [(.aload_n 0, 1, []), (.getfield 22, 3, [11, 2, 741, 2]), (.aload_n 0, 1, []), (.getfield 10, 3, [11, 0, 739, 2]), (.invokevirtual 343, 3, [1, 1338, 2, 0, 1]), (.pop, 1, []), (.aload_n 0, 1, []), (.aload_n 0, 1, []), (.getfield 22, 3, [11, 2, 741, 2]), (.getfield 347, 3, [0, 1, 403, 2]), (.iload_n 1, 1, []), (.iaload, 1, []), (.invokevirtual 210, 3, [139, 1079, 2, 0, 12]), (.ireturn, 1, [0])]
def mX11_upIn : qMI := (yX11_upIn, cX11_upIn, 2, (some .int), 11, [1337, 257, 1335, 1336], 1, false, [(0, kX11_upIn_0), (17, kX11_upIn_17)])
def kX11_upBy_0 : List qIns := [(.iload_n 1, 1, []), (.i2l, 1, []), (.lconst 0, 1, []), (.ldc2_w 350, 3, [1363, 200]), (.invokestatic 133, 3, [138, 837, 3, 0, 0]), (.ifCond .ne 9, 3, [18]), (.aload_n 0, 1, []), (.iconst 1, 1, [1]), (.invokevirtual 165, 3, [140, 883, 2, 0, 12]), (.ireturn, 1, [0])]
def kX11_upBy_18 : List qIns := [(.aload_n 0, 1, []), (.getfield 22, 3, [11, 2, 741, 2]), (.aload_n 0, 1, []), (.getfield 10, 3, [11, 0, 739, 2]), (.invokevirtual 343, 3, [1, 1338, 2, 0, 1]), (.pop, 1, []), (.aload_n 0, 1, []), (.aload_n 0, 1, []), (.getfield 22, 3, [11, 2, 741, 2]), (.iload_n 1, 1, []), (.invokevirtual 352, 3, [5, 1364, 2, 0, 1]), (.invokevirtual 210, 3, [139, 1079, 2, 0, 12]), (.ireturn, 1, [0])]
def mX11_upBy : qMI := (yX11_upBy, cX11_upBy, 2, (some .int), 11, [1362, 257, 1360, 1361], 1, false, [(0, kX11_upBy_0), (18, kX11_upBy_18)])
def kX11_breakfast_0 : List qIns := [(.aload_n 0, 1, []), (.aload_n 0, 1, []), (.getfield 22, 3, [11, 2, 741, 2]), (.aload_n 0, 1, []), (.getfield 10, 3, [11, 0, 739, 2]), (.invokevirtual 343, 3, [1, 1338, 2, 0, 1]), (.invokevirtual 210, 3, [139, 1079, 2, 0, 12]), (.ireturn, 1, [0])]
def mX11_breakfast : qMI := (yX11_breakfast, cX11_breakfast, 1, (some .int), 11, [1371, 257, 1369, 1370], 0, false, [(0, kX11_breakfast_0)])
def kX11_overIn_0 : List qIns := [(.aload_n 0, 1, []), (.getfield 10, 3, [11, 0, 739, 2]), (.iload_n 1, 1, []), (.invokevirtual 279, 3, [11, 1198, 2, 0, 2]), (.ifCond .ne 9, 3, [17]), (.aload_n 0, 1, []), (.iconst 1, 1, [1]), (.invokevirtual 165, 3, [140, 883, 2, 0, 12]), (.ireturn, 1, [0])]
def kX11_overIn_17 : List qIns := [(.aload_n 0, 1, []), (.getfield 22, 3, [11, 2, 741, 2]), (.aload_n 0, 1, []), (.getfield 10, 3, [11, 0, 739, 2]), (.invokevirtual 343, 3, [1, 1338, 2, 0, 1]), (.pop, 1, []), (.aload_n 0, 1, []), (.aload_n 0, 1, []), (.getfield 22, 3, [11, 2, 741, 2]), (.getfield 355, 3, [0, 2, 405, 2]), (.iload_n 1, 1, []), (.iaload, 1, []), (.invokevirtual 210, 3, [139, 1079, 2, 0, 12]), (.ireturn, 1, [0])]
def mX11_overIn : qMI := (yX11_overIn, cX11_overIn, 2, (some .int), 11, [1375, 257, 1373, 1374], 1, false, [(0, kX11_overIn_0), (17, kX11_overIn_17)])
def kX11_yielder_0 : List qIns := [(.aload_n 0, 1, []), (.getfield 10, 3, [11, 0, 739, 2]), (.iload_n 1, 1, []), (.invokevirtual 279, 3, [11, 1198, 2, 0, 2]), (.ifCond .ne 9, 3, [17]), (.aload_n 0, 1, []), (.iconst 1, 1, [1]), (.invokevirtual 165, 3, [140, 883, 2, 0, 12]), (.ireturn, 1, [0])]
def kX11_yielder_17 : List qIns := [(.aload_n 0, 1, []), (.getfield 22, 3, [11, 2, 741, 2]), (.aload_n 0, 1, []), (.getfield 10, 3, [11, 0, 739, 2]), (.invokevirtual 343, 3, [1, 1338, 2, 0, 1]), (.pop, 1, []), (.aload_n 0, 1, []), (.aload_n 0, 1, []), (.getfield 22, 3, [11, 2, 741, 2]), (.getfield 358, 3, [0, 0, 400, 2]), (.getfield 291, 3, [1, 16, 353, 2]), (.iload_n 1, 1, []), (.iaload, 1, []), (.invokevirtual 210, 3, [139, 1079, 2, 0, 12]), (.ireturn, 1, [0])]
def mX11_yielder : qMI := (yX11_yielder, cX11_yielder, 2, (some .int), 11, [1379, 257, 1377, 1378], 1, false, [(0, kX11_yielder_0), (17, kX11_yielder_17)])
def kX11_reveille_0 : List qIns := [(.aload_n 0, 1, []), (.getfield 22, 3, [11, 2, 741, 2]), (.aload_n 0, 1, []), (.getfield 10, 3, [11, 0, 739, 2]), (.invokevirtual 343, 3, [1, 1338, 2, 0, 1]), (.pop, 1, []), (.aload_n 0, 1, []), (.getfield 22, 3, [11, 2, 741, 2]), (.getfield 361, 3, [0, 3, 407, 0]), (.iconst (-1), 1, []), (.if_icmp .ne 10, 3, [30]), (.aload_n 0, 1, []), (.bipush 6, 2, [6]), (.invokevirtual 165, 3, [140, 883, 2, 0, 12]), (.ireturn, 1, [0])]
def kX11_reveille_30 : List qIns := [(.aload_n 0, 1, []), (.aload_n 0, 1, []), (.getfield 22, 3, [11, 2, 741, 2]), (.getfield 361, 3, [0, 3, 407, 0]), (.invokevirtual 210, 3, [139, 1079, 2, 0, 12]), (.ireturn, 1, [0])]
def mX11_reveille : qMI := (yX11_reveille, cX11_reveille, 1, (some .int), 11, [1383, 257, 1381, 1382], 0, false, [(0, kX11_reveille_0), (30, kX11_reveille_30)])
def kX11_last_0 : List qIns := [(.aload_n 0, 1, []), (.getfield 10, 3, [11, 0, 739, 2]), (.getfield 207, 3, [1, 4, 318, 0]), (.ifCond .ne 10, 3, [17]), (.aload_n 0, 1, []), (.bipush 6, 2, [6]), (.invokevirtual 165, 3, [140, 883, 2, 0, 12]), (.ireturn, 1, [0])]
def kX11_last_17 : List qIns := [(.aload_n 0, 1, []), (.getfield 22, 3, [11, 2, 741, 2]), (.aload_n 0, 1, []), (.getfield 10, 3, [11, 0, 739, 2]), (.invokevirtual 343, 3, [1, 1338, 2, 0, 1]), (.pop, 1, []), (.aload_n 0, 1, []), (.aload_n 0, 1, []), (.getfield 22, 3, [11, 2, 741, 2]), (.invokevirtual 364, 3, [6, 1388, 1, 0, 1]), (.invokevirtual 210, 3, [139, 1079, 2, 0, 12]), (.ireturn, 1, [0])]
def mX11_last : qMI := (yX11_last, cX11_last, 1, (some .int), 11, [1387, 257, 1385, 1386], 0, false, [(0, kX11_last_0), (17, kX11_last_17)])
def kX11_soonestStatus_0 : List qIns := [(.iload_n 1, 1, []), (.i2l, 1, []), (.lconst 0, 1, []), (.ldc2_w 367, 3, [1400, 4]), (.invokestatic 133, 3, [138, 837, 3, 0, 0]), (.ifCond .ne 5, 3, [14]), (.iconst 1, 1, [1]), (.ireturn, 1, [0])]
def kX11_soonestStatus_14 : List qIns := [(.iload_n 1, 1, []), (.aload_n 0, 1, []), (.getfield 10, 3, [11, 0, 739, 2]), (.getfield 207, 3, [1, 4, 318, 0]), (.if_icmp .le 8, 3, [30]), (.bipush 6, 2, [6]), (.goto 4, 3, [31])]
def kX11_soonestStatus_30 : List qIns := [(.iconst 0, 1, [0]), (.nop, 0, [31])]
def kX11_soonestStatus_31 : List qIns := [(.ireturn, 1, [0])]
def mX11_soonestStatus : qMI := (yX11_soonestStatus, cX11_soonestStatus, 2, (some .int), 11, [1399, 257, 1398, 25], 1, false, [(0, kX11_soonestStatus_0), (14, kX11_soonestStatus_14), (30, kX11_soonestStatus_30), (31, kX11_soonestStatus_31)])
def kX11_soonest_0 : List qIns := [(.aload_n 0, 1, []), (.iload_n 1, 1, []), (.invokevirtual 369, 3, [179, 1396, 2, 0, 12]), (.istore_n 2, 1, []), (.iload_n 2, 1, []), (.ifCond .eq 11, 3, [18]), (.aload_n 0, 1, []), (.iload_n 2, 1, []), (.invokevirtual 165, 3, [140, 883, 2, 0, 12]), (.goto 19, 3, [34])]
def kX11_soonest_18 : List qIns := [(.aload_n 0, 1, []), (.aload_n 0, 1, []), (.getfield 31, 3, [11, 3, 742, 2]), (.aload_n 0, 1, []), (.getfield 10, 3, [11, 0, 739, 2]), (.iload_n 1, 1, []), (.invokevirtual 372, 3, [75, 1401, 3, 0, 7]), (.invokevirtual 210, 3, [139, 1079, 2, 0, 12]), (.nop, 0, [34])]
def kX11_soonest_34 : List qIns := [(.ireturn, 1, [0])]
def mX11_soonest : qMI := (yX11_soonest, cX11_soonest, 3, (some .int), 11, [1395, 257, 1393, 1394], 1, false, [(0, kX11_soonest_0), (18, kX11_soonest_18), (34, kX11_soonest_34)])
def kX11_soonestIn_0 : List qIns := [(.aload_n 0, 1, []), (.iload_n 1, 1, []), (.invokevirtual 369, 3, [179, 1396, 2, 0, 12]), (.istore_n 2, 1, []), (.iload_n 2, 1, []), (.ifCond .eq 9, 3, [16]), (.aload_n 0, 1, []), (.iload_n 2, 1, []), (.invokevirtual 165, 3, [140, 883, 2, 0, 12]), (.ireturn, 1, [0])]
def kX11_soonestIn_16 : List qIns := [(.aload_n 0, 1, []), (.getfield 31, 3, [11, 3, 742, 2]), (.aload_n 0, 1, []), (.getfield 10, 3, [11, 0, 739, 2]), (.iload_n 1, 1, []), (.invokevirtual 372, 3, [75, 1401, 3, 0, 7]), (.pop, 1, []), (.aload_n 0, 1, []), (.aload_n 0, 1, []), (.getfield 31, 3, [11, 3, 742, 2]), (.getfield 376, 3, [6, 2, 426, 0]), (.invokevirtual 210, 3, [139, 1079, 2, 0, 12]), (.ireturn, 1, [0])]
def mX11_soonestIn : qMI := (yX11_soonestIn, cX11_soonestIn, 3, (some .int), 11, [1417, 257, 1415, 1416], 1, false, [(0, kX11_soonestIn_0), (16, kX11_soonestIn_16)])
def kX11_best_0 : List qIns := [(.aload_n 0, 1, []), (.getfield 10, 3, [11, 0, 739, 2]), (.iload_n 1, 1, []), (.invokevirtual 255, 3, [10, 1184, 2, 0, 2]), (.ifCond .ne 9, 3, [17]), (.aload_n 0, 1, []), (.iconst 1, 1, [1]), (.invokevirtual 165, 3, [140, 883, 2, 0, 12]), (.ireturn, 1, [0])]
def kX11_best_17 : List qIns := [(.aload_n 0, 1, []), (.aload_n 0, 1, []), (.getfield 31, 3, [11, 3, 742, 2]), (.aload_n 0, 1, []), (.getfield 10, 3, [11, 0, 739, 2]), (.iload_n 1, 1, []), (.invokevirtual 379, 3, [77, 1422, 3, 0, 7]), (.invokevirtual 210, 3, [139, 1079, 2, 0, 12]), (.ireturn, 1, [0])]
def mX11_best : qMI := (yX11_best, cX11_best, 2, (some .int), 11, [1421, 257, 1419, 1420], 1, false, [(0, kX11_best_0), (17, kX11_best_17)])
def kX11_bestIn_0 : List qIns := [(.aload_n 0, 1, []), (.getfield 10, 3, [11, 0, 739, 2]), (.iload_n 1, 1, []), (.invokevirtual 255, 3, [10, 1184, 2, 0, 2]), (.ifCond .ne 9, 3, [17]), (.aload_n 0, 1, []), (.iconst 1, 1, [1]), (.invokevirtual 165, 3, [140, 883, 2, 0, 12]), (.ireturn, 1, [0])]
def kX11_bestIn_17 : List qIns := [(.aload_n 0, 1, []), (.getfield 31, 3, [11, 3, 742, 2]), (.aload_n 0, 1, []), (.getfield 10, 3, [11, 0, 739, 2]), (.iload_n 1, 1, []), (.invokevirtual 379, 3, [77, 1422, 3, 0, 7]), (.pop, 1, []), (.aload_n 0, 1, []), (.aload_n 0, 1, []), (.getfield 31, 3, [11, 3, 742, 2]), (.getfield 376, 3, [6, 2, 426, 0]), (.invokevirtual 210, 3, [139, 1079, 2, 0, 12]), (.ireturn, 1, [0])]
def mX11_bestIn : qMI := (yX11_bestIn, cX11_bestIn, 2, (some .int), 11, [1430, 257, 1428, 1429], 1, false, [(0, kX11_bestIn_0), (17, kX11_bestIn_17)])
def kX11_ending_0 : List qIns := [(.aload_n 0, 1, []), (.aload_n 0, 1, []), (.getfield 10, 3, [11, 0, 739, 2]), (.invokestatic 382, 3, [78, 1435, 1, 0, 0]), (.invokestatic 385, 3, [368, 1445, 1, 0, 0]), (.invokevirtual 210, 3, [139, 1079, 2, 0, 12]), (.ireturn, 1, [0])]
def mX11_ending : qMI := (yX11_ending, cX11_ending, 1, (some .int), 11, [1434, 257, 1432, 1433], 0, false, [(0, kX11_ending_0)])
def kX11_endingSet_0 : List qIns := [(.aload_n 0, 1, []), (.aload_n 0, 1, []), (.getfield 10, 3, [11, 0, 739, 2]), (.invokestatic 382, 3, [78, 1435, 1, 0, 0]), (.invokevirtual 210, 3, [139, 1079, 2, 0, 12]), (.ireturn, 1, [0])]
def mX11_endingSet : qMI := (yX11_endingSet, cX11_endingSet, 1, (some .int), 11, [1449, 257, 1447, 1448], 0, false, [(0, kX11_endingSet_0)])
def kX11_apart_0 : List qIns := [(.aload_n 0, 1, []), (.aload_n 0, 1, []), (.getfield 10, 3, [11, 0, 739, 2]), (.invokestatic 390, 3, [81, 1454, 1, 0, 0]), (.invokestatic 385, 3, [368, 1445, 1, 0, 0]), (.invokevirtual 210, 3, [139, 1079, 2, 0, 12]), (.ireturn, 1, [0])]
def mX11_apart : qMI := (yX11_apart, cX11_apart, 1, (some .int), 11, [1453, 257, 1451, 1452], 0, false, [(0, kX11_apart_0)])
def kX11_apartSet_0 : List qIns := [(.aload_n 0, 1, []), (.aload_n 0, 1, []), (.getfield 10, 3, [11, 0, 739, 2]), (.invokestatic 390, 3, [81, 1454, 1, 0, 0]), (.invokevirtual 210, 3, [139, 1079, 2, 0, 12]), (.ireturn, 1, [0])]
def mX11_apartSet : qMI := (yX11_apartSet, cX11_apartSet, 1, (some .int), 11, [1464, 257, 1462, 1463], 0, false, [(0, kX11_apartSet_0)])
def kX11_circle_0 : List qIns := [(.aload_n 0, 1, []), (.getfield 10, 3, [11, 0, 739, 2]), (.iload_n 1, 1, []), (.invokevirtual 255, 3, [10, 1184, 2, 0, 2]), (.ifCond .ne 9, 3, [17]), (.aload_n 0, 1, []), (.iconst 1, 1, [1]), (.invokevirtual 165, 3, [140, 883, 2, 0, 12]), (.ireturn, 1, [0])]
def kX11_circle_17 : List qIns := [(.aload_n 0, 1, []), (.aload_n 0, 1, []), (.getfield 10, 3, [11, 0, 739, 2]), (.iload_n 1, 1, []), (.invokestatic 393, 3, [83, 1469, 2, 0, 0]), (.invokevirtual 210, 3, [139, 1079, 2, 0, 12]), (.ireturn, 1, [0])]
def mX11_circle : qMI := (yX11_circle, cX11_circle, 2, (some .int), 11, [1468, 257, 1466, 1467], 1, false, [(0, kX11_circle_0), (17, kX11_circle_17)])
def kX11_circles_0 : List qIns := [(.aload_n 0, 1, []), (.aload_n 0, 1, []), (.getfield 10, 3, [11, 0, 739, 2]), (.invokestatic 396, 3, [84, 1476, 1, 0, 0]), (.invokevirtual 210, 3, [139, 1079, 2, 0, 12]), (.ireturn, 1, [0])]
def mX11_circles : qMI := (yX11_circles, cX11_circles, 1, (some .int), 11, [1475, 257, 1473, 1474], 0, false, [(0, kX11_circles_0)])
def kX11_sides_0 : List qIns := [(.aload_n 0, 1, []), (.getfield 10, 3, [11, 0, 739, 2]), (.invokestatic 399, 3, [85, 1484, 1, 0, 0]), (.istore_n 1, 1, []), (.iload_n 1, 1, []), (.iconst (-1), 1, []), (.if_icmp .ne 12, 3, [22]), (.aload_n 0, 1, []), (.bipush 6, 2, [6]), (.invokevirtual 165, 3, [140, 883, 2, 0, 12]), (.goto 8, 3, [27])]
def kX11_sides_22 : List qIns := [(.aload_n 0, 1, []), (.iload_n 1, 1, []), (.invokevirtual 210, 3, [139, 1079, 2, 0, 12]), (.nop, 0, [27])]
def kX11_sides_27 : List qIns := [(.ireturn, 1, [0])]
def mX11_sides : qMI := (yX11_sides, cX11_sides, 2, (some .int), 11, [1483, 257, 1481, 1482], 0, false, [(0, kX11_sides_0), (22, kX11_sides_22), (27, kX11_sides_27)])
def kX11_clueStatus_0 : List qIns := [(.aload_n 0, 1, []), (.getfield 10, 3, [11, 0, 739, 2]), (.iload_n 1, 1, []), (.invokevirtual 255, 3, [10, 1184, 2, 0, 2]), (.ifCond .eq 26, 3, [34]), (.aload_n 0, 1, []), (.getfield 52, 3, [11, 6, 745, 2]), (.iload_n 2, 1, []), (.invokevirtual 127, 3, [109, 832, 2, 0, 9]), (.ifCond .eq 15, 3, [34]), (.iload_n 3, 1, []), (.i2l, 1, []), (.lconst 0, 1, []), (.ldc2_w 402, 3, [1498, 20]), (.invokestatic 133, 3, [138, 837, 3, 0, 0]), (.ifCond .ne 5, 3, [36]), (.nop, 0, [34])]
def kX11_clueStatus_34 : List qIns := [(.iconst 1, 1, [1]), (.ireturn, 1, [0])]
def kX11_clueStatus_36 : List qIns := [(.aload_n 0, 1, []), (.getfield 52, 3, [11, 6, 745, 2]), (.iload_n 2, 1, []), (.invokevirtual 150, 3, [110, 862, 2, 0, 9]), (.ifCond .ne 5, 3, [49]), (.iconst 2, 1, [2]), (.ireturn, 1, [0])]
def kX11_clueStatus_49 : List qIns := [(.aload_n 0, 1, []), (.getfield 52, 3, [11, 6, 745, 2]), (.iload_n 2, 1, []), (.iconst 0, 1, [0]), (.iconst 2, 1, [2]), (.iload_n 3, 1, []), (.imul, 1, []), (.invokevirtual 176, 3, [113, 900, 4, 0, 9]), (.ifCond .ne 5, 3, [66]), (.iconst 3, 1, [3]), (.ireturn, 1, [0])]
def kX11_clueStatus_66 : List qIns := [(.iconst 0, 1, [0]), (.istore 4, 2, []), (.nop, 0, [69])]
def kX11_clueStatus_69 : List qIns := [(.iload 4, 2, []), (.iload_n 3, 1, []), (.if_icmp .ge 68, 3, [140]), (.aload_n 0, 1, []), (.getfield 52, 3, [11, 6, 745, 2]), (.iload_n 2, 1, []), (.iconst 2, 1, [2]), (.iload 4, 2, []), (.imul, 1, []), (.invokevirtual 169, 3, [116, 887, 3, 1, 9]), (.lconst 0, 1, []), (.aload_n 0, 1, []), (.getfield 10, 3, [11, 0, 739, 2]), (.getfield 207, 3, [1, 4, 318, 0]), (.iconst 1, 1, [1]), (.isub, 1, []), (.i2l, 1, []), (.invokestatic 133, 3, [138, 837, 3, 0, 0]), (.istore 5, 2, []), (.iload 5, 2, []), (.ifCond .eq 27, 3, [132]), (.aload_n 0, 1, []), (.getfield 52, 3, [11, 6, 745, 2]), (.iload_n 2, 1, []), (.iconst 2, 1, [2]), (.iload 4, 2, []), (.imul, 1, []), (.iconst 1, 1, [1]), (.iadd, 1, []), (.invokevirtual 169, 3, [116, 887, 3, 1, 9]), (.lconst 0, 1, []), (.ldc2_w 350, 3, [1363, 200]), (.invokestatic 133, 3, [138, 837, 3, 0, 0]), (.ifCond .ne 5, 3, [134]), (.nop, 0, [132])]
def kX11_clueStatus_132 : List qIns := [(.iconst 5, 1, [5]), (.ireturn, 1, [0])]
def kX11_clueStatus_134 : List qIns := [(.iinc 4 1, 3, [1]), (.goto (-68), 3, [69])]
def kX11_clueStatus_140 : List qIns := [(.iconst 0, 1, [0]), (.ireturn, 1, [0])]
def mX11_clueStatus : qMI := (yX11_clueStatus, cX11_clueStatus, 6, (some .int), 11, [1497, 257, 1496, 27], 3, false, [(0, kX11_clueStatus_0), (34, kX11_clueStatus_34), (36, kX11_clueStatus_36), (49, kX11_clueStatus_49), (66, kX11_clueStatus_66), (69, kX11_clueStatus_69), (132, kX11_clueStatus_132), (134, kX11_clueStatus_134), (140, kX11_clueStatus_140)])
def kX11_fittingPrides_0 : List qIns := [(.aload_n 0, 1, []), (.getfield 38, 3, [11, 4, 743, 2]), (.invokevirtual 404, 3, [41, 1503, 1, 2, 4]), (.iconst 0, 1, [0]), (.istore 4, 2, []), (.nop, 0, [10])]
def kX11_fittingPrides_10 : List qIns := [(.iload 4, 2, []), (.iload_n 3, 1, []), (.if_icmp .ge 44, 3, [57]), (.aload_n 0, 1, []), (.getfield 38, 3, [11, 4, 743, 2]), (.aload_n 0, 1, []), (.getfield 52, 3, [11, 6, 745, 2]), (.iload_n 2, 1, []), (.iconst 2, 1, [2]), (.iload 4, 2, []), (.imul, 1, []), (.invokevirtual 169, 3, [116, 887, 3, 1, 9]), (.l2i, 1, []), (.aload_n 0, 1, []), (.getfield 52, 3, [11, 6, 745, 2]), (.iload_n 2, 1, []), (.iconst 2, 1, [2]), (.iload 4, 2, []), (.imul, 1, []), (.iconst 1, 1, [1]), (.iadd, 1, []), (.invokevirtual 169, 3, [116, 887, 3, 1, 9]), (.l2i, 1, []), (.invokevirtual 407, 3, [42, 1507, 3, 2, 4]), (.iinc 4 1, 3, [1]), (.goto (-44), 3, [10])]
def kX11_fittingPrides_57 : List qIns := [(.aload_n 0, 1, []), (.getfield 38, 3, [11, 4, 743, 2]), (.aload_n 0, 1, []), (.getfield 10, 3, [11, 0, 739, 2]), (.iload_n 1, 1, []), (.invokevirtual 410, 3, [43, 1511, 3, 0, 4]), (.ireturn, 1, [0])]
def mX11_fittingPrides : qMI := (yX11_fittingPrides, cX11_fittingPrides, 5, (some .int), 11, [1502, 257, 1501, 28], 3, false, [(0, kX11_fittingPrides_0), (10, kX11_fittingPrides_10), (57, kX11_fittingPrides_57)])
def kX11_fits_0 : List qIns := [(.aload_n 0, 1, []), (.iload_n 1, 1, []), (.iload_n 2, 1, []), (.iload_n 3, 1, []), (.invokevirtual 413, 3, [191, 1494, 4, 0, 12]), (.istore 4, 2, []), (.iload 4, 2, []), (.ifCond .eq 10, 3, [21]), (.aload_n 0, 1, []), (.iload 4, 2, []), (.invokevirtual 165, 3, [140, 883, 2, 0, 12]), (.ireturn, 1, [0])]
def kX11_fits_21 : List qIns := [(.aload_n 0, 1, []), (.aload_n 0, 1, []), (.iload_n 1, 1, []), (.iload_n 2, 1, []), (.iload_n 3, 1, []), (.invokevirtual 416, 3, [192, 1499, 4, 0, 12]), (.invokestatic 385, 3, [368, 1445, 1, 0, 0]), (.invokevirtual 210, 3, [139, 1079, 2, 0, 12]), (.ireturn, 1, [0])]
def mX11_fits : qMI := (yX11_fits, cX11_fits, 5, (some .int), 11, [1493, 257, 1491, 1492], 3, false, [(0, kX11_fits_0), (21, kX11_fits_21)])
def kX11_fitsAt_0 : List qIns := [(.iload 4, 2, []), (.i2l, 1, []), (.lconst 0, 1, []), (.lconst 1, 1, []), (.invokestatic 133, 3, [138, 837, 3, 0, 0]), (.ifCond .eq 13, 3, [21]), (.aload_n 0, 1, []), (.iload_n 1, 1, []), (.iload_n 2, 1, []), (.iload_n 3, 1, []), (.invokevirtual 413, 3, [191, 1494, 4, 0, 12]), (.goto 4, 3, [22])]
def kX11_fitsAt_21 : List qIns := [(.iconst 1, 1, [1]), (.nop, 0, [22])]
def kX11_fitsAt_22 : List qIns := [(.istore 5, 2, []), (.iload 5, 2, []), (.ifCond .eq 10, 3, [36]), (.aload_n 0, 1, []), (.iload 5, 2, []), (.invokevirtual 165, 3, [140, 883, 2, 0, 12]), (.ireturn, 1, [0])]
def kX11_fitsAt_36 : List qIns := [(.aload_n 0, 1, []), (.iload_n 1, 1, []), (.iload_n 2, 1, []), (.iload_n 3, 1, []), (.invokevirtual 416, 3, [192, 1499, 4, 0, 12]), (.istore 6, 2, []), (.iload 6, 2, []), (.ifCond .ne 10, 3, [57]), (.aload_n 0, 1, []), (.bipush 6, 2, [6]), (.invokevirtual 165, 3, [140, 883, 2, 0, 12]), (.ireturn, 1, [0])]
def kX11_fitsAt_57 : List qIns := [(.aload_n 0, 1, []), (.iload 4, 2, []), (.ifCond .ne 11, 3, [71]), (.iload 6, 2, []), (.invokestatic 418, 3, [48, 1543, 1, 0, 0]), (.goto 8, 3, [76])]
def kX11_fitsAt_71 : List qIns := [(.iload 6, 2, []), (.invokestatic 421, 3, [49, 1546, 1, 0, 0]), (.nop, 0, [76])]
def kX11_fitsAt_76 : List qIns := [(.invokevirtual 210, 3, [139, 1079, 2, 0, 12]), (.ireturn, 1, [0])]
def mX11_fitsAt : qMI := (yX11_fitsAt, cX11_fitsAt, 7, (some .int), 11, [1542, 257, 1540, 1541], 4, false, [(0, kX11_fitsAt_0), (21, kX11_fitsAt_21), (22, kX11_fitsAt_22), (36, kX11_fitsAt_36), (57, kX11_fitsAt_57), (71, kX11_fitsAt_71), (76, kX11_fitsAt_76)])
def kX11_ask_0 : List qIns := [(.aload_n 0, 1, []), (.iload_n 1, 1, []), (.iload_n 2, 1, []), (.iload_n 3, 1, []), (.invokevirtual 413, 3, [191, 1494, 4, 0, 12]), (.istore 4, 2, []), (.iload 4, 2, []), (.ifCond .eq 10, 3, [21]), (.aload_n 0, 1, []), (.iload 4, 2, []), (.invokevirtual 165, 3, [140, 883, 2, 0, 12]), (.ireturn, 1, [0])]
def kX11_ask_21 : List qIns := [(.aload_n 0, 1, []), (.iload_n 1, 1, []), (.iload_n 2, 1, []), (.iload_n 3, 1, []), (.invokevirtual 416, 3, [192, 1499, 4, 0, 12]), (.istore 5, 2, []), (.iload 5, 2, []), (.invokestatic 385, 3, [368, 1445, 1, 0, 0]), (.iconst 2, 1, [2]), (.if_icmp .ge 10, 3, [46]), (.aload_n 0, 1, []), (.bipush 6, 2, [6]), (.invokevirtual 165, 3, [140, 883, 2, 0, 12]), (.ireturn, 1, [0])]
def kX11_ask_46 : List qIns := [(.aload_n 0, 1, []), (.aload_n 0, 1, []), (.getfield 38, 3, [11, 4, 743, 2]), (.aload_n 0, 1, []), (.getfield 10, 3, [11, 0, 739, 2]), (.getfield 207, 3, [1, 4, 318, 0]), (.iload 5, 2, []), (.invokevirtual 424, 3, [45, 1553, 3, 0, 4]), (.invokevirtual 210, 3, [139, 1079, 2, 0, 12]), (.ireturn, 1, [0])]
def mX11_ask : qMI := (yX11_ask, cX11_ask, 6, (some .int), 11, [1552, 257, 1550, 1551], 3, false, [(0, kX11_ask_0), (21, kX11_ask_21), (46, kX11_ask_46)])
def kX11_rests_0 : List qIns := [(.aload_n 0, 1, []), (.getfield 10, 3, [11, 0, 739, 2]), (.iload_n 1, 1, []), (.invokevirtual 279, 3, [11, 1198, 2, 0, 2]), (.ifCond .eq 15, 3, [23]), (.iload_n 2, 1, []), (.i2l, 1, []), (.lconst 0, 1, []), (.ldc2_w 402, 3, [1498, 20]), (.invokestatic 133, 3, [138, 837, 3, 0, 0]), (.ifCond .ne 9, 3, [29]), (.nop, 0, [23])]
def kX11_rests_23 : List qIns := [(.aload_n 0, 1, []), (.iconst 1, 1, [1]), (.invokevirtual 165, 3, [140, 883, 2, 0, 12]), (.ireturn, 1, [0])]
def kX11_rests_29 : List qIns := [(.aload_n 0, 1, []), (.aload_n 0, 1, []), (.getfield 10, 3, [11, 0, 739, 2]), (.getfield 288, 3, [1, 15, 348, 2]), (.iload_n 1, 1, []), (.iaload, 1, []), (.iload_n 2, 1, []), (.invokestatic 427, 3, [53, 1571, 2, 0, 0]), (.invokevirtual 210, 3, [139, 1079, 2, 0, 12]), (.ireturn, 1, [0])]
def mX11_rests : qMI := (yX11_rests, cX11_rests, 3, (some .int), 11, [1570, 257, 1568, 1569], 2, false, [(0, kX11_rests_0), (23, kX11_rests_23), (29, kX11_rests_29)])
def kX11_restAt_0 : List qIns := [(.aload_n 0, 1, []), (.getfield 10, 3, [11, 0, 739, 2]), (.iload_n 1, 1, []), (.invokevirtual 279, 3, [11, 1198, 2, 0, 2]), (.ifCond .eq 30, 3, [38]), (.iload_n 2, 1, []), (.i2l, 1, []), (.lconst 0, 1, []), (.ldc2_w 402, 3, [1498, 20]), (.invokestatic 133, 3, [138, 837, 3, 0, 0]), (.ifCond .eq 18, 3, [38]), (.iload_n 3, 1, []), (.ifCond .lt 14, 3, [38]), (.iload 4, 2, []), (.i2l, 1, []), (.lconst 0, 1, []), (.lconst 1, 1, []), (.invokestatic 133, 3, [138, 837, 3, 0, 0]), (.ifCond .ne 9, 3, [44]), (.nop, 0, [38])]
def kX11_restAt_38 : List qIns := [(.aload_n 0, 1, []), (.iconst 1, 1, [1]), (.invokevirtual 165, 3, [140, 883, 2, 0, 12]), (.ireturn, 1, [0])]
def kX11_restAt_44 : List qIns := [(.aload_n 0, 1, []), (.getfield 10, 3, [11, 0, 739, 2]), (.getfield 288, 3, [1, 15, 348, 2]), (.iload_n 1, 1, []), (.iaload, 1, []), (.iload_n 2, 1, []), (.iload_n 3, 1, []), (.invokestatic 430, 3, [54, 1584, 3, 0, 0]), (.istore 5, 2, []), (.iload 5, 2, []), (.iconst (-1), 1, []), (.if_icmp .ne 10, 3, [73]), (.aload_n 0, 1, []), (.bipush 6, 2, [6]), (.invokevirtual 165, 3, [140, 883, 2, 0, 12]), (.ireturn, 1, [0])]
def kX11_restAt_73 : List qIns := [(.aload_n 0, 1, []), (.iload 4, 2, []), (.ifCond .ne 12, 3, [88]), (.iload 5, 2, []), (.iload_n 2, 1, []), (.iconst 1, 1, [1]), (.iadd, 1, []), (.idiv, 1, []), (.goto 9, 3, [94])]
def kX11_restAt_88 : List qIns := [(.iload 5, 2, []), (.iload_n 2, 1, []), (.iconst 1, 1, [1]), (.iadd, 1, []), (.irem, 1, []), (.nop, 0, [94])]
def kX11_restAt_94 : List qIns := [(.invokevirtual 210, 3, [139, 1079, 2, 0, 12]), (.ireturn, 1, [0])]
def mX11_restAt : qMI := (yX11_restAt, cX11_restAt, 6, (some .int), 11, [1583, 257, 1581, 1582], 4, false, [(0, kX11_restAt_0), (38, kX11_restAt_38), (44, kX11_restAt_44), (73, kX11_restAt_73), (88, kX11_restAt_88), (94, kX11_restAt_94)])
def kX11_game_0 : List qIns := [(.iload_n 1, 1, []), (.i2l, 1, []), (.lconst 0, 1, []), (.ldc2_w 131, 3, [836, 3]), (.invokestatic 133, 3, [138, 837, 3, 0, 0]), (.ifCond .ne 9, 3, [18]), (.aload_n 0, 1, []), (.iconst 1, 1, [1]), (.invokevirtual 165, 3, [140, 883, 2, 0, 12]), (.ireturn, 1, [0])]
def kX11_game_18 : List qIns := [(.aload_n 0, 1, []), (.aload_n 0, 1, []), (.getfield 45, 3, [11, 5, 744, 2]), (.aload_n 0, 1, []), (.getfield 10, 3, [11, 0, 739, 2]), (.iload_n 1, 1, []), (.invokevirtual 433, 3, [55, 1591, 3, 0, 5]), (.invokevirtual 210, 3, [139, 1079, 2, 0, 12]), (.ireturn, 1, [0])]
def mX11_game : qMI := (yX11_game, cX11_game, 2, (some .int), 11, [1590, 257, 1588, 1589], 1, false, [(0, kX11_game_0), (18, kX11_game_18)])
def kX11_moveOf_0 : List qIns := [(.iload_n 1, 1, []), (.i2l, 1, []), (.lconst 1, 1, []), (.ldc2_w 131, 3, [836, 3]), (.invokestatic 133, 3, [138, 837, 3, 0, 0]), (.ifCond .ne 9, 3, [18]), (.aload_n 0, 1, []), (.iconst 1, 1, [1]), (.invokevirtual 165, 3, [140, 883, 2, 0, 12]), (.ireturn, 1, [0])]
def kX11_moveOf_18 : List qIns := [(.aload_n 0, 1, []), (.getfield 45, 3, [11, 5, 744, 2]), (.aload_n 0, 1, []), (.getfield 10, 3, [11, 0, 739, 2]), (.iload_n 1, 1, []), (.invokevirtual 436, 3, [56, 1611, 3, 0, 5]), (.istore_n 2, 1, []), (.iload_n 2, 1, []), (.iconst (-1), 1, []), (.if_icmp .ne 12, 3, [45]), (.aload_n 0, 1, []), (.bipush 6, 2, [6]), (.invokevirtual 165, 3, [140, 883, 2, 0, 12]), (.goto 8, 3, [50])]
def kX11_moveOf_45 : List qIns := [(.aload_n 0, 1, []), (.iload_n 2, 1, []), (.invokevirtual 210, 3, [139, 1079, 2, 0, 12]), (.nop, 0, [50])]
def kX11_moveOf_50 : List qIns := [(.ireturn, 1, [0])]
def mX11_moveOf : qMI := (yX11_moveOf, cX11_moveOf, 3, (some .int), 11, [1610, 257, 1608, 1609], 1, false, [(0, kX11_moveOf_0), (18, kX11_moveOf_18), (45, kX11_moveOf_45), (50, kX11_moveOf_50)])
def kX11_night_0 : List qIns := [(.iload_n 1, 1, []), (.i2l, 1, []), (.lconst 0, 1, []), (.ldc2_w 439, 3, [1619, 10]), (.invokestatic 133, 3, [138, 837, 3, 0, 0]), (.ifCond .ne 9, 3, [18]), (.aload_n 0, 1, []), (.iconst 1, 1, [1]), (.invokevirtual 139, 3, [142, 841, 2, 0, 12]), (.ireturn, 1, [1])]
def kX11_night_18 : List qIns := [(.aload_n 0, 1, []), (.getfield 10, 3, [11, 0, 739, 2]), (.invokevirtual 249, 3, [23, 1172, 1, 0, 2]), (.invokestatic 385, 3, [368, 1445, 1, 0, 0]), (.istore_n 2, 1, []), (.aload_n 0, 1, []), (.iload_n 2, 1, []), (.iload_n 1, 1, []), (.aload_n 0, 1, []), (.getfield 10, 3, [11, 0, 739, 2]), (.getfield 239, 3, [1, 2, 307, 0]), (.invokestatic 441, 3, [59, 1620, 3, 1, 0]), (.ldc2_w 332, 3, [1315, 16]), (.iload_n 2, 1, []), (.invokestatic 445, 3, [60, 1626, 2, 1, 0]), (.invokevirtual 449, 3, [143, 1627, 3, 2, 12]), (.aload_n 0, 1, []), (.invokevirtual 146, 3, [141, 850, 1, 0, 12]), (.ireturn, 1, [1])]
def mX11_night : qMI := (yX11_night, cX11_night, 3, (some .boolean), 11, [1618, 257, 1616, 1617], 1, false, [(0, kX11_night_0), (18, kX11_night_18)])
def kX11_wakes_0 : List qIns := [(.aload_n 0, 1, []), (.getfield 10, 3, [11, 0, 739, 2]), (.iload_n 1, 1, []), (.invokevirtual 255, 3, [10, 1184, 2, 0, 2]), (.ifCond .ne 9, 3, [17]), (.aload_n 0, 1, []), (.iconst 1, 1, [1]), (.invokevirtual 139, 3, [142, 841, 2, 0, 12]), (.ireturn, 1, [1])]
def kX11_wakes_17 : List qIns := [(.aload_n 0, 1, []), (.getfield 10, 3, [11, 0, 739, 2]), (.iload_n 1, 1, []), (.invokevirtual 273, 3, [25, 1190, 2, 0, 2]), (.istore_n 2, 1, []), (.aload_n 0, 1, []), (.aload_n 0, 1, []), (.getfield 10, 3, [11, 0, 739, 2]), (.getfield 239, 3, [1, 2, 307, 0]), (.i2l, 1, []), (.iload_n 2, 1, []), (.invokestatic 445, 3, [60, 1626, 2, 1, 0]), (.ldc2_w 332, 3, [1315, 16]), (.iload_n 2, 1, []), (.invokestatic 445, 3, [60, 1626, 2, 1, 0]), (.invokevirtual 449, 3, [143, 1627, 3, 2, 12]), (.aload_n 0, 1, []), (.invokevirtual 146, 3, [141, 850, 1, 0, 12]), (.ireturn, 1, [1])]
def mX11_wakes : qMI := (yX11_wakes, cX11_wakes, 3, (some .boolean), 11, [1637, 257, 1635, 1636], 1, false, [(0, kX11_wakes_0), (17, kX11_wakes_17)])
def kX11_copyYields_0 : List qIns := [(.aload_n 0, 1, []), (.getfield 52, 3, [11, 6, 745, 2]), (.iload_n 1, 1, []), (.invokevirtual 127, 3, [109, 832, 2, 0, 9]), (.ifCond .ne 9, 3, [17]), (.aload_n 0, 1, []), (.iconst 1, 1, [1]), (.invokevirtual 165, 3, [140, 883, 2, 0, 12]), (.ireturn, 1, [0])]
def kX11_copyYields_17 : List qIns := [(.aload_n 0, 1, []), (.getfield 52, 3, [11, 6, 745, 2]), (.iload_n 1, 1, []), (.invokevirtual 150, 3, [110, 862, 2, 0, 9]), (.ifCond .ne 9, 3, [34]), (.aload_n 0, 1, []), (.iconst 2, 1, [2]), (.invokevirtual 165, 3, [140, 883, 2, 0, 12]), (.ireturn, 1, [0])]
def kX11_copyYields_34 : List qIns := [(.aload_n 0, 1, []), (.getfield 52, 3, [11, 6, 745, 2]), (.iload_n 1, 1, []), (.iconst 0, 1, [0]), (.aload_n 0, 1, []), (.getfield 10, 3, [11, 0, 739, 2]), (.getfield 207, 3, [1, 4, 318, 0]), (.invokevirtual 176, 3, [113, 900, 4, 0, 9]), (.ifCond .ne 9, 3, [59]), (.aload_n 0, 1, []), (.iconst 3, 1, [3]), (.invokevirtual 165, 3, [140, 883, 2, 0, 12]), (.ireturn, 1, [0])]
def kX11_copyYields_59 : List qIns := [(.iconst 0, 1, [0]), (.istore_n 2, 1, []), (.nop, 0, [61])]
def kX11_copyYields_61 : List qIns := [(.iload_n 2, 1, []), (.aload_n 0, 1, []), (.getfield 10, 3, [11, 0, 739, 2]), (.getfield 207, 3, [1, 4, 318, 0]), (.if_icmp .ge 28, 3, [97]), (.aload_n 0, 1, []), (.getfield 52, 3, [11, 6, 745, 2]), (.iload_n 1, 1, []), (.iload_n 2, 1, []), (.aload_n 0, 1, []), (.getfield 10, 3, [11, 0, 739, 2]), (.getfield 276, 3, [1, 11, 337, 2]), (.iload_n 2, 1, []), (.iaload, 1, []), (.i2l, 1, []), (.invokevirtual 161, 3, [115, 871, 4, 2, 9]), (.iinc 2 1, 3, [1]), (.goto (-33), 3, [61])]
def kX11_copyYields_97 : List qIns := [(.aload_n 0, 1, []), (.aload_n 0, 1, []), (.getfield 10, 3, [11, 0, 739, 2]), (.getfield 207, 3, [1, 4, 318, 0]), (.invokevirtual 210, 3, [139, 1079, 2, 0, 12]), (.ireturn, 1, [0])]
def mX11_copyYields : qMI := (yX11_copyYields, cX11_copyYields, 3, (some .int), 11, [1641, 257, 1639, 1640], 1, false, [(0, kX11_copyYields_0), (17, kX11_copyYields_17), (34, kX11_copyYields_34), (59, kX11_copyYields_59), (61, kX11_copyYields_61), (97, kX11_copyYields_97)])
def kX11_live_0 : List qIns := [(.iload_n 1, 1, []), (.i2l, 1, []), (.lconst 0, 1, []), (.ldc2_w 453, 3, [1646, 9999]), (.invokestatic 133, 3, [138, 837, 3, 0, 0]), (.ifCond .ne 9, 3, [18]), (.aload_n 0, 1, []), (.iconst 1, 1, [1]), (.invokevirtual 165, 3, [140, 883, 2, 0, 12]), (.ireturn, 1, [0])]
def kX11_live_18 : List qIns := [(.aload_n 0, 1, []), (.getfield 82, 3, [11, 10, 749, 2]), (.getfield 455, 3, [9, 0, 651, 3]), (.ifCond .ne 10, 3, [35]), (.aload_n 0, 1, []), (.bipush 6, 2, [6]), (.invokevirtual 165, 3, [140, 883, 2, 0, 12]), (.ireturn, 1, [0])]
def kX11_live_35 : List qIns := [(.aload_n 0, 1, []), (.getfield 89, 3, [11, 11, 750, 2]), (.aload_n 0, 1, []), (.getfield 10, 3, [11, 0, 739, 2]), (.aload_n 0, 1, []), (.getfield 82, 3, [11, 10, 749, 2]), (.iload_n 1, 1, []), (.invokevirtual 458, 3, [63, 1647, 4, 2, 6]), (.aload_n 0, 1, []), (.getfield 93, 3, [11, 12, 751, 2]), (.iconst 0, 1, [0]), (.aload_n 0, 1, []), (.getfield 89, 3, [11, 11, 750, 2]), (.getfield 462, 3, [5, 1, 709, 0]), (.iastore, 1, []), (.aload_n 0, 1, []), (.getfield 93, 3, [11, 12, 751, 2]), (.iconst 1, 1, [1]), (.aload_n 0, 1, []), (.getfield 89, 3, [11, 11, 750, 2]), (.getfield 465, 3, [5, 2, 711, 0]), (.iastore, 1, []), (.aload_n 0, 1, []), (.getfield 93, 3, [11, 12, 751, 2]), (.iconst 2, 1, [2]), (.aload_n 0, 1, []), (.getfield 89, 3, [11, 11, 750, 2]), (.getfield 468, 3, [5, 3, 713, 0]), (.iastore, 1, []), (.aload_n 0, 1, []), (.getfield 93, 3, [11, 12, 751, 2]), (.iconst 3, 1, [3]), (.aload_n 0, 1, []), (.getfield 89, 3, [11, 11, 750, 2]), (.getfield 471, 3, [5, 4, 715, 0]), (.iastore, 1, []), (.aload_n 0, 1, []), (.getfield 93, 3, [11, 12, 751, 2]), (.iconst 4, 1, [4]), (.aload_n 0, 1, []), (.getfield 89, 3, [11, 11, 750, 2]), (.getfield 474, 3, [5, 5, 717, 3]), (.ifCond .eq 7, 3, [122]), (.iconst 1, 1, [1]), (.goto 4, 3, [123])]
def kX11_live_122 : List qIns := [(.iconst 0, 1, [0]), (.nop, 0, [123])]
def kX11_live_123 : List qIns := [(.iastore, 1, []), (.aload_n 0, 1, []), (.iconst 1, 1, [1]), (.putfield 97, 3, [11, 13, 768, 3]), (.aload_n 0, 1, []), (.aload_n 0, 1, []), (.getfield 89, 3, [11, 11, 750, 2]), (.getfield 477, 3, [5, 0, 707, 0]), (.invokevirtual 210, 3, [139, 1079, 2, 0, 12]), (.ireturn, 1, [0])]
def mX11_live : qMI := (yX11_live, cX11_live, 2, (some .int), 11, [1645, 257, 1643, 1644], 1, false, [(0, kX11_live_0), (18, kX11_live_18), (35, kX11_live_35), (122, kX11_live_122), (123, kX11_live_123)])
def kX11_lived_0 : List qIns := [(.iload_n 1, 1, []), (.i2l, 1, []), (.lconst 0, 1, []), (.ldc2_w 367, 3, [1400, 4]), (.invokestatic 133, 3, [138, 837, 3, 0, 0]), (.ifCond .ne 9, 3, [18]), (.aload_n 0, 1, []), (.iconst 1, 1, [1]), (.invokevirtual 165, 3, [140, 883, 2, 0, 12]), (.ireturn, 1, [0])]
def kX11_lived_18 : List qIns := [(.aload_n 0, 1, []), (.getfield 97, 3, [11, 13, 768, 3]), (.ifCond .eq 16, 3, [38]), (.aload_n 0, 1, []), (.aload_n 0, 1, []), (.getfield 93, 3, [11, 12, 751, 2]), (.iload_n 1, 1, []), (.iaload, 1, []), (.invokevirtual 210, 3, [139, 1079, 2, 0, 12]), (.goto 9, 3, [44])]
def kX11_lived_38 : List qIns := [(.aload_n 0, 1, []), (.bipush 6, 2, [6]), (.invokevirtual 165, 3, [140, 883, 2, 0, 12]), (.nop, 0, [44])]
def kX11_lived_44 : List qIns := [(.ireturn, 1, [0])]
def mX11_lived : qMI := (yX11_lived, cX11_lived, 2, (some .int), 11, [1703, 257, 1701, 1702], 1, false, [(0, kX11_lived_0), (18, kX11_lived_18), (38, kX11_lived_38), (44, kX11_lived_44)])
def kX11_mean_0 : List qIns := [(.iload_n 1, 1, []), (.i2l, 1, []), (.lconst 0, 1, []), (.ldc2_w 453, 3, [1646, 9999]), (.invokestatic 133, 3, [138, 837, 3, 0, 0]), (.ifCond .eq 26, 3, [35]), (.iload_n 2, 1, []), (.i2l, 1, []), (.lconst 1, 1, []), (.ldc2_w 402, 3, [1498, 20]), (.invokestatic 133, 3, [138, 837, 3, 0, 0]), (.ifCond .eq 14, 3, [35]), (.iload_n 1, 1, []), (.iload_n 2, 1, []), (.iadd, 1, []), (.iconst 1, 1, [1]), (.isub, 1, []), (.sipush 9999, 3, [9999]), (.if_icmp .le 9, 3, [41]), (.nop, 0, [35])]
def kX11_mean_35 : List qIns := [(.aload_n 0, 1, []), (.iconst 1, 1, [1]), (.invokevirtual 139, 3, [142, 841, 2, 0, 12]), (.ireturn, 1, [1])]
def kX11_mean_41 : List qIns := [(.aload_n 0, 1, []), (.getfield 82, 3, [11, 10, 749, 2]), (.getfield 455, 3, [9, 0, 651, 3]), (.ifCond .ne 10, 3, [58]), (.aload_n 0, 1, []), (.bipush 6, 2, [6]), (.invokevirtual 139, 3, [142, 841, 2, 0, 12]), (.ireturn, 1, [1])]
def kX11_mean_58 : List qIns := [(.iconst 0, 1, [0]), (.istore_n 3, 1, []), (.iconst 0, 1, [0]), (.istore 4, 2, []), (.nop, 0, [63])]
def kX11_mean_63 : List qIns := [(.iload 4, 2, []), (.iload_n 2, 1, []), (.if_icmp .ge 52, 3, [118]), (.aload_n 0, 1, []), (.getfield 16, 3, [11, 1, 740, 2]), (.aload_n 0, 1, []), (.getfield 10, 3, [11, 0, 739, 2]), (.invokevirtual 200, 3, [9, 1070, 2, 2, 2]), (.aload_n 0, 1, []), (.getfield 89, 3, [11, 11, 750, 2]), (.aload_n 0, 1, []), (.getfield 16, 3, [11, 1, 740, 2]), (.aload_n 0, 1, []), (.getfield 82, 3, [11, 10, 749, 2]), (.iload_n 1, 1, []), (.iload 4, 2, []), (.iadd, 1, []), (.invokevirtual 458, 3, [63, 1647, 4, 2, 6]), (.iload_n 3, 1, []), (.aload_n 0, 1, []), (.getfield 16, 3, [11, 1, 740, 2]), (.invokevirtual 249, 3, [23, 1172, 1, 0, 2]), (.invokestatic 385, 3, [368, 1445, 1, 0, 0]), (.iadd, 1, []), (.istore_n 3, 1, []), (.iinc 4 1, 3, [1]), (.goto (-52), 3, [63])]
def kX11_mean_118 : List qIns := [(.aload_n 0, 1, []), (.iload_n 3, 1, []), (.i2l, 1, []), (.iload_n 2, 1, []), (.i2l, 1, []), (.invokevirtual 449, 3, [143, 1627, 3, 2, 12]), (.aload_n 0, 1, []), (.invokevirtual 146, 3, [141, 850, 1, 0, 12]), (.ireturn, 1, [1])]
def mX11_mean : qMI := (yX11_mean, cX11_mean, 5, (some .boolean), 11, [1707, 257, 1705, 1706], 2, false, [(0, kX11_mean_0), (35, kX11_mean_35), (41, kX11_mean_41), (58, kX11_mean_58), (63, kX11_mean_63), (118, kX11_mean_118)])
def kX11_mark_0 : List qIns := [(.aload_n 0, 1, []), (.getfield 109, 3, [11, 16, 771, 0]), (.ifCond .lt 11, 3, [15]), (.aload_n 0, 1, []), (.getfield 109, 3, [11, 16, 771, 0]), (.iconst 3, 1, [3]), (.if_icmp .lt 9, 3, [21]), (.nop, 0, [15])]
def kX11_mark_15 : List qIns := [(.aload_n 0, 1, []), (.iconst 4, 1, [4]), (.invokevirtual 165, 3, [140, 883, 2, 0, 12]), (.ireturn, 1, [0])]
def kX11_mark_21 : List qIns := [(.aload_n 0, 1, []), (.getfield 101, 3, [11, 14, 769, 2]), (.aload_n 0, 1, []), (.getfield 109, 3, [11, 16, 771, 0]), (.aaload, 1, []), (.astore_n 1, 1, []), (.aload_n 0, 1, []), (.getfield 105, 3, [11, 15, 770, 2]), (.aload_n 0, 1, []), (.getfield 109, 3, [11, 16, 771, 0]), (.aaload, 1, []), (.astore_n 2, 1, []), (.aload_n 1, 1, []), (.ifnull 7, 3, [49]), (.aload_n 2, 1, []), (.ifnonnull 9, 3, [55]), (.nop, 0, [49])]
def kX11_mark_49 : List qIns := [(.aload_n 0, 1, []), (.iconst 4, 1, [4]), (.invokevirtual 165, 3, [140, 883, 2, 0, 12]), (.ireturn, 1, [0])]
def kX11_mark_55 : List qIns := [(.aload_n 1, 1, []), (.aload_n 0, 1, []), (.getfield 10, 3, [11, 0, 739, 2]), (.invokevirtual 200, 3, [9, 1070, 2, 2, 2]), (.aload_n 2, 1, []), (.aload_n 0, 1, []), (.getfield 82, 3, [11, 10, 749, 2]), (.invokevirtual 218, 3, [121, 1155, 2, 2, 10]), (.aload_n 0, 1, []), (.dup, 1, []), (.getfield 109, 3, [11, 16, 771, 0]), (.iconst 1, 1, [1]), (.iadd, 1, []), (.putfield 109, 3, [11, 16, 771, 0]), (.aload_n 0, 1, []), (.aload_n 0, 1, []), (.getfield 109, 3, [11, 16, 771, 0]), (.invokevirtual 210, 3, [139, 1079, 2, 0, 12]), (.ireturn, 1, [0])]
def mX11_mark : qMI := (yX11_mark, cX11_mark, 3, (some .int), 11, [1711, 257, 1709, 1710], 0, false, [(0, kX11_mark_0), (15, kX11_mark_15), (21, kX11_mark_21), (49, kX11_mark_49), (55, kX11_mark_55)])
def kX11_undo_0 : List qIns := [(.aload_n 0, 1, []), (.getfield 109, 3, [11, 16, 771, 0]), (.iconst 1, 1, [1]), (.if_icmp .lt 11, 3, [16]), (.aload_n 0, 1, []), (.getfield 109, 3, [11, 16, 771, 0]), (.iconst 3, 1, [3]), (.if_icmp .le 10, 3, [23]), (.nop, 0, [16])]
def kX11_undo_16 : List qIns := [(.aload_n 0, 1, []), (.bipush 6, 2, [6]), (.invokevirtual 165, 3, [140, 883, 2, 0, 12]), (.ireturn, 1, [0])]
def kX11_undo_23 : List qIns := [(.aload_n 0, 1, []), (.getfield 101, 3, [11, 14, 769, 2]), (.aload_n 0, 1, []), (.getfield 109, 3, [11, 16, 771, 0]), (.iconst 1, 1, [1]), (.isub, 1, []), (.aaload, 1, []), (.astore_n 1, 1, []), (.aload_n 0, 1, []), (.getfield 105, 3, [11, 15, 770, 2]), (.aload_n 0, 1, []), (.getfield 109, 3, [11, 16, 771, 0]), (.iconst 1, 1, [1]), (.isub, 1, []), (.aaload, 1, []), (.astore_n 2, 1, []), (.aload_n 1, 1, []), (.ifnull 7, 3, [55]), (.aload_n 2, 1, []), (.ifnonnull 10, 3, [62]), (.nop, 0, [55])]
def kX11_undo_55 : List qIns := [(.aload_n 0, 1, []), (.bipush 6, 2, [6]), (.invokevirtual 165, 3, [140, 883, 2, 0, 12]), (.ireturn, 1, [0])]
def kX11_undo_62 : List qIns := [(.aload_n 0, 1, []), (.getfield 10, 3, [11, 0, 739, 2]), (.aload_n 1, 1, []), (.invokevirtual 200, 3, [9, 1070, 2, 2, 2]), (.aload_n 0, 1, []), (.getfield 82, 3, [11, 10, 749, 2]), (.aload_n 2, 1, []), (.invokevirtual 218, 3, [121, 1155, 2, 2, 10]), (.aload_n 0, 1, []), (.dup, 1, []), (.getfield 109, 3, [11, 16, 771, 0]), (.iconst 1, 1, [1]), (.isub, 1, []), (.putfield 109, 3, [11, 16, 771, 0]), (.aload_n 0, 1, []), (.aload_n 0, 1, []), (.getfield 109, 3, [11, 16, 771, 0]), (.invokevirtual 210, 3, [139, 1079, 2, 0, 12]), (.ireturn, 1, [0])]
def mX11_undo : qMI := (yX11_undo, cX11_undo, 3, (some .int), 11, [1715, 257, 1713, 1714], 0, false, [(0, kX11_undo_0), (16, kX11_undo_16), (23, kX11_undo_23), (55, kX11_undo_55), (62, kX11_undo_62)])
def kX12_init_0 : List qIns := [(.aload_n 0, 1, []), (.nop, 0, [1])]
def kX12_init_1 : List qIns := [(.invokespecial 1, 3, [999, 1721, 1, 2]), (.nop, 0, [4])]
def kX12_init_4 : List qIns := [(.aload_n 0, 1, []), (.sipush 3088, 3, [3088]), (.nop, 0, [8])]
def kX12_init_8 : List qIns := [(.newarray .int, 2, []), (.nop, 0, [10])]
def kX12_init_10 : List qIns := [(.putfield 7, 3, [12, 0, 1726, 2]), (.nop, 0, [13])]
def kX12_init_13 : List qIns := [(.aload_n 0, 1, []), (.bipush 48, 2, [48]), (.nop, 0, [16])]
def kX12_init_16 : List qIns := [(.newarray .long, 2, []), (.nop, 0, [18])]
def kX12_init_18 : List qIns := [(.putfield 13, 3, [12, 1, 1727, 2]), (.nop, 0, [21])]
def kX12_init_21 : List qIns := [(.aload_n 0, 1, []), (.lconst 1, 1, []), (.putfield 17, 3, [12, 4, 1730, 1]), (.aload_n 0, 1, []), (.iconst 4, 1, [4]), (.nop, 0, [28])]
def kX12_init_28 : List qIns := [(.newarray .int, 2, []), (.nop, 0, [30])]
def kX12_init_30 : List qIns := [(.putfield 21, 3, [12, 5, 1731, 2]), (.nop, 0, [33])]
def kX12_init_33 : List qIns := [(.aload_n 0, 1, []), (.iconst 4, 1, [4]), (.nop, 0, [35])]
def kX12_init_35 : List qIns := [(.newarray .int, 2, []), (.nop, 0, [37])]
def kX12_init_37 : List qIns := [(.dup, 1, []), (.iconst 0, 1, [0]), (.iconst (-1), 1, []), (.iastore, 1, []), (.dup, 1, []), (.iconst 1, 1, [1]), (.iconst (-1), 1, []), (.iastore, 1, []), (.dup, 1, []), (.iconst 2, 1, [2]), (.iconst (-1), 1, []), (.iastore, 1, []), (.dup, 1, []), (.iconst 3, 1, [3]), (.iconst (-1), 1, []), (.iastore, 1, []), (.nop, 0, [53])]
def kX12_init_53 : List qIns := [(.putfield 24, 3, [12, 6, 1732, 2]), (.nop, 0, [56])]
def kX12_init_56 : List qIns := [(.aload_n 0, 1, []), (.sipush 240, 3, [240]), (.nop, 0, [60])]
def kX12_init_60 : List qIns := [(.newarray .long, 2, []), (.nop, 0, [62])]
def kX12_init_62 : List qIns := [(.putfield 27, 3, [12, 7, 1733, 2]), (.nop, 0, [65])]
def kX12_init_65 : List qIns := [(.aload_n 0, 1, []), (.sipush 900, 3, [900]), (.nop, 0, [69])]
def kX12_init_69 : List qIns := [(.newarray .byte, 2, []), (.nop, 0, [71])]
def kX12_init_71 : List qIns := [(.putfield 30, 3, [12, 8, 1734, 2]), (.nop, 0, [74])]
def kX12_init_74 : List qIns := [(.aload_n 0, 1, []), (.sipush 900, 3, [900]), (.nop, 0, [78])]
def kX12_init_78 : List qIns := [(.newarray .byte, 2, []), (.nop, 0, [80])]
def kX12_init_80 : List qIns := [(.putfield 34, 3, [12, 9, 1735, 2]), (.nop, 0, [83])]
def kX12_init_83 : List qIns := [(.aload_n 0, 1, []), (.iconst (-1), 1, []), (.putfield 37, 3, [12, 16, 1742, 0]), (.aload_n 0, 1, []), (.iconst (-1), 1, []), (.putfield 41, 3, [12, 17, 1743, 0]), (.aload_n 0, 1, []), (.iconst 3, 1, [3]), (.nop, 0, [95])]
def kX12_init_95 : List qIns := [(.newarray .int, 2, []), (.nop, 0, [97])]
def kX12_init_97 : List qIns := [(.putfield 44, 3, [12, 21, 1747, 2]), (.nop, 0, [100])]
def kX12_init_100 : List qIns := [(.aload_n 0, 1, []), (.bipush 8, 2, [8]), (.nop, 0, [103])]
def kX12_init_103 : List qIns := [(.newarray .int, 2, []), (.nop, 0, [105])]
def kX12_init_105 : List qIns := [(.putfield 47, 3, [12, 25, 1751, 2]), (.nop, 0, [108])]
def kX12_init_108 : List qIns := [(.aload_n 0, 1, []), (.sipush 248, 3, [248]), (.nop, 0, [112])]
def kX12_init_112 : List qIns := [(.newarray .int, 2, []), (.nop, 0, [114])]
def kX12_init_114 : List qIns := [(.putfield 50, 3, [12, 30, 1756, 2]), (.nop, 0, [117])]
def kX12_init_117 : List qIns := [(.aload_n 0, 1, []), (.bipush 31, 2, [31]), (.nop, 0, [120])]
def kX12_init_120 : List qIns := [(.newarray .boolean, 2, []), (.nop, 0, [122])]
def kX12_init_122 : List qIns := [(.putfield 53, 3, [12, 31, 1757, 2]), (.nop, 0, [125])]
def kX12_init_125 : List qIns := [(.aload_n 0, 1, []), (.iconst 4, 1, [4]), (.nop, 0, [127])]
def kX12_init_127 : List qIns := [(.newarray .int, 2, []), (.nop, 0, [129])]
def kX12_init_129 : List qIns := [(.putfield 57, 3, [12, 33, 1759, 2]), (.nop, 0, [132])]
def kX12_init_132 : List qIns := [(.aload_n 0, 1, []), (.iconst 4, 1, [4]), (.nop, 0, [134])]
def kX12_init_134 : List qIns := [(.newarray .int, 2, []), (.nop, 0, [136])]
def kX12_init_136 : List qIns := [(.putfield 60, 3, [12, 34, 1760, 2]), (.nop, 0, [139])]
def kX12_init_139 : List qIns := [(.aload_n 0, 1, []), (.iconst 4, 1, [4]), (.nop, 0, [141])]
def kX12_init_141 : List qIns := [(.newarray .int, 2, []), (.nop, 0, [143])]
def kX12_init_143 : List qIns := [(.putfield 63, 3, [12, 35, 1761, 2]), (.nop, 0, [146])]
def kX12_init_146 : List qIns := [(.aload_n 0, 1, []), (.bipush 11, 2, [11]), (.nop, 0, [149])]
def kX12_init_149 : List qIns := [(.newarray .long, 2, []), (.nop, 0, [151])]
def kX12_init_151 : List qIns := [(.putfield 66, 3, [12, 36, 1762, 2]), (.nop, 0, [154])]
def kX12_init_154 : List qIns := [(.aload_n 0, 1, []), (.bipush 80, 2, [80]), (.nop, 0, [157])]
def kX12_init_157 : List qIns := [(.newarray .int, 2, []), (.nop, 0, [159])]
def kX12_init_159 : List qIns := [(.putfield 69, 3, [12, 39, 1765, 2]), (.nop, 0, [162])]
def kX12_init_162 : List qIns := [(.aload_n 0, 1, []), (.iconst 5, 1, [5]), (.nop, 0, [164])]
def kX12_init_164 : List qIns := [(.newarray .int, 2, []), (.nop, 0, [166])]
def kX12_init_166 : List qIns := [(.putfield 72, 3, [12, 40, 1766, 2]), (.nop, 0, [169])]
def kX12_init_169 : List qIns := [(.aload_n 0, 1, []), (.iconst 5, 1, [5]), (.nop, 0, [171])]
def kX12_init_171 : List qIns := [(.newarray .int, 2, []), (.nop, 0, [173])]
def kX12_init_173 : List qIns := [(.putfield 75, 3, [12, 41, 1767, 2]), (.nop, 0, [176])]
def kX12_init_176 : List qIns := [(.aload_n 0, 1, []), (.iconst 0, 1, [0]), (.invokevirtual 78, 3, [209, 1722, 2, 2, 13]), (.return_, 1, [])]
def mX12_init : qMI := (yX12_init, cX12_init, 1, none, 12, [1720, 273, 1719, 0], 0, false, [(0, kX12_init_0), (1, kX12_init_1), (4, kX12_init_4), (8, kX12_init_8), (10, kX12_init_10), (13, kX12_init_13), (16, kX12_init_16), (18, kX12_init_18), (21, kX12_init_21), (28, kX12_init_28), (30, kX12_init_30), (33, kX12_init_33), (35, kX12_init_35), (37, kX12_init_37), (53, kX12_init_53), (56, kX12_init_56), (60, kX12_init_60), (62, kX12_init_62), (65, kX12_init_65), (69, kX12_init_69), (71, kX12_init_71), (74, kX12_init_74), (78, kX12_init_78), (80, kX12_init_80), (83, kX12_init_83), (95, kX12_init_95), (97, kX12_init_97), (100, kX12_init_100), (103, kX12_init_103), (105, kX12_init_105), (108, kX12_init_108), (112, kX12_init_112), (114, kX12_init_114), (117, kX12_init_117), (120, kX12_init_120), (122, kX12_init_122), (125, kX12_init_125), (127, kX12_init_127), (129, kX12_init_129), (132, kX12_init_132), (134, kX12_init_134), (136, kX12_init_136), (139, kX12_init_139), (141, kX12_init_141), (143, kX12_init_143), (146, kX12_init_146), (149, kX12_init_149), (151, kX12_init_151), (154, kX12_init_154), (157, kX12_init_157), (159, kX12_init_159), (162, kX12_init_162), (164, kX12_init_164), (166, kX12_init_166), (169, kX12_init_169), (171, kX12_init_171), (173, kX12_init_173), (176, kX12_init_176)])
def kX12_plain_0 : List qIns := [(.iconst 0, 1, [0]), (.istore_n 2, 1, []), (.nop, 0, [2])]
def kX12_plain_2 : List qIns := [(.iload_n 2, 1, []), (.sipush 456, 3, [456]), (.if_icmp .ge 18, 3, [24]), (.aload_n 0, 1, []), (.getfield 7, 3, [12, 0, 1726, 2]), (.iload_n 1, 1, []), (.iload_n 2, 1, []), (.iadd, 1, []), (.iconst 0, 1, [0]), (.iastore, 1, []), (.iinc 2 1, 3, [1]), (.goto (-19), 3, [2])]
def kX12_plain_24 : List qIns := [(.aload_n 0, 1, []), (.getfield 7, 3, [12, 0, 1726, 2]), (.iload_n 1, 1, []), (.iconst 2, 1, [2]), (.iadd, 1, []), (.iconst 4, 1, [4]), (.iastore, 1, []), (.aload_n 0, 1, []), (.getfield 7, 3, [12, 0, 1726, 2]), (.iload_n 1, 1, []), (.iconst 3, 1, [3]), (.iadd, 1, []), (.iconst 3, 1, [3]), (.iastore, 1, []), (.aload_n 0, 1, []), (.getfield 7, 3, [12, 0, 1726, 2]), (.iload_n 1, 1, []), (.iconst 4, 1, [4]), (.iadd, 1, []), (.iconst 4, 1, [4]), (.iastore, 1, []), (.aload_n 0, 1, []), (.getfield 7, 3, [12, 0, 1726, 2]), (.iload_n 1, 1, []), (.bipush 6, 2, [6]), (.iadd, 1, []), (.iconst (-1), 1, []), (.iastore, 1, []), (.return_, 1, [])]
def mX12_plain : qMI := (yX12_plain, cX12_plain, 3, none, 12, [1725, 273, 1724, 40], 1, false, [(0, kX12_plain_0), (2, kX12_plain_2), (24, kX12_plain_24)])
def kX12_status_0 : List qIns := [(.aload_n 0, 1, []), (.getfield 82, 3, [12, 2, 1728, 0]), (.ireturn, 1, [0])]
def mX12_status : qMI := (yX12_status, cX12_status, 1, (some .int), 12, [1879, 273, 1877, 1878], 0, false, [(0, kX12_status_0)])
def kX12_top_0 : List qIns := [(.aload_n 0, 1, []), (.getfield 85, 3, [12, 3, 1729, 1]), (.lreturn, 1, [])]
def mX12_top : qMI := (yX12_top, cX12_top, 1, (some .long), 12, [1883, 273, 1881, 1882], 0, false, [(0, kX12_top_0)])
def kX12_bottom_0 : List qIns := [(.aload_n 0, 1, []), (.getfield 17, 3, [12, 4, 1730, 1]), (.lreturn, 1, [])]
def mX12_bottom : qMI := (yX12_bottom, cX12_bottom, 1, (some .long), 12, [1887, 273, 1885, 1886], 0, false, [(0, kX12_bottom_0)])
def kX12_is_0 : List qIns := [(.aload_n 0, 1, []), (.iload_n 1, 1, []), (.putfield 82, 3, [12, 2, 1728, 0]), (.iload_n 1, 1, []), (.ifCond .ne 7, 3, [13]), (.iconst 1, 1, [1]), (.goto 4, 3, [14])]
def kX12_is_13 : List qIns := [(.iconst 0, 1, [0]), (.nop, 0, [14])]
def kX12_is_14 : List qIns := [(.ireturn, 1, [1])]
def mX12_is : qMI := (yX12_is, cX12_is, 2, (some .boolean), 12, [1898, 273, 1897, 41], 1, false, [(0, kX12_is_0), (13, kX12_is_13), (14, kX12_is_14)])
def kX12_refuse_0 : List qIns := [(.aload_n 0, 1, []), (.iload_n 1, 1, []), (.putfield 82, 3, [12, 2, 1728, 0]), (.iconst (-1), 1, []), (.ireturn, 1, [0])]
def mX12_refuse : qMI := (yX12_refuse, cX12_refuse, 2, (some .int), 12, [1958, 273, 1957, 47], 1, false, [(0, kX12_refuse_0)])
def kX12_gives_0 : List qIns := [(.aload_n 0, 1, []), (.iconst 0, 1, [0]), (.putfield 82, 3, [12, 2, 1728, 0]), (.iload_n 1, 1, []), (.ireturn, 1, [0])]
def mX12_gives : qMI := (yX12_gives, cX12_gives, 2, (some .int), 12, [2051, 273, 2050, 64], 1, false, [(0, kX12_gives_0)])
def kX12_orNone_0 : List qIns := [(.iload_n 1, 1, []), (.iconst (-1), 1, []), (.if_icmp .ne 10, 3, [12]), (.aload_n 0, 1, []), (.bipush 6, 2, [6]), (.invokevirtual 88, 3, [214, 1955, 2, 0, 13]), (.ireturn, 1, [0])]
def kX12_orNone_12 : List qIns := [(.aload_n 0, 1, []), (.iload_n 1, 1, []), (.invokevirtual 92, 3, [215, 2048, 2, 0, 13]), (.ireturn, 1, [0])]
def mX12_orNone : qMI := (yX12_orNone, cX12_orNone, 2, (some .int), 12, [2321, 273, 2320, 99], 1, false, [(0, kX12_orNone_0), (12, kX12_orNone_12)])
def kX12_tellsBy_0 : List qIns := [(.lload_n 1, 1, []), (.lstore 5, 2, []), (.lload_n 3, 1, []), (.lstore 7, 2, []), (.nop, 0, [6])]
def kX12_tellsBy_6 : List qIns := [(.lload 7, 2, []), (.lconst 0, 1, []), (.lcmp, 1, []), (.ifCond .eq 21, 3, [31]), (.lload 5, 2, []), (.lload 7, 2, []), (.lrem, 1, []), (.lstore 9, 2, []), (.lload 7, 2, []), (.lstore 5, 2, []), (.lload 9, 2, []), (.lstore 7, 2, []), (.goto (-22), 3, [6])]
def kX12_tellsBy_31 : List qIns := [(.aload_n 0, 1, []), (.lload_n 1, 1, []), (.lload 5, 2, []), (.ldiv, 1, []), (.putfield 85, 3, [12, 3, 1729, 1]), (.aload_n 0, 1, []), (.lload_n 3, 1, []), (.lload 5, 2, []), (.ldiv, 1, []), (.putfield 17, 3, [12, 4, 1730, 1]), (.aload_n 0, 1, []), (.iconst 0, 1, [0]), (.invokevirtual 95, 3, [213, 1895, 2, 0, 13]), (.ireturn, 1, [1])]
def mX12_tellsBy : qMI := (yX12_tellsBy, cX12_tellsBy, 11, (some .boolean), 12, [2476, 273, 2475, 115], 2, false, [(0, kX12_tellsBy_0), (6, kX12_tellsBy_6), (31, kX12_tellsBy_31)])
def kX12_isTray_0 : List qIns := [(.iload_n 0, 1, []), (.ifCond .lt 12, 3, [13]), (.iload_n 0, 1, []), (.iconst 4, 1, [4]), (.if_icmp .ge 7, 3, [13]), (.iconst 1, 1, [1]), (.goto 4, 3, [14])]
def kX12_isTray_13 : List qIns := [(.iconst 0, 1, [0]), (.nop, 0, [14])]
def kX12_isTray_14 : List qIns := [(.ireturn, 1, [1])]
def mX12_isTray : qMI := (yX12_isTray, cX12_isTray, 1, (some .boolean), 12, [1894, 273, 1893], 1, true, [(0, kX12_isTray_0), (13, kX12_isTray_13), (14, kX12_isTray_14)])
def kX12_cut_0 : List qIns := [(.iload_n 2, 1, []), (.ifCond .ne 10, 3, [11]), (.lload_n 0, 1, []), (.l2i, 1, []), (.i2b, 1, []), (.i2l, 1, []), (.goto 27, 3, [35])]
def kX12_cut_11 : List qIns := [(.iload_n 2, 1, []), (.iconst 1, 1, [1]), (.if_icmp .ne 10, 3, [23]), (.lload_n 0, 1, []), (.l2i, 1, []), (.i2s, 1, []), (.i2l, 1, []), (.goto 15, 3, [35])]
def kX12_cut_23 : List qIns := [(.iload_n 2, 1, []), (.iconst 2, 1, [2]), (.if_icmp .ne 9, 3, [34]), (.lload_n 0, 1, []), (.l2i, 1, []), (.i2l, 1, []), (.goto 4, 3, [35])]
def kX12_cut_34 : List qIns := [(.lload_n 0, 1, []), (.nop, 0, [35])]
def kX12_cut_35 : List qIns := [(.lreturn, 1, [])]
def mX12_cut : qMI := (yX12_cut, cX12_cut, 3, (some .long), 12, [1909, 273, 1908], 2, true, [(0, kX12_cut_0), (11, kX12_cut_11), (23, kX12_cut_23), (34, kX12_cut_34), (35, kX12_cut_35)])
def kX12_tray_0 : List qIns := [(.iload_n 1, 1, []), (.invokestatic 99, 3, [218, 1892, 1, 0, 0]), (.ifCond .eq 22, 3, [26]), (.iload_n 2, 1, []), (.ifCond .lt 18, 3, [26]), (.iload_n 2, 1, []), (.iconst 3, 1, [3]), (.if_icmp .gt 13, 3, [26]), (.iload_n 3, 1, []), (.ifCond .lt 9, 3, [26]), (.iload_n 3, 1, []), (.bipush 60, 2, [60]), (.if_icmp .le 9, 3, [32]), (.nop, 0, [26])]
def kX12_tray_26 : List qIns := [(.aload_n 0, 1, []), (.iconst 1, 1, [1]), (.invokevirtual 95, 3, [213, 1895, 2, 0, 13]), (.ireturn, 1, [1])]
def kX12_tray_32 : List qIns := [(.aload_n 0, 1, []), (.getfield 21, 3, [12, 5, 1731, 2]), (.iload_n 1, 1, []), (.iload_n 2, 1, []), (.iastore, 1, []), (.aload_n 0, 1, []), (.getfield 24, 3, [12, 6, 1732, 2]), (.iload_n 1, 1, []), (.iload_n 3, 1, []), (.iastore, 1, []), (.iconst 0, 1, [0]), (.istore 4, 2, []), (.nop, 0, [49])]
def kX12_tray_49 : List qIns := [(.iload 4, 2, []), (.iload_n 3, 1, []), (.if_icmp .ge 22, 3, [74]), (.aload_n 0, 1, []), (.getfield 27, 3, [12, 7, 1733, 2]), (.bipush 60, 2, [60]), (.iload_n 1, 1, []), (.imul, 1, []), (.iload 4, 2, []), (.iadd, 1, []), (.lconst 0, 1, []), (.lastore, 1, []), (.iinc 4 1, 3, [1]), (.goto (-22), 3, [49])]
def kX12_tray_74 : List qIns := [(.aload_n 0, 1, []), (.iconst 0, 1, [0]), (.invokevirtual 95, 3, [213, 1895, 2, 0, 13]), (.ireturn, 1, [1])]
def mX12_tray : qMI := (yX12_tray, cX12_tray, 5, (some .boolean), 12, [1891, 273, 1889, 1890], 3, false, [(0, kX12_tray_0), (26, kX12_tray_26), (32, kX12_tray_32), (49, kX12_tray_49), (74, kX12_tray_74)])
def kX12_wrongPlace_0 : List qIns := [(.iload_n 1, 1, []), (.invokestatic 99, 3, [218, 1892, 1, 0, 0]), (.ifCond .ne 7, 3, [11]), (.iconst 1, 1, [1]), (.goto 36, 3, [44])]
def kX12_wrongPlace_11 : List qIns := [(.aload_n 0, 1, []), (.getfield 24, 3, [12, 6, 1732, 2]), (.iload_n 1, 1, []), (.iaload, 1, []), (.iconst (-1), 1, []), (.if_icmp .ne 7, 3, [25]), (.iconst 2, 1, [2]), (.goto 22, 3, [44])]
def kX12_wrongPlace_25 : List qIns := [(.iload_n 2, 1, []), (.ifCond .lt 13, 3, [39]), (.iload_n 2, 1, []), (.aload_n 0, 1, []), (.getfield 24, 3, [12, 6, 1732, 2]), (.iload_n 1, 1, []), (.iaload, 1, []), (.if_icmp .lt 7, 3, [43]), (.nop, 0, [39])]
def kX12_wrongPlace_39 : List qIns := [(.iconst 3, 1, [3]), (.goto 4, 3, [44])]
def kX12_wrongPlace_43 : List qIns := [(.iconst 0, 1, [0]), (.nop, 0, [44])]
def kX12_wrongPlace_44 : List qIns := [(.ireturn, 1, [0])]
def mX12_wrongPlace : qMI := (yX12_wrongPlace, cX12_wrongPlace, 3, (some .int), 12, [1906, 273, 1905, 42], 2, false, [(0, kX12_wrongPlace_0), (11, kX12_wrongPlace_11), (25, kX12_wrongPlace_25), (39, kX12_wrongPlace_39), (43, kX12_wrongPlace_43), (44, kX12_wrongPlace_44)])
def kX12_write_0 : List qIns := [(.aload_n 0, 1, []), (.iload_n 1, 1, []), (.iload_n 2, 1, []), (.invokevirtual 102, 3, [221, 1903, 3, 0, 13]), (.istore 5, 2, []), (.iload 5, 2, []), (.ifCond .ne 24, 3, [34]), (.aload_n 0, 1, []), (.getfield 27, 3, [12, 7, 1733, 2]), (.bipush 60, 2, [60]), (.iload_n 1, 1, []), (.imul, 1, []), (.iload_n 2, 1, []), (.iadd, 1, []), (.lload_n 3, 1, []), (.aload_n 0, 1, []), (.getfield 21, 3, [12, 5, 1731, 2]), (.iload_n 1, 1, []), (.iaload, 1, []), (.invokestatic 106, 3, [219, 1907, 2, 1, 0]), (.lastore, 1, []), (.nop, 0, [34])]
def kX12_write_34 : List qIns := [(.aload_n 0, 1, []), (.iload 5, 2, []), (.invokevirtual 95, 3, [213, 1895, 2, 0, 13]), (.ireturn, 1, [1])]
def mX12_write : qMI := (yX12_write, cX12_write, 6, (some .boolean), 12, [1902, 273, 1900, 1901], 3, false, [(0, kX12_write_0), (34, kX12_write_34)])
def kX12_read_0 : List qIns := [(.aload_n 0, 1, []), (.aload_n 0, 1, []), (.iload_n 1, 1, []), (.iload_n 2, 1, []), (.invokevirtual 102, 3, [221, 1903, 3, 0, 13]), (.putfield 82, 3, [12, 2, 1728, 0]), (.aload_n 0, 1, []), (.getfield 82, 3, [12, 2, 1728, 0]), (.ifCond .le 9, 3, [23]), (.ldc2_w 110, 3, [1914, 1, 1]), (.goto 14, 3, [34])]
def kX12_read_23 : List qIns := [(.aload_n 0, 1, []), (.getfield 27, 3, [12, 7, 1733, 2]), (.bipush 60, 2, [60]), (.iload_n 1, 1, []), (.imul, 1, []), (.iload_n 2, 1, []), (.iadd, 1, []), (.laload, 1, []), (.nop, 0, [34])]
def kX12_read_34 : List qIns := [(.lreturn, 1, [])]
def mX12_read : qMI := (yX12_read, cX12_read, 3, (some .long), 12, [1913, 273, 1911, 1912], 2, false, [(0, kX12_read_0), (23, kX12_read_23), (34, kX12_read_34)])
def kX12_pour_0 : List qIns := [(.iload_n 1, 1, []), (.invokestatic 99, 3, [218, 1892, 1, 0, 0]), (.ifCond .eq 24, 3, [28]), (.iload_n 3, 1, []), (.invokestatic 99, 3, [218, 1892, 1, 0, 0]), (.ifCond .eq 17, 3, [28]), (.iload_n 2, 1, []), (.ifCond .lt 13, 3, [28]), (.iload 4, 2, []), (.ifCond .lt 8, 3, [28]), (.iload 5, 2, []), (.ifCond .ge 9, 3, [34]), (.nop, 0, [28])]
def kX12_pour_28 : List qIns := [(.aload_n 0, 1, []), (.iconst 1, 1, [1]), (.invokevirtual 95, 3, [213, 1895, 2, 0, 13]), (.ireturn, 1, [1])]
def kX12_pour_34 : List qIns := [(.aload_n 0, 1, []), (.getfield 24, 3, [12, 6, 1732, 2]), (.iload_n 1, 1, []), (.iaload, 1, []), (.iconst (-1), 1, []), (.if_icmp .eq 13, 3, [54]), (.aload_n 0, 1, []), (.getfield 24, 3, [12, 6, 1732, 2]), (.iload_n 3, 1, []), (.iaload, 1, []), (.iconst (-1), 1, []), (.if_icmp .ne 9, 3, [60]), (.nop, 0, [54])]
def kX12_pour_54 : List qIns := [(.aload_n 0, 1, []), (.iconst 2, 1, [2]), (.invokevirtual 95, 3, [213, 1895, 2, 0, 13]), (.ireturn, 1, [1])]
def kX12_pour_60 : List qIns := [(.aload_n 0, 1, []), (.getfield 21, 3, [12, 5, 1731, 2]), (.iload_n 1, 1, []), (.iaload, 1, []), (.aload_n 0, 1, []), (.getfield 21, 3, [12, 5, 1731, 2]), (.iload_n 3, 1, []), (.iaload, 1, []), (.if_icmp .eq 10, 3, [82]), (.aload_n 0, 1, []), (.bipush 8, 2, [8]), (.invokevirtual 95, 3, [213, 1895, 2, 0, 13]), (.ireturn, 1, [1])]
def kX12_pour_82 : List qIns := [(.iload 5, 2, []), (.aload_n 0, 1, []), (.getfield 24, 3, [12, 6, 1732, 2]), (.iload_n 1, 1, []), (.iaload, 1, []), (.iload_n 2, 1, []), (.isub, 1, []), (.if_icmp .gt 17, 3, [109]), (.iload 5, 2, []), (.aload_n 0, 1, []), (.getfield 24, 3, [12, 6, 1732, 2]), (.iload_n 3, 1, []), (.iaload, 1, []), (.iload 4, 2, []), (.isub, 1, []), (.if_icmp .le 9, 3, [115]), (.nop, 0, [109])]
def kX12_pour_109 : List qIns := [(.aload_n 0, 1, []), (.iconst 3, 1, [3]), (.invokevirtual 95, 3, [213, 1895, 2, 0, 13]), (.ireturn, 1, [1])]
def kX12_pour_115 : List qIns := [(.iconst 0, 1, [0]), (.istore 6, 2, []), (.nop, 0, [118])]
def kX12_pour_118 : List qIns := [(.iload 6, 2, []), (.iload 5, 2, []), (.if_icmp .ge 58, 3, [180]), (.iload_n 2, 1, []), (.iload 4, 2, []), (.if_icmp .ge 13, 3, [141]), (.iload 5, 2, []), (.iconst 1, 1, [1]), (.isub, 1, []), (.iload 6, 2, []), (.isub, 1, []), (.goto 5, 3, [143])]
def kX12_pour_141 : List qIns := [(.iload 6, 2, []), (.nop, 0, [143])]
def kX12_pour_143 : List qIns := [(.istore 7, 2, []), (.aload_n 0, 1, []), (.getfield 27, 3, [12, 7, 1733, 2]), (.bipush 60, 2, [60]), (.iload_n 3, 1, []), (.imul, 1, []), (.iload 4, 2, []), (.iadd, 1, []), (.iload 7, 2, []), (.iadd, 1, []), (.aload_n 0, 1, []), (.getfield 27, 3, [12, 7, 1733, 2]), (.bipush 60, 2, [60]), (.iload_n 1, 1, []), (.imul, 1, []), (.iload_n 2, 1, []), (.iadd, 1, []), (.iload 7, 2, []), (.iadd, 1, []), (.laload, 1, []), (.lastore, 1, []), (.iinc 6 1, 3, [1]), (.goto (-59), 3, [118])]
def kX12_pour_180 : List qIns := [(.aload_n 0, 1, []), (.iconst 0, 1, [0]), (.invokevirtual 95, 3, [213, 1895, 2, 0, 13]), (.ireturn, 1, [1])]
def mX12_pour : qMI := (yX12_pour, cX12_pour, 8, (some .boolean), 12, [1918, 273, 1916, 1917], 5, false, [(0, kX12_pour_0), (28, kX12_pour_28), (34, kX12_pour_34), (54, kX12_pour_54), (60, kX12_pour_60), (82, kX12_pour_82), (109, kX12_pour_109), (115, kX12_pour_115), (118, kX12_pour_118), (141, kX12_pour_141), (143, kX12_pour_143), (180, kX12_pour_180)])
def kX12_isFrom_0 : List qIns := [(.lload_n 0, 1, []), (.lload_n 2, 1, []), (.lcmp, 1, []), (.ifCond .lt 14, 3, [17]), (.lload_n 0, 1, []), (.lload 4, 2, []), (.lcmp, 1, []), (.ifCond .gt 7, 3, [17]), (.iconst 1, 1, [1]), (.goto 4, 3, [18])]
def kX12_isFrom_17 : List qIns := [(.iconst 0, 1, [0]), (.nop, 0, [18])]
def kX12_isFrom_18 : List qIns := [(.ireturn, 1, [1])]
def mX12_isFrom : qMI := (yX12_isFrom, cX12_isFrom, 6, (some .boolean), 12, [2142, 273, 2141], 3, true, [(0, kX12_isFrom_0), (17, kX12_isFrom_17), (18, kX12_isFrom_18)])
def kX12_feed_0 : List qIns := [(.aload_n 0, 1, []), (.getfield 112, 3, [12, 10, 1736, 0]), (.bipush 20, 2, [20]), (.iadd, 1, []), (.sipush 900, 3, [900]), (.if_icmp .le 5, 3, [15]), (.iconst (-1), 1, []), (.ireturn, 1, [0])]
def kX12_feed_15 : List qIns := [(.aload_n 0, 1, []), (.iload_n 1, 1, []), (.invokevirtual 115, 3, [227, 1923, 2, 2, 13]), (.aload_n 0, 1, []), (.iload_n 2, 1, []), (.invokevirtual 115, 3, [227, 1923, 2, 2, 13]), (.aload_n 0, 1, []), (.iload_n 3, 1, []), (.invokevirtual 115, 3, [227, 1923, 2, 2, 13]), (.aload_n 0, 1, []), (.iload 4, 2, []), (.invokevirtual 115, 3, [227, 1923, 2, 2, 13]), (.aload_n 0, 1, []), (.iload 5, 2, []), (.invokevirtual 115, 3, [227, 1923, 2, 2, 13]), (.aload_n 0, 1, []), (.getfield 112, 3, [12, 10, 1736, 0]), (.ireturn, 1, [0])]
def mX12_feed : qMI := (yX12_feed, cX12_feed, 6, (some .int), 12, [1922, 273, 1920, 1921], 5, false, [(0, kX12_feed_0), (15, kX12_feed_15)])
def kX12_four_0 : List qIns := [(.bipush 24, 2, [24]), (.istore_n 2, 1, []), (.nop, 0, [3])]
def kX12_four_3 : List qIns := [(.iload_n 2, 1, []), (.ifCond .lt 32, 3, [36]), (.aload_n 0, 1, []), (.getfield 30, 3, [12, 8, 1734, 2]), (.aload_n 0, 1, []), (.getfield 112, 3, [12, 10, 1736, 0]), (.iload_n 1, 1, []), (.iload_n 2, 1, []), (.ishr, 1, []), (.i2b, 1, []), (.bastore, 1, []), (.aload_n 0, 1, []), (.dup, 1, []), (.getfield 112, 3, [12, 10, 1736, 0]), (.iconst 1, 1, [1]), (.iadd, 1, []), (.putfield 112, 3, [12, 10, 1736, 0]), (.iinc 2 (-8), 3, []), (.goto (-30), 3, [3])]
def kX12_four_36 : List qIns := [(.return_, 1, [])]
def mX12_four : qMI := (yX12_four, cX12_four, 3, none, 12, [1926, 273, 1925, 43], 1, false, [(0, kX12_four_0), (3, kX12_four_3), (36, kX12_four_36)])
def kX12_byteAt_0 : List qIns := [(.iload_n 1, 1, []), (.aload_n 0, 1, []), (.getfield 118, 3, [12, 11, 1737, 0]), (.if_icmp .ge 16, 3, [21]), (.aload_n 0, 1, []), (.getfield 34, 3, [12, 9, 1735, 2]), (.iload_n 1, 1, []), (.baload, 1, []), (.sipush 255, 3, [255]), (.iand, 1, []), (.goto 4, 3, [22])]
def kX12_byteAt_21 : List qIns := [(.iconst (-1), 1, []), (.nop, 0, [22])]
def kX12_byteAt_22 : List qIns := [(.ireturn, 1, [0])]
def mX12_byteAt : qMI := (yX12_byteAt, cX12_byteAt, 2, (some .int), 12, [1946, 273, 1945, 46], 1, false, [(0, kX12_byteAt_0), (21, kX12_byteAt_21), (22, kX12_byteAt_22)])
def kX12_isSmall_0 : List qIns := [(.iload_n 0, 1, []), (.bipush 97, 2, [97]), (.if_icmp .lt 13, 3, [16]), (.iload_n 0, 1, []), (.bipush 122, 2, [122]), (.if_icmp .gt 7, 3, [16]), (.iconst 1, 1, [1]), (.goto 4, 3, [17])]
def kX12_isSmall_16 : List qIns := [(.iconst 0, 1, [0]), (.nop, 0, [17])]
def kX12_isSmall_17 : List qIns := [(.ireturn, 1, [1])]
def mX12_isSmall : qMI := (yX12_isSmall, cX12_isSmall, 1, (some .boolean), 12, [1949, 273, 1948], 1, true, [(0, kX12_isSmall_0), (16, kX12_isSmall_16), (17, kX12_isSmall_17)])
def kX12_isDigit_0 : List qIns := [(.iload_n 0, 1, []), (.bipush 48, 2, [48]), (.if_icmp .lt 13, 3, [16]), (.iload_n 0, 1, []), (.bipush 57, 2, [57]), (.if_icmp .gt 7, 3, [16]), (.iconst 1, 1, [1]), (.goto 4, 3, [17])]
def kX12_isDigit_16 : List qIns := [(.iconst 0, 1, [0]), (.nop, 0, [17])]
def kX12_isDigit_17 : List qIns := [(.ireturn, 1, [1])]
def mX12_isDigit : qMI := (yX12_isDigit, cX12_isDigit, 1, (some .boolean), 12, [1952, 273, 1951], 1, true, [(0, kX12_isDigit_0), (16, kX12_isDigit_16), (17, kX12_isDigit_17)])
def kX12_ahead_0 : List qIns := [(.aload_n 0, 1, []), (.aload_n 0, 1, []), (.getfield 121, 3, [12, 14, 1740, 0]), (.invokevirtual 124, 3, [228, 1943, 2, 0, 13]), (.bipush 32, 2, [32]), (.if_icmp .eq 16, 3, [26]), (.aload_n 0, 1, []), (.aload_n 0, 1, []), (.getfield 121, 3, [12, 14, 1740, 0]), (.invokevirtual 124, 3, [228, 1943, 2, 0, 13]), (.bipush 10, 2, [10]), (.if_icmp .ne 16, 3, [39]), (.nop, 0, [26])]
def kX12_ahead_26 : List qIns := [(.aload_n 0, 1, []), (.dup, 1, []), (.getfield 121, 3, [12, 14, 1740, 0]), (.iconst 1, 1, [1]), (.iadd, 1, []), (.putfield 121, 3, [12, 14, 1740, 0]), (.goto (-36), 3, [0])]
def kX12_ahead_39 : List qIns := [(.aload_n 0, 1, []), (.aload_n 0, 1, []), (.getfield 121, 3, [12, 14, 1740, 0]), (.putfield 127, 3, [12, 13, 1739, 0]), (.aload_n 0, 1, []), (.aload_n 0, 1, []), (.getfield 121, 3, [12, 14, 1740, 0]), (.invokevirtual 124, 3, [228, 1943, 2, 0, 13]), (.istore_n 1, 1, []), (.aload_n 0, 1, []), (.iload_n 1, 1, []), (.putfield 130, 3, [12, 15, 1741, 0]), (.iload_n 1, 1, []), (.iconst (-1), 1, []), (.if_icmp .ne 11, 3, [74]), (.aload_n 0, 1, []), (.iconst 0, 1, [0]), (.putfield 133, 3, [12, 12, 1738, 0]), (.goto 180, 3, [251])]
def kX12_ahead_74 : List qIns := [(.iload_n 1, 1, []), (.invokestatic 136, 3, [229, 1947, 1, 0, 0]), (.ifCond .eq 38, 3, [116]), (.nop, 0, [81])]
def kX12_ahead_81 : List qIns := [(.aload_n 0, 1, []), (.aload_n 0, 1, []), (.getfield 121, 3, [12, 14, 1740, 0]), (.invokevirtual 124, 3, [228, 1943, 2, 0, 13]), (.invokestatic 136, 3, [229, 1947, 1, 0, 0]), (.ifCond .eq 16, 3, [108]), (.aload_n 0, 1, []), (.dup, 1, []), (.getfield 121, 3, [12, 14, 1740, 0]), (.iconst 1, 1, [1]), (.iadd, 1, []), (.putfield 121, 3, [12, 14, 1740, 0]), (.goto (-24), 3, [81])]
def kX12_ahead_108 : List qIns := [(.aload_n 0, 1, []), (.iconst 2, 1, [2]), (.putfield 133, 3, [12, 12, 1738, 0]), (.goto 138, 3, [251])]
def kX12_ahead_116 : List qIns := [(.iload_n 1, 1, []), (.invokestatic 139, 3, [230, 1950, 1, 0, 0]), (.ifCond .eq 88, 3, [208]), (.aload_n 0, 1, []), (.iconst 0, 1, [0]), (.putfield 130, 3, [12, 15, 1741, 0]), (.nop, 0, [128])]
def kX12_ahead_128 : List qIns := [(.aload_n 0, 1, []), (.aload_n 0, 1, []), (.getfield 121, 3, [12, 14, 1740, 0]), (.invokevirtual 124, 3, [228, 1943, 2, 0, 13]), (.invokestatic 139, 3, [230, 1950, 1, 0, 0]), (.ifCond .eq 44, 3, [183]), (.aload_n 0, 1, []), (.ldc 142, 2, [1953, 100000]), (.bipush 10, 2, [10]), (.aload_n 0, 1, []), (.getfield 130, 3, [12, 15, 1741, 0]), (.imul, 1, []), (.aload_n 0, 1, []), (.aload_n 0, 1, []), (.getfield 121, 3, [12, 14, 1740, 0]), (.invokevirtual 124, 3, [228, 1943, 2, 0, 13]), (.iadd, 1, []), (.bipush 48, 2, [48]), (.isub, 1, []), (.invokestatic 143, 3, [1954, 1]), (.putfield 130, 3, [12, 15, 1741, 0]), (.aload_n 0, 1, []), (.dup, 1, []), (.getfield 121, 3, [12, 14, 1740, 0]), (.iconst 1, 1, [1]), (.iadd, 1, []), (.putfield 121, 3, [12, 14, 1740, 0]), (.goto (-52), 3, [128])]
def kX12_ahead_183 : List qIns := [(.aload_n 0, 1, []), (.aload_n 0, 1, []), (.getfield 121, 3, [12, 14, 1740, 0]), (.aload_n 0, 1, []), (.getfield 127, 3, [12, 13, 1739, 0]), (.isub, 1, []), (.iconst 4, 1, [4]), (.if_icmp .le 7, 3, [201]), (.iconst 1, 1, [1]), (.goto 4, 3, [202])]
def kX12_ahead_201 : List qIns := [(.iconst 3, 1, [3]), (.nop, 0, [202])]
def kX12_ahead_202 : List qIns := [(.putfield 133, 3, [12, 12, 1738, 0]), (.goto 46, 3, [251])]
def kX12_ahead_208 : List qIns := [(.aload_n 0, 1, []), (.dup, 1, []), (.getfield 121, 3, [12, 14, 1740, 0]), (.iconst 1, 1, [1]), (.iadd, 1, []), (.putfield 121, 3, [12, 14, 1740, 0]), (.aload_n 0, 1, []), (.iload_n 1, 1, []), (.bipush 59, 2, [59]), (.if_icmp .eq 21, 3, [243]), (.iload_n 1, 1, []), (.bipush 60, 2, [60]), (.if_icmp .eq 15, 3, [243]), (.iload_n 1, 1, []), (.bipush 62, 2, [62]), (.if_icmp .eq 9, 3, [243]), (.iload_n 1, 1, []), (.bipush 61, 2, [61]), (.if_icmp .ne 7, 3, [247]), (.nop, 0, [243])]
def kX12_ahead_243 : List qIns := [(.iconst 4, 1, [4]), (.goto 4, 3, [248])]
def kX12_ahead_247 : List qIns := [(.iconst 1, 1, [1]), (.nop, 0, [248])]
def kX12_ahead_248 : List qIns := [(.putfield 133, 3, [12, 12, 1738, 0]), (.nop, 0, [251])]
def kX12_ahead_251 : List qIns := [(.return_, 1, [])]
def mX12_ahead : qMI := (yX12_ahead, cX12_ahead, 2, none, 12, [1942, 273, 1941, 45], 0, false, [(0, kX12_ahead_0), (26, kX12_ahead_26), (39, kX12_ahead_39), (74, kX12_ahead_74), (81, kX12_ahead_81), (108, kX12_ahead_108), (116, kX12_ahead_116), (128, kX12_ahead_128), (183, kX12_ahead_183), (201, kX12_ahead_201), (202, kX12_ahead_202), (208, kX12_ahead_208), (243, kX12_ahead_243), (247, kX12_ahead_247), (248, kX12_ahead_248), (251, kX12_ahead_251)])
def kX12_isSign_0 : List qIns := [(.aload_n 0, 1, []), (.getfield 133, 3, [12, 12, 1738, 0]), (.iconst 4, 1, [4]), (.if_icmp .ne 15, 3, [20]), (.aload_n 0, 1, []), (.getfield 130, 3, [12, 15, 1741, 0]), (.iload_n 1, 1, []), (.if_icmp .ne 7, 3, [20]), (.iconst 1, 1, [1]), (.goto 4, 3, [21])]
def kX12_isSign_20 : List qIns := [(.iconst 0, 1, [0]), (.nop, 0, [21])]
def kX12_isSign_21 : List qIns := [(.ireturn, 1, [1])]
def mX12_isSign : qMI := (yX12_isSign, cX12_isSign, 2, (some .boolean), 12, [2027, 273, 2026, 62], 1, false, [(0, kX12_isSign_0), (20, kX12_isSign_20), (21, kX12_isSign_21)])
def kX12_inWords_0 : List qIns := [(.aload_n 0, 1, []), (.getfield 133, 3, [12, 12, 1738, 0]), (.iconst 2, 1, [2]), (.if_icmp .eq 5, 3, [10]), (.iconst (-1), 1, []), (.ireturn, 1, [0])]
def kX12_inWords_10 : List qIns := [(.iconst 0, 1, [0]), (.istore_n 2, 1, []), (.iconst 1, 1, [1]), (.istore_n 3, 1, []), (.nop, 0, [14])]
def kX12_inWords_14 : List qIns := [(.iload_n 3, 1, []), (.aload_n 1, 1, []), (.invokevirtual 148, 3, [369, 1968, 1, 0, 91]), (.if_icmp .ge 114, 3, [133]), (.iload_n 3, 1, []), (.istore 4, 2, []), (.nop, 0, [25])]
def kX12_inWords_25 : List qIns := [(.aload_n 1, 1, []), (.iload 4, 2, []), (.invokevirtual 154, 3, [370, 1969, 2, 0, 91]), (.bipush 32, 2, [32]), (.if_icmp .eq 9, 3, [42]), (.iinc 4 1, 3, [1]), (.goto (-14), 3, [25])]
def kX12_inWords_42 : List qIns := [(.iload 4, 2, []), (.iload_n 3, 1, []), (.isub, 1, []), (.aload_n 0, 1, []), (.getfield 121, 3, [12, 14, 1740, 0]), (.aload_n 0, 1, []), (.getfield 127, 3, [12, 13, 1739, 0]), (.isub, 1, []), (.if_icmp .ne 7, 3, [62]), (.iconst 1, 1, [1]), (.goto 4, 3, [63])]
def kX12_inWords_62 : List qIns := [(.iconst 0, 1, [0]), (.nop, 0, [63])]
def kX12_inWords_63 : List qIns := [(.istore 5, 2, []), (.iload_n 3, 1, []), (.istore 6, 2, []), (.nop, 0, [68])]
def kX12_inWords_68 : List qIns := [(.iload 6, 2, []), (.iload 4, 2, []), (.if_icmp .ge 43, 3, [115]), (.iload 5, 2, []), (.ifCond .eq 38, 3, [115]), (.aload_n 1, 1, []), (.iload 6, 2, []), (.invokevirtual 154, 3, [370, 1969, 2, 0, 91]), (.aload_n 0, 1, []), (.aload_n 0, 1, []), (.getfield 127, 3, [12, 13, 1739, 0]), (.iload 6, 2, []), (.iadd, 1, []), (.iload_n 3, 1, []), (.isub, 1, []), (.invokevirtual 124, 3, [228, 1943, 2, 0, 13]), (.if_icmp .ne 7, 3, [106]), (.iconst 1, 1, [1]), (.goto 4, 3, [107])]
def kX12_inWords_106 : List qIns := [(.iconst 0, 1, [0]), (.nop, 0, [107])]
def kX12_inWords_107 : List qIns := [(.istore 5, 2, []), (.iinc 6 1, 3, [1]), (.goto (-44), 3, [68])]
def kX12_inWords_115 : List qIns := [(.iload 5, 2, []), (.ifCond .eq 5, 3, [122]), (.iload_n 2, 1, []), (.ireturn, 1, [0])]
def kX12_inWords_122 : List qIns := [(.iinc 2 1, 3, [1]), (.iload 4, 2, []), (.iconst 1, 1, [1]), (.iadd, 1, []), (.istore_n 3, 1, []), (.goto (-116), 3, [14])]
def kX12_inWords_133 : List qIns := [(.iconst (-1), 1, []), (.ireturn, 1, [0])]
def mX12_inWords : qMI := (yX12_inWords, cX12_inWords, 7, (some .int), 12, [1967, 273, 1966, 49], 1, false, [(0, kX12_inWords_0), (10, kX12_inWords_10), (14, kX12_inWords_14), (25, kX12_inWords_25), (42, kX12_inWords_42), (62, kX12_inWords_62), (63, kX12_inWords_63), (68, kX12_inWords_68), (106, kX12_inWords_106), (107, kX12_inWords_107), (115, kX12_inWords_115), (122, kX12_inWords_122), (133, kX12_inWords_133)])
def kX12_fails_0 : List qIns := [(.aload_n 0, 1, []), (.getfield 158, 3, [12, 18, 1744, 0]), (.ifCond .ne 28, 3, [32]), (.aload_n 0, 1, []), (.aload_n 0, 1, []), (.getfield 133, 3, [12, 12, 1738, 0]), (.iconst 1, 1, [1]), (.if_icmp .ne 7, 3, [20]), (.iconst 1, 1, [1]), (.goto 4, 3, [21])]
def kX12_fails_20 : List qIns := [(.iload_n 1, 1, []), (.nop, 0, [21])]
def kX12_fails_21 : List qIns := [(.putfield 158, 3, [12, 18, 1744, 0]), (.aload_n 0, 1, []), (.aload_n 0, 1, []), (.getfield 127, 3, [12, 13, 1739, 0]), (.putfield 41, 3, [12, 17, 1743, 0]), (.nop, 0, [32])]
def kX12_fails_32 : List qIns := [(.iconst 0, 1, [0]), (.ireturn, 1, [1])]
def mX12_fails : qMI := (yX12_fails, cX12_fails, 2, (some .boolean), 12, [1973, 273, 1972, 50], 1, false, [(0, kX12_fails_0), (20, kX12_fails_20), (21, kX12_fails_21), (32, kX12_fails_32)])
def kX12_begins_0 : List qIns := [(.iload_n 1, 1, []), (.ifCond .lt 16, 3, [17]), (.iload_n 1, 1, []), (.aload_n 0, 1, []), (.getfield 112, 3, [12, 10, 1736, 0]), (.if_icmp .gt 8, 3, [17]), (.iload_n 1, 1, []), (.iload_n 2, 1, []), (.if_icmp .le 5, 3, [19]), (.nop, 0, [17])]
def kX12_begins_17 : List qIns := [(.iconst 0, 1, [0]), (.ireturn, 1, [1])]
def kX12_begins_19 : List qIns := [(.aload_n 0, 1, []), (.iload_n 1, 1, []), (.putfield 118, 3, [12, 11, 1737, 0]), (.iconst 0, 1, [0]), (.istore_n 3, 1, []), (.nop, 0, [26])]
def kX12_begins_26 : List qIns := [(.iload_n 3, 1, []), (.iload_n 1, 1, []), (.if_icmp .ge 21, 3, [49]), (.aload_n 0, 1, []), (.getfield 34, 3, [12, 9, 1735, 2]), (.iload_n 3, 1, []), (.aload_n 0, 1, []), (.getfield 30, 3, [12, 8, 1734, 2]), (.iload_n 3, 1, []), (.baload, 1, []), (.bastore, 1, []), (.iinc 3 1, 3, [1]), (.goto (-20), 3, [26])]
def kX12_begins_49 : List qIns := [(.aload_n 0, 1, []), (.iconst 0, 1, [0]), (.putfield 112, 3, [12, 10, 1736, 0]), (.aload_n 0, 1, []), (.iconst 0, 1, [0]), (.putfield 158, 3, [12, 18, 1744, 0]), (.aload_n 0, 1, []), (.iconst (-1), 1, []), (.putfield 41, 3, [12, 17, 1743, 0]), (.aload_n 0, 1, []), (.iconst 0, 1, [0]), (.putfield 121, 3, [12, 14, 1740, 0]), (.aload_n 0, 1, []), (.iconst 0, 1, [0]), (.putfield 161, 3, [12, 19, 1745, 0]), (.aload_n 0, 1, []), (.invokevirtual 164, 3, [231, 1939, 1, 2, 13]), (.iconst 1, 1, [1]), (.ireturn, 1, [1])]
def mX12_begins : qMI := (yX12_begins, cX12_begins, 4, (some .boolean), 12, [1938, 273, 1937, 44], 2, false, [(0, kX12_begins_0), (17, kX12_begins_17), (19, kX12_begins_19), (26, kX12_begins_26), (49, kX12_begins_49)])
def kX12_wantSign_0 : List qIns := [(.aload_n 0, 1, []), (.iload_n 1, 1, []), (.invokevirtual 167, 3, [232, 2024, 2, 0, 13]), (.ifCond .ne 9, 3, [14]), (.aload_n 0, 1, []), (.iconst 2, 1, [2]), (.invokevirtual 170, 3, [234, 1970, 2, 0, 13]), (.ireturn, 1, [1])]
def kX12_wantSign_14 : List qIns := [(.aload_n 0, 1, []), (.invokevirtual 164, 3, [231, 1939, 1, 2, 13]), (.iconst 1, 1, [1]), (.ireturn, 1, [1])]
def mX12_wantSign : qMI := (yX12_wantSign, cX12_wantSign, 2, (some .boolean), 12, [2023, 273, 2022, 61], 1, false, [(0, kX12_wantSign_0), (14, kX12_wantSign_14)])
def kX12_wantWord_0 : List qIns := [(.aload_n 0, 1, []), (.aload_n 1, 1, []), (.invokevirtual 173, 3, [233, 1964, 2, 0, 13]), (.iload_n 2, 1, []), (.if_icmp .eq 9, 3, [15]), (.aload_n 0, 1, []), (.iconst 2, 1, [2]), (.invokevirtual 170, 3, [234, 1970, 2, 0, 13]), (.ireturn, 1, [1])]
def kX12_wantWord_15 : List qIns := [(.aload_n 0, 1, []), (.invokevirtual 164, 3, [231, 1939, 1, 2, 13]), (.iconst 1, 1, [1]), (.ireturn, 1, [1])]
def mX12_wantWord : qMI := (yX12_wantWord, cX12_wantWord, 3, (some .boolean), 12, [1985, 273, 1984, 53], 2, false, [(0, kX12_wantWord_0), (15, kX12_wantWord_15)])
def kX12_number_0 : List qIns := [(.aload_n 0, 1, []), (.getfield 133, 3, [12, 12, 1738, 0]), (.iconst 3, 1, [3]), (.if_icmp .eq 9, 3, [14]), (.aload_n 0, 1, []), (.iconst 2, 1, [2]), (.invokevirtual 170, 3, [234, 1970, 2, 0, 13]), (.ireturn, 1, [1])]
def kX12_number_14 : List qIns := [(.aload_n 0, 1, []), (.getfield 130, 3, [12, 15, 1741, 0]), (.iload_n 2, 1, []), (.if_icmp .lt 11, 3, [30]), (.aload_n 0, 1, []), (.getfield 130, 3, [12, 15, 1741, 0]), (.iload_n 3, 1, []), (.if_icmp .le 9, 3, [36]), (.nop, 0, [30])]
def kX12_number_30 : List qIns := [(.aload_n 0, 1, []), (.iconst 4, 1, [4]), (.invokevirtual 170, 3, [234, 1970, 2, 0, 13]), (.ireturn, 1, [1])]
def kX12_number_36 : List qIns := [(.aload_n 0, 1, []), (.getfield 7, 3, [12, 0, 1726, 2]), (.iload_n 1, 1, []), (.aload_n 0, 1, []), (.getfield 130, 3, [12, 15, 1741, 0]), (.iastore, 1, []), (.aload_n 0, 1, []), (.invokevirtual 164, 3, [231, 1939, 1, 2, 13]), (.iconst 1, 1, [1]), (.ireturn, 1, [1])]
def mX12_number : qMI := (yX12_number, cX12_number, 4, (some .boolean), 12, [1981, 273, 1980, 52], 3, false, [(0, kX12_number_0), (14, kX12_number_14), (30, kX12_number_30), (36, kX12_number_36)])
def kX12_isName_0 : List qIns := [(.aload_n 0, 1, []), (.getfield 133, 3, [12, 12, 1738, 0]), (.iconst 2, 1, [2]), (.if_icmp .ne 30, 3, [35]), (.aload_n 0, 1, []), (.getfield 121, 3, [12, 14, 1740, 0]), (.aload_n 0, 1, []), (.getfield 127, 3, [12, 13, 1739, 0]), (.isub, 1, []), (.bipush 8, 2, [8]), (.if_icmp .gt 16, 3, [35]), (.aload_n 0, 1, []), (.aload_n 1, 1, []), (.invokevirtual 173, 3, [233, 1964, 2, 0, 13]), (.iconst (-1), 1, []), (.if_icmp .ne 7, 3, [35]), (.iconst 1, 1, [1]), (.goto 4, 3, [36])]
def kX12_isName_35 : List qIns := [(.iconst 0, 1, [0]), (.nop, 0, [36])]
def kX12_isName_36 : List qIns := [(.ireturn, 1, [1])]
def mX12_isName : qMI := (yX12_isName, cX12_isName, 2, (some .boolean), 12, [1996, 273, 1995, 55], 1, false, [(0, kX12_isName_0), (35, kX12_isName_35), (36, kX12_isName_36)])
def kX12_nameHere_0 : List qIns := [(.lconst 0, 1, []), (.lstore_n 1, 1, []), (.aload_n 0, 1, []), (.getfield 127, 3, [12, 13, 1739, 0]), (.istore_n 3, 1, []), (.nop, 0, [7])]
def kX12_nameHere_7 : List qIns := [(.iload_n 3, 1, []), (.aload_n 0, 1, []), (.getfield 121, 3, [12, 14, 1740, 0]), (.if_icmp .ge 21, 3, [33]), (.lload_n 1, 1, []), (.bipush 8, 2, [8]), (.lshl, 1, []), (.aload_n 0, 1, []), (.iload_n 3, 1, []), (.invokevirtual 124, 3, [228, 1943, 2, 0, 13]), (.i2l, 1, []), (.lor, 1, []), (.lstore_n 1, 1, []), (.iinc 3 1, 3, [1]), (.goto (-23), 3, [7])]
def kX12_nameHere_33 : List qIns := [(.lload_n 1, 1, []), (.lreturn, 1, [])]
def mX12_nameHere : qMI := (yX12_nameHere, cX12_nameHere, 4, (some .long), 12, [2004, 273, 2003, 57], 0, false, [(0, kX12_nameHere_0), (7, kX12_nameHere_7), (33, kX12_nameHere_33)])
def kX12_findHere_0 : List qIns := [(.iconst 0, 1, [0]), (.istore_n 3, 1, []), (.nop, 0, [2])]
def kX12_findHere_2 : List qIns := [(.iload_n 3, 1, []), (.iload_n 2, 1, []), (.if_icmp .ge 27, 3, [31]), (.aload_n 0, 1, []), (.getfield 13, 3, [12, 1, 1727, 2]), (.iload_n 1, 1, []), (.iload_n 3, 1, []), (.iadd, 1, []), (.laload, 1, []), (.aload_n 0, 1, []), (.invokevirtual 177, 3, [240, 2001, 1, 1, 13]), (.lcmp, 1, []), (.ifCond .ne 5, 3, [25]), (.iload_n 3, 1, []), (.ireturn, 1, [0])]
def kX12_findHere_25 : List qIns := [(.iinc 3 1, 3, [1]), (.goto (-26), 3, [2])]
def kX12_findHere_31 : List qIns := [(.iconst (-1), 1, []), (.ireturn, 1, [0])]
def mX12_findHere : qMI := (yX12_findHere, cX12_findHere, 4, (some .int), 12, [2000, 273, 1999, 56], 2, false, [(0, kX12_findHere_0), (2, kX12_findHere_2), (25, kX12_findHere_25), (31, kX12_findHere_31)])
def kX12_fault_0 : List qIns := [(.iload_n 1, 1, []), (.ifCond .ne 10, 3, [11]), (.aload_n 0, 1, []), (.getfield 37, 3, [12, 16, 1742, 0]), (.goto 16, 3, [24])]
def kX12_fault_11 : List qIns := [(.iload_n 1, 1, []), (.iconst 1, 1, [1]), (.if_icmp .ne 10, 3, [23]), (.aload_n 0, 1, []), (.getfield 41, 3, [12, 17, 1743, 0]), (.goto 4, 3, [24])]
def kX12_fault_23 : List qIns := [(.iconst (-1), 1, []), (.nop, 0, [24])]
def kX12_fault_24 : List qIns := [(.ireturn, 1, [0])]
def mX12_fault : qMI := (yX12_fault, cX12_fault, 2, (some .int), 12, [1930, 273, 1928, 1929], 1, false, [(0, kX12_fault_0), (11, kX12_fault_11), (23, kX12_fault_23), (24, kX12_fault_24)])
def kX12_taken_0 : List qIns := [(.aload_n 0, 1, []), (.aload_n 0, 1, []), (.getfield 158, 3, [12, 18, 1744, 0]), (.putfield 37, 3, [12, 16, 1742, 0]), (.aload_n 0, 1, []), (.getfield 158, 3, [12, 18, 1744, 0]), (.ifCond .le 12, 3, [24]), (.aload_n 0, 1, []), (.bipush 9, 2, [9]), (.invokevirtual 88, 3, [214, 1955, 2, 0, 13]), (.goto 8, 3, [29])]
def kX12_taken_24 : List qIns := [(.aload_n 0, 1, []), (.iload_n 1, 1, []), (.invokevirtual 92, 3, [215, 2048, 2, 0, 13]), (.nop, 0, [29])]
def kX12_taken_29 : List qIns := [(.ireturn, 1, [0])]
def mX12_taken : qMI := (yX12_taken, cX12_taken, 2, (some .int), 12, [2031, 273, 2030, 63], 1, false, [(0, kX12_taken_0), (24, kX12_taken_24), (29, kX12_taken_29)])
def kX12_boyRow_0 : List qIns := [(.bipush 8, 2, [8]), (.iconst 5, 1, [5]), (.iload_n 0, 1, []), (.imul, 1, []), (.iadd, 1, []), (.ireturn, 1, [0])]
def mX12_boyRow : qMI := (yX12_boyRow, cX12_boyRow, 1, (some .int), 12, [1992, 273, 1991], 1, true, [(0, kX12_boyRow_0)])
def kX12_quarrelRow_0 : List qIns := [(.bipush 48, 2, [48]), (.iconst 4, 1, [4]), (.iload_n 0, 1, []), (.imul, 1, []), (.iadd, 1, []), (.ireturn, 1, [0])]
def mX12_quarrelRow : qMI := (yX12_quarrelRow, cX12_quarrelRow, 1, (some .int), 12, [2015, 273, 2014], 1, true, [(0, kX12_quarrelRow_0)])
def kX12_isThere_0 : List qIns := [(.aload_n 0, 1, []), (.ldc 181, 2, [1963, 1000, 2]), (.invokevirtual 173, 3, [233, 1964, 2, 0, 13]), (.iload_n 1, 1, []), (.if_icmp .eq 5, 3, [12]), (.iconst 0, 1, [0]), (.ireturn, 1, [1])]
def kX12_isThere_12 : List qIns := [(.aload_n 0, 1, []), (.invokevirtual 164, 3, [231, 1939, 1, 2, 13]), (.iconst 1, 1, [1]), (.ireturn, 1, [1])]
def mX12_isThere : qMI := (yX12_isThere, cX12_isThere, 2, (some .boolean), 12, [2008, 273, 2007, 58], 1, false, [(0, kX12_isThere_0), (12, kX12_isThere_12)])
def kX12_oldBoy_0 : List qIns := [(.aload_n 0, 1, []), (.ldc 181, 2, [1963, 1000, 2]), (.invokevirtual 183, 3, [239, 1993, 2, 0, 13]), (.ifCond .ne 9, 3, [15]), (.aload_n 0, 1, []), (.iconst 2, 1, [2]), (.invokevirtual 170, 3, [234, 1970, 2, 0, 13]), (.ireturn, 1, [1])]
def kX12_oldBoy_15 : List qIns := [(.aload_n 0, 1, []), (.getfield 7, 3, [12, 0, 1726, 2]), (.iload_n 3, 1, []), (.aload_n 0, 1, []), (.iload_n 1, 1, []), (.iload_n 2, 1, []), (.invokevirtual 187, 3, [241, 1997, 3, 0, 13]), (.iastore, 1, []), (.aload_n 0, 1, []), (.getfield 7, 3, [12, 0, 1726, 2]), (.iload_n 3, 1, []), (.iaload, 1, []), (.iconst (-1), 1, []), (.if_icmp .ne 9, 3, [43]), (.aload_n 0, 1, []), (.iconst 3, 1, [3]), (.invokevirtual 170, 3, [234, 1970, 2, 0, 13]), (.ireturn, 1, [1])]
def kX12_oldBoy_43 : List qIns := [(.aload_n 0, 1, []), (.invokevirtual 164, 3, [231, 1939, 1, 2, 13]), (.iconst 1, 1, [1]), (.ireturn, 1, [1])]
def mX12_oldBoy : qMI := (yX12_oldBoy, cX12_oldBoy, 4, (some .boolean), 12, [2019, 273, 2018, 60], 3, false, [(0, kX12_oldBoy_0), (15, kX12_oldBoy_15), (43, kX12_oldBoy_43)])
def kX12_aField_0 : List qIns := [(.aload_n 0, 1, []), (.sipush 1826, 3, [1826]), (.iconst 1, 1, [1]), (.bipush 6, 2, [6]), (.invokevirtual 190, 3, [238, 1978, 4, 0, 13]), (.ifCond .eq 30, 3, [40]), (.aload_n 0, 1, []), (.ldc 181, 2, [1963, 1000, 2]), (.iconst 4, 1, [4]), (.invokevirtual 194, 3, [237, 1982, 3, 0, 13]), (.ifCond .eq 20, 3, [40]), (.aload_n 0, 1, []), (.sipush 1827, 3, [1827]), (.iconst 1, 1, [1]), (.bipush 6, 2, [6]), (.invokevirtual 190, 3, [238, 1978, 4, 0, 13]), (.ifCond .eq 7, 3, [40]), (.iconst 1, 1, [1]), (.goto 4, 3, [41])]
def kX12_aField_40 : List qIns := [(.iconst 0, 1, [0]), (.nop, 0, [41])]
def kX12_aField_41 : List qIns := [(.ireturn, 1, [1])]
def mX12_aField : qMI := (yX12_aField, cX12_aField, 1, (some .boolean), 12, [1977, 273, 1976, 51], 0, false, [(0, kX12_aField_0), (40, kX12_aField_40), (41, kX12_aField_41)])
def kX12_aBoy_0 : List qIns := [(.aload_n 0, 1, []), (.getfield 7, 3, [12, 0, 1726, 2]), (.sipush 1824, 3, [1824]), (.iaload, 1, []), (.istore_n 1, 1, []), (.sipush 1824, 3, [1824]), (.iload_n 1, 1, []), (.invokestatic 198, 3, [244, 1990, 1, 0, 0]), (.iadd, 1, []), (.istore_n 2, 1, []), (.iload_n 1, 1, []), (.bipush 8, 2, [8]), (.if_icmp .ne 10, 3, [31]), (.aload_n 0, 1, []), (.bipush 6, 2, [6]), (.invokevirtual 170, 3, [234, 1970, 2, 0, 13]), (.ireturn, 1, [1])]
def kX12_aBoy_31 : List qIns := [(.aload_n 0, 1, []), (.invokevirtual 164, 3, [231, 1939, 1, 2, 13]), (.aload_n 0, 1, []), (.ldc 181, 2, [1963, 1000, 2]), (.invokevirtual 183, 3, [239, 1993, 2, 0, 13]), (.ifCond .ne 9, 3, [50]), (.aload_n 0, 1, []), (.iconst 2, 1, [2]), (.invokevirtual 170, 3, [234, 1970, 2, 0, 13]), (.ireturn, 1, [1])]
def kX12_aBoy_50 : List qIns := [(.aload_n 0, 1, []), (.bipush 32, 2, [32]), (.iload_n 1, 1, []), (.invokevirtual 187, 3, [241, 1997, 3, 0, 13]), (.iconst (-1), 1, []), (.if_icmp .eq 9, 3, [67]), (.aload_n 0, 1, []), (.iconst 3, 1, [3]), (.invokevirtual 170, 3, [234, 1970, 2, 0, 13]), (.ireturn, 1, [1])]
def kX12_aBoy_67 : List qIns := [(.aload_n 0, 1, []), (.getfield 13, 3, [12, 1, 1727, 2]), (.bipush 32, 2, [32]), (.iload_n 1, 1, []), (.iadd, 1, []), (.aload_n 0, 1, []), (.invokevirtual 177, 3, [240, 2001, 1, 1, 13]), (.lastore, 1, []), (.aload_n 0, 1, []), (.invokevirtual 164, 3, [231, 1939, 1, 2, 13]), (.aload_n 0, 1, []), (.ldc 181, 2, [1963, 1000, 2]), (.iconst 5, 1, [5]), (.invokevirtual 194, 3, [237, 1982, 3, 0, 13]), (.ifCond .eq 55, 3, [146]), (.aload_n 0, 1, []), (.iload_n 2, 1, []), (.iconst 0, 1, [0]), (.aload_n 0, 1, []), (.getfield 7, 3, [12, 0, 1726, 2]), (.sipush 1826, 3, [1826]), (.iaload, 1, []), (.aload_n 0, 1, []), (.getfield 7, 3, [12, 0, 1726, 2]), (.sipush 1827, 3, [1827]), (.iaload, 1, []), (.imul, 1, []), (.iconst 1, 1, [1]), (.isub, 1, []), (.invokevirtual 190, 3, [238, 1978, 4, 0, 13]), (.ifCond .eq 27, 3, [146]), (.aload_n 0, 1, []), (.ldc 181, 2, [1963, 1000, 2]), (.bipush 6, 2, [6]), (.invokevirtual 194, 3, [237, 1982, 3, 0, 13]), (.ifCond .eq 16, 3, [146]), (.aload_n 0, 1, []), (.iload_n 2, 1, []), (.iconst 1, 1, [1]), (.iadd, 1, []), (.iconst 1, 1, [1]), (.bipush 30, 2, [30]), (.invokevirtual 190, 3, [238, 1978, 4, 0, 13]), (.ifCond .ne 5, 3, [148]), (.nop, 0, [146])]
def kX12_aBoy_146 : List qIns := [(.iconst 0, 1, [0]), (.ireturn, 1, [1])]
def kX12_aBoy_148 : List qIns := [(.aload_n 0, 1, []), (.getfield 7, 3, [12, 0, 1726, 2]), (.iload_n 2, 1, []), (.iconst 2, 1, [2]), (.iadd, 1, []), (.iconst 1, 1, [1]), (.iastore, 1, []), (.aload_n 0, 1, []), (.getfield 7, 3, [12, 0, 1726, 2]), (.iload_n 2, 1, []), (.iconst 3, 1, [3]), (.iadd, 1, []), (.iconst 2, 1, [2]), (.iastore, 1, []), (.aload_n 0, 1, []), (.bipush 7, 2, [7]), (.invokevirtual 201, 3, [246, 2005, 2, 0, 13]), (.ifCond .eq 18, 3, [190]), (.aload_n 0, 1, []), (.iload_n 2, 1, []), (.iconst 2, 1, [2]), (.iadd, 1, []), (.iconst 0, 1, [0]), (.bipush 9, 2, [9]), (.invokevirtual 190, 3, [238, 1978, 4, 0, 13]), (.ifCond .ne 5, 3, [190]), (.iconst 0, 1, [0]), (.ireturn, 1, [1])]
def kX12_aBoy_190 : List qIns := [(.aload_n 0, 1, []), (.bipush 8, 2, [8]), (.invokevirtual 201, 3, [246, 2005, 2, 0, 13]), (.ifCond .eq 18, 3, [214]), (.aload_n 0, 1, []), (.iload_n 2, 1, []), (.iconst 3, 1, [3]), (.iadd, 1, []), (.iconst 0, 1, [0]), (.bipush 9, 2, [9]), (.invokevirtual 190, 3, [238, 1978, 4, 0, 13]), (.ifCond .ne 5, 3, [214]), (.iconst 0, 1, [0]), (.ireturn, 1, [1])]
def kX12_aBoy_214 : List qIns := [(.aload_n 0, 1, []), (.getfield 7, 3, [12, 0, 1726, 2]), (.sipush 1824, 3, [1824]), (.dup2, 1, []), (.iaload, 1, []), (.iconst 1, 1, [1]), (.iadd, 1, []), (.iastore, 1, []), (.iconst 1, 1, [1]), (.ireturn, 1, [1])]
def mX12_aBoy : qMI := (yX12_aBoy, cX12_aBoy, 3, (some .boolean), 12, [1989, 273, 1988, 54], 0, false, [(0, kX12_aBoy_0), (31, kX12_aBoy_31), (50, kX12_aBoy_50), (67, kX12_aBoy_67), (146, kX12_aBoy_146), (148, kX12_aBoy_148), (190, kX12_aBoy_190), (214, kX12_aBoy_214)])
def kX12_aQuarrel_0 : List qIns := [(.aload_n 0, 1, []), (.getfield 7, 3, [12, 0, 1726, 2]), (.sipush 1824, 3, [1824]), (.iaload, 1, []), (.istore_n 1, 1, []), (.sipush 1824, 3, [1824]), (.aload_n 0, 1, []), (.getfield 7, 3, [12, 0, 1726, 2]), (.sipush 1825, 3, [1825]), (.iaload, 1, []), (.invokestatic 204, 3, [245, 2013, 1, 0, 0]), (.iadd, 1, []), (.istore_n 2, 1, []), (.aload_n 0, 1, []), (.getfield 7, 3, [12, 0, 1726, 2]), (.sipush 1825, 3, [1825]), (.iaload, 1, []), (.bipush 10, 2, [10]), (.if_icmp .ne 10, 3, [45]), (.aload_n 0, 1, []), (.bipush 6, 2, [6]), (.invokevirtual 170, 3, [234, 1970, 2, 0, 13]), (.ireturn, 1, [1])]
def kX12_aQuarrel_45 : List qIns := [(.aload_n 0, 1, []), (.invokevirtual 164, 3, [231, 1939, 1, 2, 13]), (.aload_n 0, 1, []), (.bipush 32, 2, [32]), (.iload_n 1, 1, []), (.iload_n 2, 1, []), (.invokevirtual 207, 3, [247, 2016, 4, 0, 13]), (.ifCond .ne 5, 3, [62]), (.iconst 0, 1, [0]), (.ireturn, 1, [1])]
def kX12_aQuarrel_62 : List qIns := [(.aload_n 0, 1, []), (.ldc 181, 2, [1963, 1000, 2]), (.invokevirtual 183, 3, [239, 1993, 2, 0, 13]), (.ifCond .eq 25, 3, [93]), (.aload_n 0, 1, []), (.bipush 32, 2, [32]), (.iload_n 1, 1, []), (.invokevirtual 187, 3, [241, 1997, 3, 0, 13]), (.aload_n 0, 1, []), (.getfield 7, 3, [12, 0, 1726, 2]), (.iload_n 2, 1, []), (.iaload, 1, []), (.if_icmp .ne 9, 3, [93]), (.aload_n 0, 1, []), (.iconst 5, 1, [5]), (.invokevirtual 170, 3, [234, 1970, 2, 0, 13]), (.ireturn, 1, [1])]
def kX12_aQuarrel_93 : List qIns := [(.aload_n 0, 1, []), (.bipush 32, 2, [32]), (.iload_n 1, 1, []), (.iload_n 2, 1, []), (.iconst 1, 1, [1]), (.iadd, 1, []), (.invokevirtual 207, 3, [247, 2016, 4, 0, 13]), (.ifCond .eq 27, 3, [130]), (.aload_n 0, 1, []), (.ldc 181, 2, [1963, 1000, 2]), (.bipush 9, 2, [9]), (.invokevirtual 194, 3, [237, 1982, 3, 0, 13]), (.ifCond .eq 16, 3, [130]), (.aload_n 0, 1, []), (.iload_n 2, 1, []), (.iconst 2, 1, [2]), (.iadd, 1, []), (.iconst 0, 1, [0]), (.bipush 99, 2, [99]), (.invokevirtual 190, 3, [238, 1978, 4, 0, 13]), (.ifCond .ne 5, 3, [132]), (.nop, 0, [130])]
def kX12_aQuarrel_130 : List qIns := [(.iconst 0, 1, [0]), (.ireturn, 1, [1])]
def kX12_aQuarrel_132 : List qIns := [(.aload_n 0, 1, []), (.getfield 7, 3, [12, 0, 1726, 2]), (.sipush 1825, 3, [1825]), (.dup2, 1, []), (.iaload, 1, []), (.iconst 1, 1, [1]), (.iadd, 1, []), (.iastore, 1, []), (.iconst 1, 1, [1]), (.ireturn, 1, [1])]
def mX12_aQuarrel : qMI := (yX12_aQuarrel, cX12_aQuarrel, 3, (some .boolean), 12, [2012, 273, 2011, 59], 0, false, [(0, kX12_aQuarrel_0), (45, kX12_aQuarrel_45), (62, kX12_aQuarrel_62), (93, kX12_aQuarrel_93), (130, kX12_aQuarrel_130), (132, kX12_aQuarrel_132)])
def kX12_campPart_0 : List qIns := [(.aload_n 0, 1, []), (.ldc 181, 2, [1963, 1000, 2]), (.invokevirtual 173, 3, [233, 1964, 2, 0, 13]), (.istore_n 1, 1, []), (.iload_n 1, 1, []), (.ifCond .lt 8, 3, [16]), (.iload_n 1, 1, []), (.iconst 3, 1, [3]), (.if_icmp .le 9, 3, [22]), (.nop, 0, [16])]
def kX12_campPart_16 : List qIns := [(.aload_n 0, 1, []), (.iconst 2, 1, [2]), (.invokevirtual 170, 3, [234, 1970, 2, 0, 13]), (.ireturn, 1, [1])]
def kX12_campPart_22 : List qIns := [(.iload_n 1, 1, []), (.iconst 1, 1, [1]), (.if_icmp .gt 21, 3, [45]), (.aload_n 0, 1, []), (.getfield 210, 3, [12, 20, 1746, 0]), (.iload_n 1, 1, []), (.ishr, 1, []), (.iconst 1, 1, [1]), (.iand, 1, []), (.iconst 1, 1, [1]), (.if_icmp .ne 9, 3, [45]), (.aload_n 0, 1, []), (.iconst 5, 1, [5]), (.invokevirtual 170, 3, [234, 1970, 2, 0, 13]), (.ireturn, 1, [1])]
def kX12_campPart_45 : List qIns := [(.aload_n 0, 1, []), (.dup, 1, []), (.getfield 210, 3, [12, 20, 1746, 0]), (.iconst 1, 1, [1]), (.iload_n 1, 1, []), (.ishl, 1, []), (.iload_n 1, 1, []), (.iconst 2, 1, [2]), (.if_icmp .ne 7, 3, [62]), (.iconst 1, 1, [1]), (.goto 4, 3, [63])]
def kX12_campPart_62 : List qIns := [(.iconst 0, 1, [0]), (.nop, 0, [63])]
def kX12_campPart_63 : List qIns := [(.ior, 1, []), (.ior, 1, []), (.putfield 210, 3, [12, 20, 1746, 0]), (.iload_n 1, 1, []), (.iconst 1, 1, [1]), (.if_icmp .gt 7, 3, [77]), (.aload_n 0, 1, []), (.invokevirtual 164, 3, [231, 1939, 1, 2, 13]), (.nop, 0, [77])]
def kX12_campPart_77 : List qIns := [(.iload_n 1, 1, []), (.tableswitch 56 0 2 #[26, 34, 48], 26, [134, 104, 112, 126])]
def kX12_campPart_104 : List qIns := [(.aload_n 0, 1, []), (.invokevirtual 213, 3, [248, 1974, 1, 0, 13]), (.istore_n 2, 1, []), (.goto 30, 3, [139])]
def kX12_campPart_112 : List qIns := [(.aload_n 0, 1, []), (.sipush 1828, 3, [1828]), (.iconst 0, 1, [0]), (.bipush 16, 2, [16]), (.invokevirtual 190, 3, [238, 1978, 4, 0, 13]), (.istore_n 2, 1, []), (.goto 16, 3, [139])]
def kX12_campPart_126 : List qIns := [(.aload_n 0, 1, []), (.invokevirtual 217, 3, [249, 1986, 1, 0, 13]), (.istore_n 2, 1, []), (.goto 8, 3, [139])]
def kX12_campPart_134 : List qIns := [(.aload_n 0, 1, []), (.invokevirtual 220, 3, [250, 2009, 1, 0, 13]), (.istore_n 2, 1, []), (.nop, 0, [139])]
def kX12_campPart_139 : List qIns := [(.iload_n 2, 1, []), (.ifCond .eq 16, 3, [156]), (.aload_n 0, 1, []), (.bipush 59, 2, [59]), (.invokevirtual 223, 3, [236, 2020, 2, 0, 13]), (.ifCond .eq 7, 3, [156]), (.iconst 1, 1, [1]), (.goto 4, 3, [157])]
def kX12_campPart_156 : List qIns := [(.iconst 0, 1, [0]), (.nop, 0, [157])]
def kX12_campPart_157 : List qIns := [(.ireturn, 1, [1])]
def mX12_campPart : qMI := (yX12_campPart, cX12_campPart, 3, (some .boolean), 12, [1962, 273, 1961, 48], 0, false, [(0, kX12_campPart_0), (16, kX12_campPart_16), (22, kX12_campPart_22), (45, kX12_campPart_45), (62, kX12_campPart_62), (63, kX12_campPart_63), (77, kX12_campPart_77), (104, kX12_campPart_104), (112, kX12_campPart_112), (126, kX12_campPart_126), (134, kX12_campPart_134), (139, kX12_campPart_139), (156, kX12_campPart_156), (157, kX12_campPart_157)])
def kX12_camp_0 : List qIns := [(.aload_n 0, 1, []), (.iload_n 1, 1, []), (.sipush 900, 3, [900]), (.invokevirtual 226, 3, [235, 1935, 3, 0, 13]), (.ifCond .ne 9, 3, [17]), (.aload_n 0, 1, []), (.iconst 1, 1, [1]), (.invokevirtual 88, 3, [214, 1955, 2, 0, 13]), (.ireturn, 1, [0])]
def kX12_camp_17 : List qIns := [(.aload_n 0, 1, []), (.sipush 1824, 3, [1824]), (.invokevirtual 78, 3, [209, 1722, 2, 2, 13]), (.aload_n 0, 1, []), (.iconst 0, 1, [0]), (.putfield 210, 3, [12, 20, 1746, 0]), (.iconst 1, 1, [1]), (.istore_n 2, 1, []), (.nop, 0, [31])]
def kX12_camp_31 : List qIns := [(.iload_n 2, 1, []), (.ifCond .eq 18, 3, [50]), (.aload_n 0, 1, []), (.getfield 133, 3, [12, 12, 1738, 0]), (.ifCond .eq 11, 3, [50]), (.aload_n 0, 1, []), (.invokevirtual 230, 3, [251, 1959, 1, 0, 13]), (.istore_n 2, 1, []), (.goto (-16), 3, [31])]
def kX12_camp_50 : List qIns := [(.aload_n 0, 1, []), (.getfield 158, 3, [12, 18, 1744, 0]), (.ifCond .ne 63, 3, [117]), (.iconst 0, 1, [0]), (.istore_n 3, 1, []), (.nop, 0, [59])]
def kX12_camp_59 : List qIns := [(.iload_n 3, 1, []), (.sipush 456, 3, [456]), (.if_icmp .ge 25, 3, [88]), (.aload_n 0, 1, []), (.getfield 7, 3, [12, 0, 1726, 2]), (.iload_n 3, 1, []), (.aload_n 0, 1, []), (.getfield 7, 3, [12, 0, 1726, 2]), (.sipush 1824, 3, [1824]), (.iload_n 3, 1, []), (.iadd, 1, []), (.iaload, 1, []), (.iastore, 1, []), (.iinc 3 1, 3, [1]), (.goto (-26), 3, [59])]
def kX12_camp_88 : List qIns := [(.iconst 0, 1, [0]), (.istore_n 3, 1, []), (.nop, 0, [90])]
def kX12_camp_90 : List qIns := [(.iload_n 3, 1, []), (.bipush 8, 2, [8]), (.if_icmp .ge 24, 3, [117]), (.aload_n 0, 1, []), (.getfield 13, 3, [12, 1, 1727, 2]), (.iload_n 3, 1, []), (.aload_n 0, 1, []), (.getfield 13, 3, [12, 1, 1727, 2]), (.bipush 32, 2, [32]), (.iload_n 3, 1, []), (.iadd, 1, []), (.laload, 1, []), (.lastore, 1, []), (.iinc 3 1, 3, [1]), (.goto (-24), 3, [90])]
def kX12_camp_117 : List qIns := [(.aload_n 0, 1, []), (.aload_n 0, 1, []), (.getfield 7, 3, [12, 0, 1726, 2]), (.iconst 0, 1, [0]), (.iaload, 1, []), (.invokevirtual 233, 3, [243, 2028, 2, 0, 13]), (.ireturn, 1, [0])]
def mX12_camp : qMI := (yX12_camp, cX12_camp, 4, (some .int), 12, [1934, 273, 1932, 1933], 1, false, [(0, kX12_camp_0), (17, kX12_camp_17), (31, kX12_camp_31), (50, kX12_camp_50), (59, kX12_camp_59), (88, kX12_camp_88), (90, kX12_camp_90), (117, kX12_camp_117)])
def kX12_cells_0 : List qIns := [(.aload_n 0, 1, []), (.getfield 7, 3, [12, 0, 1726, 2]), (.iconst 2, 1, [2]), (.iaload, 1, []), (.aload_n 0, 1, []), (.getfield 7, 3, [12, 0, 1726, 2]), (.iconst 3, 1, [3]), (.iaload, 1, []), (.imul, 1, []), (.ireturn, 1, [0])]
def mX12_cells : qMI := (yX12_cells, cX12_cells, 1, (some .int), 12, [2071, 273, 2070, 68], 0, false, [(0, kX12_cells_0)])
def kX12_boyTo_0 : List qIns := [(.aload_n 0, 1, []), (.iconst 0, 1, [0]), (.aload_n 0, 1, []), (.getfield 7, 3, [12, 0, 1726, 2]), (.iconst 0, 1, [0]), (.iaload, 1, []), (.iload_n 1, 1, []), (.invokevirtual 207, 3, [247, 2016, 4, 0, 13]), (.ireturn, 1, [1])]
def mX12_boyTo : qMI := (yX12_boyTo, cX12_boyTo, 2, (some .boolean), 12, [2067, 273, 2066, 67], 1, false, [(0, kX12_boyTo_0)])
def kX12_test_0 : List qIns := [(.aload_n 0, 1, []), (.ldc 181, 2, [1963, 1000, 2]), (.invokevirtual 173, 3, [233, 1964, 2, 0, 13]), (.istore_n 2, 1, []), (.iload_n 2, 1, []), (.bipush 19, 2, [19]), (.if_icmp .ge 9, 3, [19]), (.aload_n 0, 1, []), (.iconst 2, 1, [2]), (.invokevirtual 170, 3, [234, 1970, 2, 0, 13]), (.ireturn, 1, [1])]
def kX12_test_19 : List qIns := [(.aload_n 0, 1, []), (.getfield 7, 3, [12, 0, 1726, 2]), (.iload_n 1, 1, []), (.sipush 1500, 3, [1500]), (.iload_n 2, 1, []), (.iadd, 1, []), (.iastore, 1, []), (.aload_n 0, 1, []), (.invokevirtual 164, 3, [231, 1939, 1, 2, 13]), (.iload_n 2, 1, []), (.bipush 19, 2, [19]), (.if_icmp .ne 11, 3, [48]), (.aload_n 0, 1, []), (.iload_n 1, 1, []), (.iconst 1, 1, [1]), (.iadd, 1, []), (.invokevirtual 236, 3, [254, 2064, 2, 0, 13]), (.ireturn, 1, [1])]
def kX12_test_48 : List qIns := [(.aload_n 0, 1, []), (.bipush 60, 2, [60]), (.invokevirtual 167, 3, [232, 2024, 2, 0, 13]), (.ifCond .ne 27, 3, [81]), (.aload_n 0, 1, []), (.bipush 62, 2, [62]), (.invokevirtual 167, 3, [232, 2024, 2, 0, 13]), (.ifCond .ne 18, 3, [81]), (.aload_n 0, 1, []), (.bipush 61, 2, [61]), (.invokevirtual 167, 3, [232, 2024, 2, 0, 13]), (.ifCond .ne 9, 3, [81]), (.aload_n 0, 1, []), (.iconst 2, 1, [2]), (.invokevirtual 170, 3, [234, 1970, 2, 0, 13]), (.ireturn, 1, [1])]
def kX12_test_81 : List qIns := [(.aload_n 0, 1, []), (.getfield 7, 3, [12, 0, 1726, 2]), (.iload_n 1, 1, []), (.iconst 5, 1, [5]), (.iadd, 1, []), (.aload_n 0, 1, []), (.getfield 130, 3, [12, 15, 1741, 0]), (.iastore, 1, []), (.aload_n 0, 1, []), (.invokevirtual 164, 3, [231, 1939, 1, 2, 13]), (.aload_n 0, 1, []), (.iload_n 1, 1, []), (.iconst 2, 1, [2]), (.iadd, 1, []), (.iconst 0, 1, [0]), (.iload_n 2, 1, []), (.bipush 20, 2, [20]), (.if_icmp .ne 8, 3, [113]), (.bipush 10, 2, [10]), (.goto 6, 3, [116])]
def kX12_test_113 : List qIns := [(.sipush 9999, 3, [9999]), (.nop, 0, [116])]
def kX12_test_116 : List qIns := [(.invokevirtual 190, 3, [238, 1978, 4, 0, 13]), (.ireturn, 1, [1])]
def mX12_test : qMI := (yX12_test, cX12_test, 3, (some .boolean), 12, [2075, 273, 2074, 69], 1, false, [(0, kX12_test_0), (19, kX12_test_19), (48, kX12_test_48), (81, kX12_test_81), (113, kX12_test_113), (116, kX12_test_116)])
def kX12_weekOrder_0 : List qIns := [(.iload_n 1, 1, []), (.tableswitch 179 3 16 #[82, 179, 179, 179, 179, 179, 179, 71, 179, 121, 129, 179, 173, 162], 71, [180, 83, 180, 180, 180, 180, 180, 180, 72, 180, 122, 130, 180, 174, 163])]
def kX12_weekOrder_72 : List qIns := [(.aload_n 0, 1, []), (.iload_n 2, 1, []), (.iconst 1, 1, [1]), (.iadd, 1, []), (.iconst 1, 1, [1]), (.bipush 60, 2, [60]), (.invokevirtual 190, 3, [238, 1978, 4, 0, 13]), (.ireturn, 1, [1])]
def kX12_weekOrder_83 : List qIns := [(.aload_n 0, 1, []), (.iload_n 2, 1, []), (.iconst 1, 1, [1]), (.iadd, 1, []), (.invokevirtual 236, 3, [254, 2064, 2, 0, 13]), (.ifCond .eq 30, 3, [120]), (.aload_n 0, 1, []), (.iload_n 2, 1, []), (.iconst 2, 1, [2]), (.iadd, 1, []), (.invokevirtual 236, 3, [254, 2064, 2, 0, 13]), (.ifCond .eq 20, 3, [120]), (.aload_n 0, 1, []), (.iload_n 2, 1, []), (.iconst 3, 1, [3]), (.iadd, 1, []), (.iconst 0, 1, [0]), (.bipush 99, 2, [99]), (.invokevirtual 190, 3, [238, 1978, 4, 0, 13]), (.ifCond .eq 7, 3, [120]), (.iconst 1, 1, [1]), (.goto 4, 3, [121])]
def kX12_weekOrder_120 : List qIns := [(.iconst 0, 1, [0]), (.nop, 0, [121])]
def kX12_weekOrder_121 : List qIns := [(.ireturn, 1, [1])]
def kX12_weekOrder_122 : List qIns := [(.aload_n 0, 1, []), (.iload_n 2, 1, []), (.iconst 1, 1, [1]), (.iadd, 1, []), (.invokevirtual 236, 3, [254, 2064, 2, 0, 13]), (.ireturn, 1, [1])]
def kX12_weekOrder_130 : List qIns := [(.aload_n 0, 1, []), (.iload_n 2, 1, []), (.iconst 1, 1, [1]), (.iadd, 1, []), (.invokevirtual 236, 3, [254, 2064, 2, 0, 13]), (.ifCond .eq 24, 3, [161]), (.aload_n 0, 1, []), (.iload_n 2, 1, []), (.iconst 2, 1, [2]), (.iadd, 1, []), (.iconst 0, 1, [0]), (.aload_n 0, 1, []), (.invokevirtual 239, 3, [253, 2068, 1, 0, 13]), (.iconst 1, 1, [1]), (.isub, 1, []), (.invokevirtual 190, 3, [238, 1978, 4, 0, 13]), (.ifCond .eq 7, 3, [161]), (.iconst 1, 1, [1]), (.goto 4, 3, [162])]
def kX12_weekOrder_161 : List qIns := [(.iconst 0, 1, [0]), (.nop, 0, [162])]
def kX12_weekOrder_162 : List qIns := [(.ireturn, 1, [1])]
def kX12_weekOrder_163 : List qIns := [(.aload_n 0, 1, []), (.iload_n 2, 1, []), (.iconst 1, 1, [1]), (.iadd, 1, []), (.iconst 1, 1, [1]), (.bipush 99, 2, [99]), (.invokevirtual 190, 3, [238, 1978, 4, 0, 13]), (.ireturn, 1, [1])]
def kX12_weekOrder_174 : List qIns := [(.aload_n 0, 1, []), (.iload_n 2, 1, []), (.invokevirtual 242, 3, [255, 2072, 2, 0, 13]), (.ireturn, 1, [1])]
def kX12_weekOrder_180 : List qIns := [(.iconst 1, 1, [1]), (.ireturn, 1, [1])]
def mX12_weekOrder : qMI := (yX12_weekOrder, cX12_weekOrder, 3, (some .boolean), 12, [2063, 273, 2062, 66], 2, false, [(0, kX12_weekOrder_0), (72, kX12_weekOrder_72), (83, kX12_weekOrder_83), (120, kX12_weekOrder_120), (121, kX12_weekOrder_121), (122, kX12_weekOrder_122), (130, kX12_weekOrder_130), (161, kX12_weekOrder_161), (162, kX12_weekOrder_162), (163, kX12_weekOrder_163), (174, kX12_weekOrder_174), (180, kX12_weekOrder_180)])
def kX12_weekStep_0 : List qIns := [(.aload_n 0, 1, []), (.ldc 181, 2, [1963, 1000, 2]), (.invokevirtual 173, 3, [233, 1964, 2, 0, 13]), (.istore_n 1, 1, []), (.aload_n 0, 1, []), (.getfield 7, 3, [12, 0, 1726, 2]), (.sipush 1830, 3, [1830]), (.iaload, 1, []), (.istore_n 2, 1, []), (.sipush 1912, 3, [1912]), (.bipush 6, 2, [6]), (.iload_n 2, 1, []), (.imul, 1, []), (.iadd, 1, []), (.istore_n 3, 1, []), (.iload_n 1, 1, []), (.bipush 15, 2, [15]), (.if_icmp .eq 9, 3, [37]), (.iload_n 1, 1, []), (.bipush 16, 2, [16]), (.if_icmp .ne 7, 3, [41]), (.nop, 0, [37])]
def kX12_weekStep_37 : List qIns := [(.iconst 1, 1, [1]), (.goto 4, 3, [42])]
def kX12_weekStep_41 : List qIns := [(.iconst 0, 1, [0]), (.nop, 0, [42])]
def kX12_weekStep_42 : List qIns := [(.istore 4, 2, []), (.iload_n 1, 1, []), (.iconst 3, 1, [3]), (.if_icmp .eq 15, 3, [61]), (.iload_n 1, 1, []), (.bipush 10, 2, [10]), (.if_icmp .lt 22, 3, [74]), (.iload_n 1, 1, []), (.bipush 18, 2, [18]), (.if_icmp .gt 16, 3, [74]), (.nop, 0, [61])]
def kX12_weekStep_61 : List qIns := [(.iload_n 1, 1, []), (.bipush 17, 2, [17]), (.if_icmp .ne 16, 3, [80]), (.aload_n 0, 1, []), (.getfield 245, 3, [12, 22, 1748, 0]), (.ifCond .ne 9, 3, [80]), (.nop, 0, [74])]
def kX12_weekStep_74 : List qIns := [(.aload_n 0, 1, []), (.iconst 2, 1, [2]), (.invokevirtual 170, 3, [234, 1970, 2, 0, 13]), (.ireturn, 1, [1])]
def kX12_weekStep_80 : List qIns := [(.iload_n 1, 1, []), (.bipush 17, 2, [17]), (.if_icmp .eq 19, 3, [102]), (.aload_n 0, 1, []), (.getfield 248, 3, [12, 23, 1749, 0]), (.bipush 30, 2, [30]), (.if_icmp .ne 10, 3, [102]), (.aload_n 0, 1, []), (.bipush 6, 2, [6]), (.invokevirtual 170, 3, [234, 1970, 2, 0, 13]), (.ireturn, 1, [1])]
def kX12_weekStep_102 : List qIns := [(.iload 4, 2, []), (.ifCond .eq 18, 3, [122]), (.aload_n 0, 1, []), (.getfield 245, 3, [12, 22, 1748, 0]), (.iconst 3, 1, [3]), (.if_icmp .ne 10, 3, [122]), (.aload_n 0, 1, []), (.bipush 7, 2, [7]), (.invokevirtual 170, 3, [234, 1970, 2, 0, 13]), (.ireturn, 1, [1])]
def kX12_weekStep_122 : List qIns := [(.aload_n 0, 1, []), (.dup, 1, []), (.getfield 248, 3, [12, 23, 1749, 0]), (.iload_n 1, 1, []), (.bipush 17, 2, [17]), (.if_icmp .ne 7, 3, [137]), (.iconst 0, 1, [0]), (.goto 4, 3, [138])]
def kX12_weekStep_137 : List qIns := [(.iconst 1, 1, [1]), (.nop, 0, [138])]
def kX12_weekStep_138 : List qIns := [(.iadd, 1, []), (.putfield 248, 3, [12, 23, 1749, 0]), (.aload_n 0, 1, []), (.getfield 7, 3, [12, 0, 1726, 2]), (.iload_n 3, 1, []), (.iload_n 1, 1, []), (.iastore, 1, []), (.iconst 1, 1, [1]), (.istore 5, 2, []), (.nop, 0, [152])]
def kX12_weekStep_152 : List qIns := [(.iload 5, 2, []), (.bipush 6, 2, [6]), (.if_icmp .ge 19, 3, [175]), (.aload_n 0, 1, []), (.getfield 7, 3, [12, 0, 1726, 2]), (.iload_n 3, 1, []), (.iload 5, 2, []), (.iadd, 1, []), (.iconst 0, 1, [0]), (.iastore, 1, []), (.iinc 5 1, 3, [1]), (.goto (-20), 3, [152])]
def kX12_weekStep_175 : List qIns := [(.aload_n 0, 1, []), (.getfield 7, 3, [12, 0, 1726, 2]), (.sipush 1830, 3, [1830]), (.dup2, 1, []), (.iaload, 1, []), (.iconst 1, 1, [1]), (.iadd, 1, []), (.iastore, 1, []), (.aload_n 0, 1, []), (.invokevirtual 164, 3, [231, 1939, 1, 2, 13]), (.aload_n 0, 1, []), (.iload_n 1, 1, []), (.iload_n 3, 1, []), (.invokevirtual 251, 3, [256, 2060, 3, 0, 13]), (.ifCond .ne 5, 3, [202]), (.iconst 0, 1, [0]), (.ireturn, 1, [1])]
def kX12_weekStep_202 : List qIns := [(.iload 4, 2, []), (.ifCond .eq 23, 3, [227]), (.aload_n 0, 1, []), (.getfield 44, 3, [12, 21, 1747, 2]), (.aload_n 0, 1, []), (.getfield 245, 3, [12, 22, 1748, 0]), (.iload_n 2, 1, []), (.iastore, 1, []), (.aload_n 0, 1, []), (.dup, 1, []), (.getfield 245, 3, [12, 22, 1748, 0]), (.iconst 1, 1, [1]), (.iadd, 1, []), (.putfield 245, 3, [12, 22, 1748, 0]), (.nop, 0, [227])]
def kX12_weekStep_227 : List qIns := [(.iload_n 1, 1, []), (.bipush 17, 2, [17]), (.if_icmp .ne 54, 3, [284]), (.aload_n 0, 1, []), (.dup, 1, []), (.getfield 245, 3, [12, 22, 1748, 0]), (.iconst 1, 1, [1]), (.isub, 1, []), (.putfield 245, 3, [12, 22, 1748, 0]), (.aload_n 0, 1, []), (.getfield 7, 3, [12, 0, 1726, 2]), (.iload_n 3, 1, []), (.iconst 4, 1, [4]), (.iadd, 1, []), (.aload_n 0, 1, []), (.getfield 44, 3, [12, 21, 1747, 2]), (.aload_n 0, 1, []), (.getfield 245, 3, [12, 22, 1748, 0]), (.iaload, 1, []), (.iastore, 1, []), (.aload_n 0, 1, []), (.getfield 7, 3, [12, 0, 1726, 2]), (.sipush 1912, 3, [1912]), (.bipush 6, 2, [6]), (.aload_n 0, 1, []), (.getfield 44, 3, [12, 21, 1747, 2]), (.aload_n 0, 1, []), (.getfield 245, 3, [12, 22, 1748, 0]), (.iaload, 1, []), (.imul, 1, []), (.iadd, 1, []), (.iconst 4, 1, [4]), (.iadd, 1, []), (.iload_n 2, 1, []), (.iastore, 1, []), (.nop, 0, [284])]
def kX12_weekStep_284 : List qIns := [(.aload_n 0, 1, []), (.bipush 59, 2, [59]), (.invokevirtual 223, 3, [236, 2020, 2, 0, 13]), (.ireturn, 1, [1])]
def mX12_weekStep : qMI := (yX12_weekStep, cX12_weekStep, 6, (some .boolean), 12, [2059, 273, 2058, 65], 0, false, [(0, kX12_weekStep_0), (37, kX12_weekStep_37), (41, kX12_weekStep_41), (42, kX12_weekStep_42), (61, kX12_weekStep_61), (74, kX12_weekStep_74), (80, kX12_weekStep_80), (102, kX12_weekStep_102), (122, kX12_weekStep_122), (137, kX12_weekStep_137), (138, kX12_weekStep_138), (152, kX12_weekStep_152), (175, kX12_weekStep_175), (202, kX12_weekStep_202), (227, kX12_weekStep_227), (284, kX12_weekStep_284)])
def kX12_weeks_0 : List qIns := [(.aload_n 0, 1, []), (.iload_n 1, 1, []), (.sipush 300, 3, [300]), (.invokevirtual 226, 3, [235, 1935, 3, 0, 13]), (.ifCond .ne 9, 3, [17]), (.aload_n 0, 1, []), (.iconst 1, 1, [1]), (.invokevirtual 88, 3, [214, 1955, 2, 0, 13]), (.ireturn, 1, [0])]
def kX12_weeks_17 : List qIns := [(.aload_n 0, 1, []), (.getfield 7, 3, [12, 0, 1726, 2]), (.sipush 1830, 3, [1830]), (.iconst 0, 1, [0]), (.iastore, 1, []), (.aload_n 0, 1, []), (.iconst 0, 1, [0]), (.putfield 245, 3, [12, 22, 1748, 0]), (.aload_n 0, 1, []), (.iconst 0, 1, [0]), (.putfield 248, 3, [12, 23, 1749, 0]), (.iconst 1, 1, [1]), (.istore_n 2, 1, []), (.nop, 0, [38])]
def kX12_weeks_38 : List qIns := [(.iload_n 2, 1, []), (.ifCond .eq 18, 3, [57]), (.aload_n 0, 1, []), (.getfield 133, 3, [12, 12, 1738, 0]), (.ifCond .eq 11, 3, [57]), (.aload_n 0, 1, []), (.invokevirtual 254, 3, [257, 2056, 1, 0, 13]), (.istore_n 2, 1, []), (.goto (-16), 3, [38])]
def kX12_weeks_57 : List qIns := [(.aload_n 0, 1, []), (.getfield 158, 3, [12, 18, 1744, 0]), (.ifCond .ne 16, 3, [77]), (.aload_n 0, 1, []), (.getfield 245, 3, [12, 22, 1748, 0]), (.ifCond .le 9, 3, [77]), (.aload_n 0, 1, []), (.iconst 2, 1, [2]), (.invokevirtual 170, 3, [234, 1970, 2, 0, 13]), (.pop, 1, []), (.nop, 0, [77])]
def kX12_weeks_77 : List qIns := [(.aload_n 0, 1, []), (.getfield 158, 3, [12, 18, 1744, 0]), (.ifCond .ne 50, 3, [131]), (.aload_n 0, 1, []), (.getfield 7, 3, [12, 0, 1726, 2]), (.bipush 6, 2, [6]), (.aload_n 0, 1, []), (.getfield 7, 3, [12, 0, 1726, 2]), (.sipush 1830, 3, [1830]), (.iaload, 1, []), (.iastore, 1, []), (.bipush 88, 2, [88]), (.istore_n 3, 1, []), (.nop, 0, [102])]
def kX12_weeks_102 : List qIns := [(.iload_n 3, 1, []), (.sipush 448, 3, [448]), (.if_icmp .ge 25, 3, [131]), (.aload_n 0, 1, []), (.getfield 7, 3, [12, 0, 1726, 2]), (.iload_n 3, 1, []), (.aload_n 0, 1, []), (.getfield 7, 3, [12, 0, 1726, 2]), (.sipush 1824, 3, [1824]), (.iload_n 3, 1, []), (.iadd, 1, []), (.iaload, 1, []), (.iastore, 1, []), (.iinc 3 1, 3, [1]), (.goto (-26), 3, [102])]
def kX12_weeks_131 : List qIns := [(.aload_n 0, 1, []), (.aload_n 0, 1, []), (.getfield 248, 3, [12, 23, 1749, 0]), (.invokevirtual 233, 3, [243, 2028, 2, 0, 13]), (.ireturn, 1, [0])]
def mX12_weeks : qMI := (yX12_weeks, cX12_weeks, 4, (some .int), 12, [2055, 273, 2053, 2054], 1, false, [(0, kX12_weeks_0), (17, kX12_weeks_17), (38, kX12_weeks_38), (57, kX12_weeks_57), (77, kX12_weeks_77), (102, kX12_weeks_102), (131, kX12_weeks_131)])
def kX12_isBoy_0 : List qIns := [(.lload_n 1, 1, []), (.lconst 0, 1, []), (.lcmp, 1, []), (.ifCond .lt 19, 3, [22]), (.lload_n 1, 1, []), (.aload_n 0, 1, []), (.getfield 7, 3, [12, 0, 1726, 2]), (.iconst 0, 1, [0]), (.iaload, 1, []), (.i2l, 1, []), (.lcmp, 1, []), (.ifCond .ge 7, 3, [22]), (.iconst 1, 1, [1]), (.goto 4, 3, [23])]
def kX12_isBoy_22 : List qIns := [(.iconst 0, 1, [0]), (.nop, 0, [23])]
def kX12_isBoy_23 : List qIns := [(.ireturn, 1, [1])]
def mX12_isBoy : qMI := (yX12_isBoy, cX12_isBoy, 3, (some .boolean), 12, [2119, 273, 2118, 78], 1, false, [(0, kX12_isBoy_0), (22, kX12_isBoy_22), (23, kX12_isBoy_23)])
def kX12_isQuarrel_0 : List qIns := [(.iload_n 1, 1, []), (.ifCond .lt 17, 3, [18]), (.iload_n 1, 1, []), (.aload_n 0, 1, []), (.getfield 7, 3, [12, 0, 1726, 2]), (.iconst 1, 1, [1]), (.iaload, 1, []), (.if_icmp .ge 7, 3, [18]), (.iconst 1, 1, [1]), (.goto 4, 3, [19])]
def kX12_isQuarrel_18 : List qIns := [(.iconst 0, 1, [0]), (.nop, 0, [19])]
def kX12_isQuarrel_19 : List qIns := [(.ireturn, 1, [1])]
def mX12_isQuarrel : qMI := (yX12_isQuarrel, cX12_isQuarrel, 2, (some .boolean), 12, [2134, 273, 2133, 80], 1, false, [(0, kX12_isQuarrel_0), (18, kX12_isQuarrel_18), (19, kX12_isQuarrel_19)])
def kX12_isCell_0 : List qIns := [(.iload_n 1, 1, []), (.ifCond .lt 15, 3, [16]), (.iload_n 1, 1, []), (.aload_n 0, 1, []), (.invokevirtual 239, 3, [253, 2068, 1, 0, 13]), (.if_icmp .ge 7, 3, [16]), (.iconst 1, 1, [1]), (.goto 4, 3, [17])]
def kX12_isCell_16 : List qIns := [(.iconst 0, 1, [0]), (.nop, 0, [17])]
def kX12_isCell_17 : List qIns := [(.ireturn, 1, [1])]
def mX12_isCell : qMI := (yX12_isCell, cX12_isCell, 2, (some .boolean), 12, [2202, 273, 2201, 90], 1, false, [(0, kX12_isCell_0), (16, kX12_isCell_16), (17, kX12_isCell_17)])
def kX12_isIn_0 : List qIns := [(.iload_n 1, 1, []), (.iload_n 2, 1, []), (.ishr, 1, []), (.iconst 1, 1, [1]), (.iand, 1, []), (.iconst 1, 1, [1]), (.if_icmp .ne 7, 3, [13]), (.iconst 1, 1, [1]), (.goto 4, 3, [14])]
def kX12_isIn_13 : List qIns := [(.iconst 0, 1, [0]), (.nop, 0, [14])]
def kX12_isIn_14 : List qIns := [(.ireturn, 1, [1])]
def mX12_isIn : qMI := (yX12_isIn, cX12_isIn, 3, (some .boolean), 12, [2103, 273, 2102, 75], 2, false, [(0, kX12_isIn_0), (13, kX12_isIn_13), (14, kX12_isIn_14)])
def kX12_bits_0 : List qIns := [(.iconst 0, 1, [0]), (.istore_n 1, 1, []), (.iload_n 0, 1, []), (.istore_n 2, 1, []), (.nop, 0, [4])]
def kX12_bits_4 : List qIns := [(.iload_n 2, 1, []), (.ifCond .eq 15, 3, [20]), (.iinc 1 1, 3, [1]), (.iload_n 2, 1, []), (.iload_n 2, 1, []), (.iconst 1, 1, [1]), (.isub, 1, []), (.iand, 1, []), (.istore_n 2, 1, []), (.goto (-13), 3, [4])]
def kX12_bits_20 : List qIns := [(.iload_n 1, 1, []), (.ireturn, 1, [0])]
def mX12_bits : qMI := (yX12_bits, cX12_bits, 3, (some .int), 12, [2122, 273, 2121], 1, true, [(0, kX12_bits_0), (4, kX12_bits_4), (20, kX12_bits_20)])
def kX12_boyOf_0 : List qIns := [(.aload_n 0, 1, []), (.getfield 7, 3, [12, 0, 1726, 2]), (.iload_n 1, 1, []), (.invokestatic 198, 3, [244, 1990, 1, 0, 0]), (.iload_n 2, 1, []), (.iadd, 1, []), (.iaload, 1, []), (.ireturn, 1, [0])]
def mX12_boyOf : qMI := (yX12_boyOf, cX12_boyOf, 3, (some .int), 12, [2126, 273, 2125, 79], 2, false, [(0, kX12_boyOf_0)])
def kX12_quarrelOf_0 : List qIns := [(.aload_n 0, 1, []), (.getfield 7, 3, [12, 0, 1726, 2]), (.iload_n 1, 1, []), (.invokestatic 204, 3, [245, 2013, 1, 0, 0]), (.iload_n 2, 1, []), (.iadd, 1, []), (.iaload, 1, []), (.ireturn, 1, [0])]
def mX12_quarrelOf : qMI := (yX12_quarrelOf, cX12_quarrelOf, 3, (some .int), 12, [2095, 273, 2094, 73], 2, false, [(0, kX12_quarrelOf_0)])
def kX12_isOpen_0 : List qIns := [(.aload_n 0, 1, []), (.iload_n 1, 1, []), (.iconst 3, 1, [3]), (.invokevirtual 257, 3, [265, 2092, 3, 0, 13]), (.ifCond .ne 7, 3, [13]), (.iconst 1, 1, [1]), (.goto 4, 3, [14])]
def kX12_isOpen_13 : List qIns := [(.iconst 0, 1, [0]), (.nop, 0, [14])]
def kX12_isOpen_14 : List qIns := [(.ireturn, 1, [1])]
def mX12_isOpen : qMI := (yX12_isOpen, cX12_isOpen, 2, (some .boolean), 12, [2091, 273, 2090, 72], 1, false, [(0, kX12_isOpen_0), (13, kX12_isOpen_13), (14, kX12_isOpen_14)])
def kX12_both_0 : List qIns := [(.iconst 1, 1, [1]), (.aload_n 0, 1, []), (.iload_n 1, 1, []), (.iconst 0, 1, [0]), (.invokevirtual 257, 3, [265, 2092, 3, 0, 13]), (.ishl, 1, []), (.iconst 1, 1, [1]), (.aload_n 0, 1, []), (.iload_n 1, 1, []), (.iconst 1, 1, [1]), (.invokevirtual 257, 3, [265, 2092, 3, 0, 13]), (.ishl, 1, []), (.ior, 1, []), (.ireturn, 1, [0])]
def mX12_both : qMI := (yX12_both, cX12_both, 2, (some .int), 12, [2099, 273, 2098, 74], 1, false, [(0, kX12_both_0)])
def kX12_openOnes_0 : List qIns := [(.iconst 0, 1, [0]), (.istore_n 1, 1, []), (.iconst 0, 1, [0]), (.istore_n 2, 1, []), (.nop, 0, [4])]
def kX12_openOnes_4 : List qIns := [(.iload_n 2, 1, []), (.aload_n 0, 1, []), (.getfield 7, 3, [12, 0, 1726, 2]), (.iconst 1, 1, [1]), (.iaload, 1, []), (.if_icmp .ge 23, 3, [34]), (.aload_n 0, 1, []), (.iload_n 2, 1, []), (.invokevirtual 260, 3, [266, 2088, 2, 0, 13]), (.ifCond .eq 9, 3, [28]), (.iload_n 1, 1, []), (.iconst 1, 1, [1]), (.iload_n 2, 1, []), (.ishl, 1, []), (.ior, 1, []), (.istore_n 1, 1, []), (.nop, 0, [28])]
def kX12_openOnes_28 : List qIns := [(.iinc 2 1, 3, [1]), (.goto (-27), 3, [4])]
def kX12_openOnes_34 : List qIns := [(.iload_n 1, 1, []), (.ireturn, 1, [0])]
def mX12_openOnes : qMI := (yX12_openOnes, cX12_openOnes, 3, (some .int), 12, [2107, 273, 2106, 76], 0, false, [(0, kX12_openOnes_0), (4, kX12_openOnes_4), (28, kX12_openOnes_28), (34, kX12_openOnes_34)])
def kX12_openOf_0 : List qIns := [(.iconst 0, 1, [0]), (.istore_n 2, 1, []), (.iconst 0, 1, [0]), (.istore_n 3, 1, []), (.nop, 0, [4])]
def kX12_openOf_4 : List qIns := [(.iload_n 3, 1, []), (.aload_n 0, 1, []), (.getfield 7, 3, [12, 0, 1726, 2]), (.iconst 1, 1, [1]), (.iaload, 1, []), (.if_icmp .ge 36, 3, [47]), (.aload_n 0, 1, []), (.iload_n 3, 1, []), (.invokevirtual 260, 3, [266, 2088, 2, 0, 13]), (.ifCond .eq 22, 3, [41]), (.aload_n 0, 1, []), (.aload_n 0, 1, []), (.iload_n 3, 1, []), (.invokevirtual 263, 3, [267, 2096, 2, 0, 13]), (.iload_n 1, 1, []), (.invokevirtual 266, 3, [262, 2100, 3, 0, 13]), (.ifCond .eq 9, 3, [41]), (.iload_n 2, 1, []), (.iconst 1, 1, [1]), (.iload_n 3, 1, []), (.ishl, 1, []), (.ior, 1, []), (.istore_n 2, 1, []), (.nop, 0, [41])]
def kX12_openOf_41 : List qIns := [(.iinc 3 1, 3, [1]), (.goto (-40), 3, [4])]
def kX12_openOf_47 : List qIns := [(.iload_n 2, 1, []), (.ireturn, 1, [0])]
def mX12_openOf : qMI := (yX12_openOf, cX12_openOf, 4, (some .int), 12, [2087, 273, 2086, 71], 1, false, [(0, kX12_openOf_0), (4, kX12_openOf_4), (41, kX12_openOf_41), (47, kX12_openOf_47)])
def kX12_areUp_0 : List qIns := [(.iconst 0, 1, [0]), (.istore_n 1, 1, []), (.iconst 0, 1, [0]), (.istore_n 2, 1, []), (.nop, 0, [4])]
def kX12_areUp_4 : List qIns := [(.iload_n 2, 1, []), (.aload_n 0, 1, []), (.getfield 7, 3, [12, 0, 1726, 2]), (.iconst 0, 1, [0]), (.iaload, 1, []), (.if_icmp .ge 23, 3, [34]), (.aload_n 0, 1, []), (.iload_n 2, 1, []), (.invokevirtual 269, 3, [269, 2084, 2, 0, 13]), (.ifCond .ne 9, 3, [28]), (.iload_n 1, 1, []), (.iconst 1, 1, [1]), (.iload_n 2, 1, []), (.ishl, 1, []), (.ior, 1, []), (.istore_n 1, 1, []), (.nop, 0, [28])]
def kX12_areUp_28 : List qIns := [(.iinc 2 1, 3, [1]), (.goto (-27), 3, [4])]
def kX12_areUp_34 : List qIns := [(.iload_n 1, 1, []), (.ireturn, 1, [0])]
def mX12_areUp : qMI := (yX12_areUp, cX12_areUp, 3, (some .int), 12, [2083, 273, 2082, 70], 0, false, [(0, kX12_areUp_0), (4, kX12_areUp_4), (28, kX12_areUp_28), (34, kX12_areUp_34)])
def kX12_off_0 : List qIns := [(.iload_n 0, 1, []), (.ifCond .ge 8, 3, [9]), (.iload_n 0, 1, []), (.ineg, 1, []), (.goto 4, 3, [10])]
def kX12_off_9 : List qIns := [(.iload_n 0, 1, []), (.nop, 0, [10])]
def kX12_off_10 : List qIns := [(.ireturn, 1, [0])]
def mX12_off : qMI := (yX12_off, cX12_off, 1, (some .int), 12, [2165, 273, 2164], 1, true, [(0, kX12_off_0), (9, kX12_off_9), (10, kX12_off_10)])
def kX12_apartOf_0 : List qIns := [(.aload_n 0, 1, []), (.iload_n 1, 1, []), (.iconst 0, 1, [0]), (.invokevirtual 272, 3, [264, 2123, 3, 0, 13]), (.istore_n 3, 1, []), (.aload_n 0, 1, []), (.iload_n 2, 1, []), (.iconst 0, 1, [0]), (.invokevirtual 272, 3, [264, 2123, 3, 0, 13]), (.istore 4, 2, []), (.iload_n 3, 1, []), (.aload_n 0, 1, []), (.getfield 7, 3, [12, 0, 1726, 2]), (.iconst 2, 1, [2]), (.iaload, 1, []), (.irem, 1, []), (.iload 4, 2, []), (.aload_n 0, 1, []), (.getfield 7, 3, [12, 0, 1726, 2]), (.iconst 2, 1, [2]), (.iaload, 1, []), (.irem, 1, []), (.isub, 1, []), (.invokestatic 275, 3, [271, 2163, 1, 0, 0]), (.iload_n 3, 1, []), (.aload_n 0, 1, []), (.getfield 7, 3, [12, 0, 1726, 2]), (.iconst 2, 1, [2]), (.iaload, 1, []), (.idiv, 1, []), (.iload 4, 2, []), (.aload_n 0, 1, []), (.getfield 7, 3, [12, 0, 1726, 2]), (.iconst 2, 1, [2]), (.iaload, 1, []), (.idiv, 1, []), (.isub, 1, []), (.invokestatic 275, 3, [271, 2163, 1, 0, 0]), (.iadd, 1, []), (.ireturn, 1, [0])]
def mX12_apartOf : qMI := (yX12_apartOf, cX12_apartOf, 5, (some .int), 12, [2162, 273, 2161, 85], 2, false, [(0, kX12_apartOf_0)])
def kX12_nearOf_0 : List qIns := [(.iconst 0, 1, [0]), (.istore_n 2, 1, []), (.iconst 0, 1, [0]), (.istore_n 3, 1, []), (.nop, 0, [4])]
def kX12_nearOf_4 : List qIns := [(.iload_n 3, 1, []), (.aload_n 0, 1, []), (.getfield 7, 3, [12, 0, 1726, 2]), (.iconst 0, 1, [0]), (.iaload, 1, []), (.if_icmp .ge 35, 3, [46]), (.iload_n 3, 1, []), (.iload_n 1, 1, []), (.if_icmp .eq 24, 3, [40]), (.aload_n 0, 1, []), (.iload_n 3, 1, []), (.iload_n 1, 1, []), (.invokevirtual 278, 3, [272, 2159, 3, 0, 13]), (.aload_n 0, 1, []), (.iload_n 1, 1, []), (.iconst 3, 1, [3]), (.invokevirtual 272, 3, [264, 2123, 3, 0, 13]), (.if_icmp .gt 9, 3, [40]), (.iload_n 2, 1, []), (.iconst 1, 1, [1]), (.iload_n 3, 1, []), (.ishl, 1, []), (.ior, 1, []), (.istore_n 2, 1, []), (.nop, 0, [40])]
def kX12_nearOf_40 : List qIns := [(.iinc 3 1, 3, [1]), (.goto (-39), 3, [4])]
def kX12_nearOf_46 : List qIns := [(.iload_n 2, 1, []), (.ireturn, 1, [0])]
def mX12_nearOf : qMI := (yX12_nearOf, cX12_nearOf, 4, (some .int), 12, [2158, 273, 2157, 84], 1, false, [(0, kX12_nearOf_0), (4, kX12_nearOf_4), (40, kX12_nearOf_40), (46, kX12_nearOf_46)])
def kX12_dueOf_0 : List qIns := [(.aload_n 0, 1, []), (.iload_n 2, 1, []), (.iconst 2, 1, [2]), (.invokevirtual 257, 3, [265, 2092, 3, 0, 13]), (.aload_n 0, 1, []), (.iload_n 1, 1, []), (.iconst 1, 1, [1]), (.invokevirtual 272, 3, [264, 2123, 3, 0, 13]), (.iadd, 1, []), (.aload_n 0, 1, []), (.iload_n 1, 1, []), (.iconst 2, 1, [2]), (.invokevirtual 272, 3, [264, 2123, 3, 0, 13]), (.aload_n 0, 1, []), (.iload_n 1, 1, []), (.invokevirtual 281, 3, [273, 2155, 2, 0, 13]), (.iload_n 3, 1, []), (.iand, 1, []), (.invokestatic 284, 3, [263, 2120, 1, 0, 0]), (.imul, 1, []), (.isub, 1, []), (.ireturn, 1, [0])]
def mX12_dueOf : qMI := (yX12_dueOf, cX12_dueOf, 4, (some .int), 12, [2154, 273, 2153, 83], 3, false, [(0, kX12_dueOf_0)])
def kX12_allGrudges_0 : List qIns := [(.iconst 0, 1, [0]), (.istore_n 1, 1, []), (.iconst 0, 1, [0]), (.istore_n 2, 1, []), (.nop, 0, [4])]
def kX12_allGrudges_4 : List qIns := [(.iload_n 2, 1, []), (.aload_n 0, 1, []), (.getfield 7, 3, [12, 0, 1726, 2]), (.iconst 1, 1, [1]), (.iaload, 1, []), (.if_icmp .ge 30, 3, [41]), (.iload_n 1, 1, []), (.aload_n 0, 1, []), (.iload_n 2, 1, []), (.invokevirtual 260, 3, [266, 2088, 2, 0, 13]), (.ifCond .eq 12, 3, [32]), (.aload_n 0, 1, []), (.iload_n 2, 1, []), (.iconst 2, 1, [2]), (.invokevirtual 257, 3, [265, 2092, 3, 0, 13]), (.goto 4, 3, [33])]
def kX12_allGrudges_32 : List qIns := [(.iconst 0, 1, [0]), (.nop, 0, [33])]
def kX12_allGrudges_33 : List qIns := [(.iadd, 1, []), (.istore_n 1, 1, []), (.iinc 2 1, 3, [1]), (.goto (-34), 3, [4])]
def kX12_allGrudges_41 : List qIns := [(.iload_n 1, 1, []), (.ireturn, 1, [0])]
def mX12_allGrudges : qMI := (yX12_allGrudges, cX12_allGrudges, 3, (some .int), 12, [2111, 273, 2110, 77], 0, false, [(0, kX12_allGrudges_0), (4, kX12_allGrudges_4), (32, kX12_allGrudges_32), (33, kX12_allGrudges_33), (41, kX12_allGrudges_41)])
def kX12_told_0 : List qIns := [(.iload_n 1, 1, []), (.ifCond .lt 9, 3, [10]), (.iload_n 1, 1, []), (.bipush 8, 2, [8]), (.if_icmp .le 9, 3, [16]), (.nop, 0, [10])]
def kX12_told_10 : List qIns := [(.aload_n 0, 1, []), (.iconst 1, 1, [1]), (.invokevirtual 88, 3, [214, 1955, 2, 0, 13]), (.ireturn, 1, [0])]
def kX12_told_16 : List qIns := [(.iload_n 1, 1, []), (.tableswitch 54 6 8 #[27, 36, 45], 27, [71, 44, 53, 62])]
def kX12_told_44 : List qIns := [(.aload_n 0, 1, []), (.aload_n 0, 1, []), (.invokevirtual 287, 3, [270, 2080, 1, 0, 13]), (.invokevirtual 92, 3, [215, 2048, 2, 0, 13]), (.ireturn, 1, [0])]
def kX12_told_53 : List qIns := [(.aload_n 0, 1, []), (.aload_n 0, 1, []), (.invokevirtual 290, 3, [268, 2104, 1, 0, 13]), (.invokevirtual 92, 3, [215, 2048, 2, 0, 13]), (.ireturn, 1, [0])]
def kX12_told_62 : List qIns := [(.aload_n 0, 1, []), (.aload_n 0, 1, []), (.invokevirtual 293, 3, [275, 2108, 1, 0, 13]), (.invokevirtual 92, 3, [215, 2048, 2, 0, 13]), (.ireturn, 1, [0])]
def kX12_told_71 : List qIns := [(.aload_n 0, 1, []), (.aload_n 0, 1, []), (.getfield 7, 3, [12, 0, 1726, 2]), (.iload_n 1, 1, []), (.iaload, 1, []), (.invokevirtual 92, 3, [215, 2048, 2, 0, 13]), (.ireturn, 1, [0])]
def mX12_told : qMI := (yX12_told, cX12_told, 2, (some .int), 12, [2079, 273, 2077, 2078], 1, false, [(0, kX12_told_0), (10, kX12_told_10), (16, kX12_told_16), (44, kX12_told_44), (53, kX12_told_53), (62, kX12_told_62), (71, kX12_told_71)])
def kX12_boy_0 : List qIns := [(.aload_n 0, 1, []), (.iload_n 1, 1, []), (.i2l, 1, []), (.invokevirtual 296, 3, [259, 2116, 2, 0, 13]), (.ifCond .eq 13, 3, [19]), (.iload_n 2, 1, []), (.ifCond .lt 9, 3, [19]), (.iload_n 2, 1, []), (.bipush 6, 2, [6]), (.if_icmp .le 9, 3, [25]), (.nop, 0, [19])]
def kX12_boy_19 : List qIns := [(.aload_n 0, 1, []), (.iconst 1, 1, [1]), (.invokevirtual 88, 3, [214, 1955, 2, 0, 13]), (.ireturn, 1, [0])]
def kX12_boy_25 : List qIns := [(.iload_n 2, 1, []), (.tableswitch 68 4 6 #[26, 44, 57], 26, [94, 52, 70, 83])]
def kX12_boy_52 : List qIns := [(.aload_n 0, 1, []), (.aload_n 0, 1, []), (.iload_n 1, 1, []), (.invokevirtual 269, 3, [269, 2084, 2, 0, 13]), (.ifCond .ne 7, 3, [65]), (.iconst 1, 1, [1]), (.goto 4, 3, [66])]
def kX12_boy_65 : List qIns := [(.iconst 0, 1, [0]), (.nop, 0, [66])]
def kX12_boy_66 : List qIns := [(.invokevirtual 92, 3, [215, 2048, 2, 0, 13]), (.ireturn, 1, [0])]
def kX12_boy_70 : List qIns := [(.aload_n 0, 1, []), (.aload_n 0, 1, []), (.iload_n 1, 1, []), (.invokevirtual 269, 3, [269, 2084, 2, 0, 13]), (.invokestatic 284, 3, [263, 2120, 1, 0, 0]), (.invokevirtual 92, 3, [215, 2048, 2, 0, 13]), (.ireturn, 1, [0])]
def kX12_boy_83 : List qIns := [(.aload_n 0, 1, []), (.aload_n 0, 1, []), (.iload_n 1, 1, []), (.iconst 4, 1, [4]), (.invokevirtual 272, 3, [264, 2123, 3, 0, 13]), (.invokevirtual 92, 3, [215, 2048, 2, 0, 13]), (.ireturn, 1, [0])]
def kX12_boy_94 : List qIns := [(.aload_n 0, 1, []), (.aload_n 0, 1, []), (.iload_n 1, 1, []), (.iload_n 2, 1, []), (.invokevirtual 272, 3, [264, 2123, 3, 0, 13]), (.invokevirtual 92, 3, [215, 2048, 2, 0, 13]), (.ireturn, 1, [0])]
def mX12_boy : qMI := (yX12_boy, cX12_boy, 3, (some .int), 12, [2115, 273, 2113, 2114], 2, false, [(0, kX12_boy_0), (19, kX12_boy_19), (25, kX12_boy_25), (52, kX12_boy_52), (65, kX12_boy_65), (66, kX12_boy_66), (70, kX12_boy_70), (83, kX12_boy_83), (94, kX12_boy_94)])
def kX12_quarrel_0 : List qIns := [(.aload_n 0, 1, []), (.iload_n 1, 1, []), (.invokevirtual 300, 3, [260, 2131, 2, 0, 13]), (.ifCond .eq 12, 3, [17]), (.iload_n 2, 1, []), (.ifCond .lt 8, 3, [17]), (.iload_n 2, 1, []), (.iconst 3, 1, [3]), (.if_icmp .le 9, 3, [23]), (.nop, 0, [17])]
def kX12_quarrel_17 : List qIns := [(.aload_n 0, 1, []), (.iconst 1, 1, [1]), (.invokevirtual 88, 3, [214, 1955, 2, 0, 13]), (.ireturn, 1, [0])]
def kX12_quarrel_23 : List qIns := [(.aload_n 0, 1, []), (.aload_n 0, 1, []), (.iload_n 1, 1, []), (.iload_n 2, 1, []), (.invokevirtual 257, 3, [265, 2092, 3, 0, 13]), (.invokevirtual 92, 3, [215, 2048, 2, 0, 13]), (.ireturn, 1, [0])]
def mX12_quarrel : qMI := (yX12_quarrel, cX12_quarrel, 3, (some .int), 12, [2130, 273, 2128, 2129], 2, false, [(0, kX12_quarrel_0), (17, kX12_quarrel_17), (23, kX12_quarrel_23)])
def kX12_ends_0 : List qIns := [(.aload_n 0, 1, []), (.getfield 7, 3, [12, 0, 1726, 2]), (.iload_n 1, 1, []), (.invokestatic 204, 3, [245, 2013, 1, 0, 0]), (.iconst 3, 1, [3]), (.iadd, 1, []), (.iload_n 2, 1, []), (.iastore, 1, []), (.iload_n 2, 1, []), (.iconst 1, 1, [1]), (.iand, 1, []), (.iconst 1, 1, [1]), (.if_icmp .ne 23, 3, [39]), (.aload_n 0, 1, []), (.getfield 7, 3, [12, 0, 1726, 2]), (.aload_n 0, 1, []), (.iload_n 1, 1, []), (.iconst 0, 1, [0]), (.invokevirtual 257, 3, [265, 2092, 3, 0, 13]), (.invokestatic 198, 3, [244, 1990, 1, 0, 0]), (.iconst 4, 1, [4]), (.iadd, 1, []), (.dup2, 1, []), (.iaload, 1, []), (.iconst 1, 1, [1]), (.iadd, 1, []), (.iastore, 1, []), (.nop, 0, [39])]
def kX12_ends_39 : List qIns := [(.iload_n 2, 1, []), (.iconst 2, 1, [2]), (.iand, 1, []), (.iconst 2, 1, [2]), (.if_icmp .ne 23, 3, [66]), (.aload_n 0, 1, []), (.getfield 7, 3, [12, 0, 1726, 2]), (.aload_n 0, 1, []), (.iload_n 1, 1, []), (.iconst 1, 1, [1]), (.invokevirtual 257, 3, [265, 2092, 3, 0, 13]), (.invokestatic 198, 3, [244, 1990, 1, 0, 0]), (.iconst 4, 1, [4]), (.iadd, 1, []), (.dup2, 1, []), (.iaload, 1, []), (.iconst 1, 1, [1]), (.iadd, 1, []), (.iastore, 1, []), (.nop, 0, [66])]
def kX12_ends_66 : List qIns := [(.return_, 1, [])]
def mX12_ends : qMI := (yX12_ends, cX12_ends, 3, none, 12, [2169, 273, 2168, 86], 2, false, [(0, kX12_ends_0), (39, kX12_ends_39), (66, kX12_ends_66)])
def kX12_minuteGoes_0 : List qIns := [(.aload_n 0, 1, []), (.invokevirtual 287, 3, [270, 2080, 1, 0, 13]), (.istore_n 1, 1, []), (.iconst 0, 1, [0]), (.istore_n 2, 1, []), (.aload_n 0, 1, []), (.iconst 0, 1, [0]), (.putfield 303, 3, [12, 24, 1750, 0]), (.iconst 0, 1, [0]), (.istore_n 3, 1, []), (.nop, 0, [14])]
def kX12_minuteGoes_14 : List qIns := [(.iload_n 3, 1, []), (.aload_n 0, 1, []), (.getfield 7, 3, [12, 0, 1726, 2]), (.iconst 1, 1, [1]), (.iaload, 1, []), (.if_icmp .ge 136, 3, [157]), (.aload_n 0, 1, []), (.iload_n 3, 1, []), (.invokevirtual 260, 3, [266, 2088, 2, 0, 13]), (.ifCond .ne 6, 3, [35]), (.goto 119, 3, [151])]
def kX12_minuteGoes_35 : List qIns := [(.aload_n 0, 1, []), (.iload_n 3, 1, []), (.iconst 0, 1, [0]), (.invokevirtual 257, 3, [265, 2092, 3, 0, 13]), (.istore 4, 2, []), (.aload_n 0, 1, []), (.iload_n 3, 1, []), (.iconst 1, 1, [1]), (.invokevirtual 257, 3, [265, 2092, 3, 0, 13]), (.istore 5, 2, []), (.aload_n 0, 1, []), (.getfield 7, 3, [12, 0, 1726, 2]), (.iconst 5, 1, [5]), (.iaload, 1, []), (.aload_n 0, 1, []), (.iload 4, 2, []), (.iload_n 3, 1, []), (.iload_n 1, 1, []), (.invokevirtual 306, 3, [274, 2151, 4, 0, 13]), (.if_icmp .lt 7, 3, [72]), (.iconst 1, 1, [1]), (.goto 4, 3, [73])]
def kX12_minuteGoes_72 : List qIns := [(.iconst 0, 1, [0]), (.nop, 0, [73])]
def kX12_minuteGoes_73 : List qIns := [(.istore 6, 2, []), (.aload_n 0, 1, []), (.getfield 7, 3, [12, 0, 1726, 2]), (.iconst 5, 1, [5]), (.iaload, 1, []), (.aload_n 0, 1, []), (.iload 5, 2, []), (.iload_n 3, 1, []), (.iload_n 1, 1, []), (.invokevirtual 306, 3, [274, 2151, 4, 0, 13]), (.if_icmp .lt 6, 3, [95]), (.iinc 6 2, 3, [2]), (.nop, 0, [95])]
def kX12_minuteGoes_95 : List qIns := [(.iload 6, 2, []), (.ifCond .ne 6, 3, [103]), (.goto 51, 3, [151])]
def kX12_minuteGoes_103 : List qIns := [(.iload 6, 2, []), (.iconst 2, 1, [2]), (.if_icmp .eq 16, 3, [122]), (.aload_n 0, 1, []), (.dup, 1, []), (.getfield 303, 3, [12, 24, 1750, 0]), (.iconst 1, 1, [1]), (.iload 4, 2, []), (.ishl, 1, []), (.ior, 1, []), (.putfield 303, 3, [12, 24, 1750, 0]), (.nop, 0, [122])]
def kX12_minuteGoes_122 : List qIns := [(.iload 6, 2, []), (.iconst 1, 1, [1]), (.if_icmp .eq 16, 3, [141]), (.aload_n 0, 1, []), (.dup, 1, []), (.getfield 303, 3, [12, 24, 1750, 0]), (.iconst 1, 1, [1]), (.iload 5, 2, []), (.ishl, 1, []), (.ior, 1, []), (.putfield 303, 3, [12, 24, 1750, 0]), (.nop, 0, [141])]
def kX12_minuteGoes_141 : List qIns := [(.aload_n 0, 1, []), (.iload_n 3, 1, []), (.iload 6, 2, []), (.invokevirtual 310, 3, [279, 2166, 3, 2, 13]), (.iinc 2 1, 3, [1]), (.nop, 0, [151])]
def kX12_minuteGoes_151 : List qIns := [(.iinc 3 1, 3, [1]), (.goto (-140), 3, [14])]
def kX12_minuteGoes_157 : List qIns := [(.aload_n 0, 1, []), (.getfield 7, 3, [12, 0, 1726, 2]), (.iconst 5, 1, [5]), (.dup2, 1, []), (.iaload, 1, []), (.iconst 1, 1, [1]), (.iadd, 1, []), (.iastore, 1, []), (.iload_n 2, 1, []), (.ireturn, 1, [0])]
def mX12_minuteGoes : qMI := (yX12_minuteGoes, cX12_minuteGoes, 7, (some .int), 12, [2150, 273, 2149, 82], 0, false, [(0, kX12_minuteGoes_0), (14, kX12_minuteGoes_14), (35, kX12_minuteGoes_35), (72, kX12_minuteGoes_72), (73, kX12_minuteGoes_73), (95, kX12_minuteGoes_95), (103, kX12_minuteGoes_103), (122, kX12_minuteGoes_122), (141, kX12_minuteGoes_141), (151, kX12_minuteGoes_151), (157, kX12_minuteGoes_157)])
def kX12_minutesGo_0 : List qIns := [(.iconst 0, 1, [0]), (.istore_n 2, 1, []), (.iconst 0, 1, [0]), (.istore_n 3, 1, []), (.nop, 0, [4])]
def kX12_minutesGo_4 : List qIns := [(.iload_n 3, 1, []), (.iload_n 1, 1, []), (.if_icmp .ge 16, 3, [22]), (.iload_n 2, 1, []), (.aload_n 0, 1, []), (.invokevirtual 314, 3, [280, 2147, 1, 0, 13]), (.iadd, 1, []), (.istore_n 2, 1, []), (.iinc 3 1, 3, [1]), (.goto (-15), 3, [4])]
def kX12_minutesGo_22 : List qIns := [(.iload_n 2, 1, []), (.ireturn, 1, [0])]
def mX12_minutesGo : qMI := (yX12_minutesGo, cX12_minutesGo, 4, (some .int), 12, [2146, 273, 2145, 81], 1, false, [(0, kX12_minutesGo_0), (4, kX12_minutesGo_4), (22, kX12_minutesGo_22)])
def kX12_minute_0 : List qIns := [(.iload_n 1, 1, []), (.i2l, 1, []), (.lconst 1, 1, []), (.ldc2_w 317, 3, [2139, 240]), (.invokestatic 319, 3, [225, 2140, 3, 0, 0]), (.ifCond .ne 9, 3, [18]), (.aload_n 0, 1, []), (.iconst 1, 1, [1]), (.invokevirtual 88, 3, [214, 1955, 2, 0, 13]), (.ireturn, 1, [0])]
def kX12_minute_18 : List qIns := [(.aload_n 0, 1, []), (.getfield 7, 3, [12, 0, 1726, 2]), (.iconst 5, 1, [5]), (.iaload, 1, []), (.iload_n 1, 1, []), (.iadd, 1, []), (.sipush 9999, 3, [9999]), (.if_icmp .le 11, 3, [40]), (.aload_n 0, 1, []), (.iconst 4, 1, [4]), (.invokevirtual 88, 3, [214, 1955, 2, 0, 13]), (.goto 12, 3, [49])]
def kX12_minute_40 : List qIns := [(.aload_n 0, 1, []), (.aload_n 0, 1, []), (.iload_n 1, 1, []), (.invokevirtual 323, 3, [281, 2143, 2, 0, 13]), (.invokevirtual 92, 3, [215, 2048, 2, 0, 13]), (.nop, 0, [49])]
def kX12_minute_49 : List qIns := [(.ireturn, 1, [0])]
def mX12_minute : qMI := (yX12_minute, cX12_minute, 2, (some .int), 12, [2138, 273, 2136, 2137], 1, false, [(0, kX12_minute_0), (18, kX12_minute_18), (40, kX12_minute_40), (49, kX12_minute_49)])
def kX12_dawns_0 : List qIns := [(.iconst 0, 1, [0]), (.istore_n 1, 1, []), (.aload_n 0, 1, []), (.getfield 7, 3, [12, 0, 1726, 2]), (.iconst 1, 1, [1]), (.iaload, 1, []), (.istore_n 2, 1, []), (.iconst 0, 1, [0]), (.istore_n 3, 1, []), (.nop, 0, [11])]
def kX12_dawns_11 : List qIns := [(.iload_n 3, 1, []), (.iload_n 2, 1, []), (.if_icmp .ge 62, 3, [75]), (.aload_n 0, 1, []), (.iload_n 3, 1, []), (.invokevirtual 260, 3, [266, 2088, 2, 0, 13]), (.ifCond .ne 6, 3, [27]), (.goto 45, 3, [69])]
def kX12_dawns_27 : List qIns := [(.iconst 0, 1, [0]), (.istore 4, 2, []), (.nop, 0, [30])]
def kX12_dawns_30 : List qIns := [(.iload 4, 2, []), (.iconst 4, 1, [4]), (.if_icmp .ge 33, 3, [66]), (.aload_n 0, 1, []), (.getfield 7, 3, [12, 0, 1726, 2]), (.iload_n 1, 1, []), (.invokestatic 204, 3, [245, 2013, 1, 0, 0]), (.iload 4, 2, []), (.iadd, 1, []), (.aload_n 0, 1, []), (.getfield 7, 3, [12, 0, 1726, 2]), (.iload_n 3, 1, []), (.invokestatic 204, 3, [245, 2013, 1, 0, 0]), (.iload 4, 2, []), (.iadd, 1, []), (.iaload, 1, []), (.iastore, 1, []), (.iinc 4 1, 3, [1]), (.goto (-33), 3, [30])]
def kX12_dawns_66 : List qIns := [(.iinc 1 1, 3, [1]), (.nop, 0, [69])]
def kX12_dawns_69 : List qIns := [(.iinc 3 1, 3, [1]), (.goto (-61), 3, [11])]
def kX12_dawns_75 : List qIns := [(.aload_n 0, 1, []), (.getfield 7, 3, [12, 0, 1726, 2]), (.iconst 1, 1, [1]), (.iload_n 1, 1, []), (.iastore, 1, []), (.aload_n 0, 1, []), (.getfield 7, 3, [12, 0, 1726, 2]), (.iconst 5, 1, [5]), (.iconst 0, 1, [0]), (.iastore, 1, []), (.iload_n 2, 1, []), (.iload_n 1, 1, []), (.isub, 1, []), (.ireturn, 1, [0])]
def mX12_dawns : qMI := (yX12_dawns, cX12_dawns, 5, (some .int), 12, [2177, 273, 2176, 87], 0, false, [(0, kX12_dawns_0), (11, kX12_dawns_11), (27, kX12_dawns_27), (30, kX12_dawns_30), (66, kX12_dawns_66), (69, kX12_dawns_69), (75, kX12_dawns_75)])
def kX12_dawn_0 : List qIns := [(.aload_n 0, 1, []), (.aload_n 0, 1, []), (.invokevirtual 326, 3, [283, 2174, 1, 0, 13]), (.invokevirtual 92, 3, [215, 2048, 2, 0, 13]), (.ireturn, 1, [0])]
def mX12_dawn : qMI := (yX12_dawn, cX12_dawn, 1, (some .int), 12, [2173, 273, 2171, 2172], 0, false, [(0, kX12_dawn_0)])
def kX12_boots_0 : List qIns := [(.aload_n 0, 1, []), (.getfield 7, 3, [12, 0, 1726, 2]), (.iconst 1, 1, [1]), (.iaload, 1, []), (.istore 4, 2, []), (.iload_n 1, 1, []), (.iload_n 2, 1, []), (.if_icmp .eq 10, 3, [20]), (.iload 4, 2, []), (.bipush 10, 2, [10]), (.if_icmp .ne 5, 3, [22]), (.nop, 0, [20])]
def kX12_boots_20 : List qIns := [(.iconst 0, 1, [0]), (.ireturn, 1, [1])]
def kX12_boots_22 : List qIns := [(.iload 4, 2, []), (.invokestatic 204, 3, [245, 2013, 1, 0, 0]), (.istore 5, 2, []), (.aload_n 0, 1, []), (.getfield 7, 3, [12, 0, 1726, 2]), (.iload 5, 2, []), (.iload_n 1, 1, []), (.iastore, 1, []), (.aload_n 0, 1, []), (.getfield 7, 3, [12, 0, 1726, 2]), (.iload 5, 2, []), (.iconst 1, 1, [1]), (.iadd, 1, []), (.iload_n 2, 1, []), (.iastore, 1, []), (.aload_n 0, 1, []), (.getfield 7, 3, [12, 0, 1726, 2]), (.iload 5, 2, []), (.iconst 2, 1, [2]), (.iadd, 1, []), (.iload_n 3, 1, []), (.iastore, 1, []), (.aload_n 0, 1, []), (.getfield 7, 3, [12, 0, 1726, 2]), (.iload 5, 2, []), (.iconst 3, 1, [3]), (.iadd, 1, []), (.iconst 0, 1, [0]), (.iastore, 1, []), (.aload_n 0, 1, []), (.getfield 7, 3, [12, 0, 1726, 2]), (.iconst 1, 1, [1]), (.dup2, 1, []), (.iaload, 1, []), (.iconst 1, 1, [1]), (.iadd, 1, []), (.iastore, 1, []), (.iconst 1, 1, [1]), (.ireturn, 1, [1])]
def mX12_boots : qMI := (yX12_boots, cX12_boots, 6, (some .boolean), 12, [2186, 273, 2185, 88], 3, false, [(0, kX12_boots_0), (20, kX12_boots_20), (22, kX12_boots_22)])
def kX12_boot_0 : List qIns := [(.aload_n 0, 1, []), (.iload_n 1, 1, []), (.i2l, 1, []), (.invokevirtual 296, 3, [259, 2116, 2, 0, 13]), (.ifCond .eq 29, 3, [35]), (.aload_n 0, 1, []), (.iload_n 2, 1, []), (.i2l, 1, []), (.invokevirtual 296, 3, [259, 2116, 2, 0, 13]), (.ifCond .eq 20, 3, [35]), (.iload_n 1, 1, []), (.iload_n 2, 1, []), (.if_icmp .eq 15, 3, [35]), (.iload_n 3, 1, []), (.i2l, 1, []), (.lconst 0, 1, []), (.ldc2_w 329, 3, [2182, 99]), (.invokestatic 319, 3, [225, 2140, 3, 0, 0]), (.ifCond .ne 9, 3, [41]), (.nop, 0, [35])]
def kX12_boot_35 : List qIns := [(.aload_n 0, 1, []), (.iconst 1, 1, [1]), (.invokevirtual 88, 3, [214, 1955, 2, 0, 13]), (.ireturn, 1, [0])]
def kX12_boot_41 : List qIns := [(.aload_n 0, 1, []), (.iload_n 1, 1, []), (.iload_n 2, 1, []), (.iload_n 3, 1, []), (.invokevirtual 331, 3, [285, 2183, 4, 0, 13]), (.ifCond .eq 18, 3, [66]), (.aload_n 0, 1, []), (.aload_n 0, 1, []), (.getfield 7, 3, [12, 0, 1726, 2]), (.iconst 1, 1, [1]), (.iaload, 1, []), (.iconst 1, 1, [1]), (.isub, 1, []), (.invokevirtual 92, 3, [215, 2048, 2, 0, 13]), (.goto 8, 3, [71])]
def kX12_boot_66 : List qIns := [(.aload_n 0, 1, []), (.iconst 4, 1, [4]), (.invokevirtual 88, 3, [214, 1955, 2, 0, 13]), (.nop, 0, [71])]
def kX12_boot_71 : List qIns := [(.ireturn, 1, [0])]
def mX12_boot : qMI := (yX12_boot, cX12_boot, 4, (some .int), 12, [2181, 273, 2179, 2180], 3, false, [(0, kX12_boot_0), (35, kX12_boot_35), (41, kX12_boot_41), (66, kX12_boot_66), (71, kX12_boot_71)])
def kX12_forgives_0 : List qIns := [(.aload_n 0, 1, []), (.iload_n 1, 1, []), (.invokevirtual 269, 3, [269, 2084, 2, 0, 13]), (.istore_n 2, 1, []), (.iconst 0, 1, [0]), (.istore_n 3, 1, []), (.nop, 0, [8])]
def kX12_forgives_8 : List qIns := [(.iload_n 3, 1, []), (.aload_n 0, 1, []), (.getfield 7, 3, [12, 0, 1726, 2]), (.iconst 1, 1, [1]), (.iaload, 1, []), (.if_icmp .ge 38, 3, [53]), (.aload_n 0, 1, []), (.iload_n 2, 1, []), (.iload_n 3, 1, []), (.invokevirtual 266, 3, [262, 2100, 3, 0, 13]), (.ifCond .eq 23, 3, [47]), (.aload_n 0, 1, []), (.iload_n 3, 1, []), (.aload_n 0, 1, []), (.iload_n 3, 1, []), (.iconst 0, 1, [0]), (.invokevirtual 257, 3, [265, 2092, 3, 0, 13]), (.iload_n 1, 1, []), (.if_icmp .ne 7, 3, [43]), (.iconst 1, 1, [1]), (.goto 4, 3, [44])]
def kX12_forgives_43 : List qIns := [(.iconst 2, 1, [2]), (.nop, 0, [44])]
def kX12_forgives_44 : List qIns := [(.invokevirtual 310, 3, [279, 2166, 3, 2, 13]), (.nop, 0, [47])]
def kX12_forgives_47 : List qIns := [(.iinc 3 1, 3, [1]), (.goto (-42), 3, [8])]
def kX12_forgives_53 : List qIns := [(.iload_n 2, 1, []), (.invokestatic 284, 3, [263, 2120, 1, 0, 0]), (.ireturn, 1, [0])]
def mX12_forgives : qMI := (yX12_forgives, cX12_forgives, 4, (some .int), 12, [2194, 273, 2193, 89], 1, false, [(0, kX12_forgives_0), (8, kX12_forgives_8), (43, kX12_forgives_43), (44, kX12_forgives_44), (47, kX12_forgives_47), (53, kX12_forgives_53)])
def kX12_forgive_0 : List qIns := [(.aload_n 0, 1, []), (.iload_n 1, 1, []), (.i2l, 1, []), (.invokevirtual 296, 3, [259, 2116, 2, 0, 13]), (.ifCond .ne 9, 3, [15]), (.aload_n 0, 1, []), (.iconst 1, 1, [1]), (.invokevirtual 88, 3, [214, 1955, 2, 0, 13]), (.ireturn, 1, [0])]
def kX12_forgive_15 : List qIns := [(.aload_n 0, 1, []), (.iload_n 1, 1, []), (.invokevirtual 334, 3, [287, 2191, 2, 0, 13]), (.istore_n 2, 1, []), (.iload_n 2, 1, []), (.ifCond .ne 12, 3, [34]), (.aload_n 0, 1, []), (.bipush 7, 2, [7]), (.invokevirtual 88, 3, [214, 1955, 2, 0, 13]), (.goto 8, 3, [39])]
def kX12_forgive_34 : List qIns := [(.aload_n 0, 1, []), (.iload_n 2, 1, []), (.invokevirtual 92, 3, [215, 2048, 2, 0, 13]), (.nop, 0, [39])]
def kX12_forgive_39 : List qIns := [(.ireturn, 1, [0])]
def mX12_forgive : qMI := (yX12_forgive, cX12_forgive, 3, (some .int), 12, [2190, 273, 2188, 2189], 1, false, [(0, kX12_forgive_0), (15, kX12_forgive_15), (34, kX12_forgive_34), (39, kX12_forgive_39)])
def kX12_pitches_0 : List qIns := [(.aload_n 0, 1, []), (.iload_n 1, 1, []), (.iconst 0, 1, [0]), (.invokevirtual 272, 3, [264, 2123, 3, 0, 13]), (.iload_n 2, 1, []), (.if_icmp .eq 7, 3, [14]), (.iconst 1, 1, [1]), (.goto 4, 3, [15])]
def kX12_pitches_14 : List qIns := [(.iconst 0, 1, [0]), (.nop, 0, [15])]
def kX12_pitches_15 : List qIns := [(.istore_n 3, 1, []), (.aload_n 0, 1, []), (.getfield 7, 3, [12, 0, 1726, 2]), (.iload_n 1, 1, []), (.invokestatic 198, 3, [244, 1990, 1, 0, 0]), (.iload_n 2, 1, []), (.iastore, 1, []), (.iload_n 3, 1, []), (.ireturn, 1, [1])]
def mX12_pitches : qMI := (yX12_pitches, cX12_pitches, 4, (some .boolean), 12, [2206, 273, 2205, 91], 2, false, [(0, kX12_pitches_0), (14, kX12_pitches_14), (15, kX12_pitches_15)])
def kX12_pitch_0 : List qIns := [(.aload_n 0, 1, []), (.iload_n 1, 1, []), (.i2l, 1, []), (.invokevirtual 296, 3, [259, 2116, 2, 0, 13]), (.ifCond .eq 11, 3, [17]), (.aload_n 0, 1, []), (.iload_n 2, 1, []), (.invokevirtual 337, 3, [261, 2199, 2, 0, 13]), (.ifCond .ne 9, 3, [23]), (.nop, 0, [17])]
def kX12_pitch_17 : List qIns := [(.aload_n 0, 1, []), (.iconst 1, 1, [1]), (.invokevirtual 88, 3, [214, 1955, 2, 0, 13]), (.ireturn, 1, [0])]
def kX12_pitch_23 : List qIns := [(.aload_n 0, 1, []), (.iload_n 1, 1, []), (.iconst 0, 1, [0]), (.invokevirtual 272, 3, [264, 2123, 3, 0, 13]), (.istore_n 3, 1, []), (.aload_n 0, 1, []), (.iload_n 1, 1, []), (.iload_n 2, 1, []), (.invokevirtual 340, 3, [289, 2203, 3, 0, 13]), (.ifCond .eq 11, 3, [47]), (.aload_n 0, 1, []), (.iload_n 3, 1, []), (.invokevirtual 92, 3, [215, 2048, 2, 0, 13]), (.goto 9, 3, [53])]
def kX12_pitch_47 : List qIns := [(.aload_n 0, 1, []), (.bipush 7, 2, [7]), (.invokevirtual 88, 3, [214, 1955, 2, 0, 13]), (.nop, 0, [53])]
def kX12_pitch_53 : List qIns := [(.ireturn, 1, [0])]
def mX12_pitch : qMI := (yX12_pitch, cX12_pitch, 4, (some .int), 12, [2198, 273, 2196, 2197], 2, false, [(0, kX12_pitch_0), (17, kX12_pitch_17), (23, kX12_pitch_23), (47, kX12_pitch_47), (53, kX12_pitch_53)])
def kX12_teach_0 : List qIns := [(.aload_n 0, 1, []), (.iload_n 1, 1, []), (.i2l, 1, []), (.invokevirtual 296, 3, [259, 2116, 2, 0, 13]), (.ifCond .eq 13, 3, [19]), (.iload_n 2, 1, []), (.iconst 1, 1, [1]), (.if_icmp .lt 8, 3, [19]), (.iload_n 2, 1, []), (.iconst 3, 1, [3]), (.if_icmp .le 9, 3, [25]), (.nop, 0, [19])]
def kX12_teach_19 : List qIns := [(.aload_n 0, 1, []), (.iconst 1, 1, [1]), (.invokevirtual 95, 3, [213, 1895, 2, 0, 13]), (.ireturn, 1, [1])]
def kX12_teach_25 : List qIns := [(.iload_n 3, 1, []), (.i2l, 1, []), (.iload_n 2, 1, []), (.iconst 1, 1, [1]), (.if_icmp .ne 7, 3, [36]), (.lconst 1, 1, []), (.goto 4, 3, [37])]
def kX12_teach_36 : List qIns := [(.lconst 0, 1, []), (.nop, 0, [37])]
def kX12_teach_37 : List qIns := [(.iload_n 2, 1, []), (.iconst 1, 1, [1]), (.if_icmp .ne 9, 3, [48]), (.ldc2_w 343, 3, [2211, 30]), (.goto 6, 3, [51])]
def kX12_teach_48 : List qIns := [(.ldc2_w 345, 3, [2212, 9]), (.nop, 0, [51])]
def kX12_teach_51 : List qIns := [(.invokestatic 319, 3, [225, 2140, 3, 0, 0]), (.ifCond .ne 9, 3, [63]), (.aload_n 0, 1, []), (.iconst 1, 1, [1]), (.invokevirtual 95, 3, [213, 1895, 2, 0, 13]), (.ireturn, 1, [1])]
def kX12_teach_63 : List qIns := [(.aload_n 0, 1, []), (.getfield 7, 3, [12, 0, 1726, 2]), (.iload_n 1, 1, []), (.invokestatic 198, 3, [244, 1990, 1, 0, 0]), (.iload_n 2, 1, []), (.iadd, 1, []), (.iload_n 3, 1, []), (.iastore, 1, []), (.aload_n 0, 1, []), (.iconst 0, 1, [0]), (.invokevirtual 95, 3, [213, 1895, 2, 0, 13]), (.ireturn, 1, [1])]
def mX12_teach : qMI := (yX12_teach, cX12_teach, 4, (some .boolean), 12, [2210, 273, 2208, 2209], 3, false, [(0, kX12_teach_0), (19, kX12_teach_19), (25, kX12_teach_25), (36, kX12_teach_36), (37, kX12_teach_37), (48, kX12_teach_48), (51, kX12_teach_51), (63, kX12_teach_63)])
def kX12_stir_0 : List qIns := [(.aload_n 0, 1, []), (.iload_n 1, 1, []), (.invokevirtual 300, 3, [260, 2131, 2, 0, 13]), (.ifCond .eq 15, 3, [20]), (.iload_n 2, 1, []), (.i2l, 1, []), (.lconst 0, 1, []), (.ldc2_w 329, 3, [2182, 99]), (.invokestatic 319, 3, [225, 2140, 3, 0, 0]), (.ifCond .ne 9, 3, [26]), (.nop, 0, [20])]
def kX12_stir_20 : List qIns := [(.aload_n 0, 1, []), (.iconst 1, 1, [1]), (.invokevirtual 88, 3, [214, 1955, 2, 0, 13]), (.ireturn, 1, [0])]
def kX12_stir_26 : List qIns := [(.aload_n 0, 1, []), (.iload_n 1, 1, []), (.invokevirtual 260, 3, [266, 2088, 2, 0, 13]), (.ifCond .ne 10, 3, [41]), (.aload_n 0, 1, []), (.bipush 7, 2, [7]), (.invokevirtual 88, 3, [214, 1955, 2, 0, 13]), (.ireturn, 1, [0])]
def kX12_stir_41 : List qIns := [(.aload_n 0, 1, []), (.iload_n 1, 1, []), (.iconst 2, 1, [2]), (.invokevirtual 257, 3, [265, 2092, 3, 0, 13]), (.istore_n 3, 1, []), (.aload_n 0, 1, []), (.getfield 7, 3, [12, 0, 1726, 2]), (.iload_n 1, 1, []), (.invokestatic 204, 3, [245, 2013, 1, 0, 0]), (.iconst 2, 1, [2]), (.iadd, 1, []), (.iload_n 2, 1, []), (.iastore, 1, []), (.aload_n 0, 1, []), (.iload_n 3, 1, []), (.invokevirtual 92, 3, [215, 2048, 2, 0, 13]), (.ireturn, 1, [0])]
def mX12_stir : qMI := (yX12_stir, cX12_stir, 4, (some .int), 12, [2216, 273, 2214, 2215], 2, false, [(0, kX12_stir_0), (20, kX12_stir_20), (26, kX12_stir_26), (41, kX12_stir_41)])
def kX12_come_0 : List qIns := [(.aload_n 0, 1, []), (.iload_n 1, 1, []), (.invokevirtual 337, 3, [261, 2199, 2, 0, 13]), (.ifCond .eq 15, 3, [20]), (.iload_n 2, 1, []), (.i2l, 1, []), (.lconst 1, 1, []), (.ldc2_w 343, 3, [2211, 30]), (.invokestatic 319, 3, [225, 2140, 3, 0, 0]), (.ifCond .ne 9, 3, [26]), (.nop, 0, [20])]
def kX12_come_20 : List qIns := [(.aload_n 0, 1, []), (.iconst 1, 1, [1]), (.invokevirtual 88, 3, [214, 1955, 2, 0, 13]), (.ireturn, 1, [0])]
def kX12_come_26 : List qIns := [(.aload_n 0, 1, []), (.getfield 7, 3, [12, 0, 1726, 2]), (.iconst 0, 1, [0]), (.iaload, 1, []), (.istore_n 3, 1, []), (.iload_n 3, 1, []), (.bipush 8, 2, [8]), (.if_icmp .ne 9, 3, [45]), (.aload_n 0, 1, []), (.iconst 4, 1, [4]), (.invokevirtual 88, 3, [214, 1955, 2, 0, 13]), (.ireturn, 1, [0])]
def kX12_come_45 : List qIns := [(.aload_n 0, 1, []), (.getfield 7, 3, [12, 0, 1726, 2]), (.iconst 0, 1, [0]), (.dup2, 1, []), (.iaload, 1, []), (.iconst 1, 1, [1]), (.iadd, 1, []), (.iastore, 1, []), (.aload_n 0, 1, []), (.getfield 7, 3, [12, 0, 1726, 2]), (.iload_n 3, 1, []), (.invokestatic 198, 3, [244, 1990, 1, 0, 0]), (.iload_n 1, 1, []), (.iastore, 1, []), (.aload_n 0, 1, []), (.getfield 7, 3, [12, 0, 1726, 2]), (.iload_n 3, 1, []), (.invokestatic 198, 3, [244, 1990, 1, 0, 0]), (.iconst 1, 1, [1]), (.iadd, 1, []), (.iload_n 2, 1, []), (.iastore, 1, []), (.aload_n 0, 1, []), (.getfield 7, 3, [12, 0, 1726, 2]), (.iload_n 3, 1, []), (.invokestatic 198, 3, [244, 1990, 1, 0, 0]), (.iconst 2, 1, [2]), (.iadd, 1, []), (.iconst 1, 1, [1]), (.iastore, 1, []), (.aload_n 0, 1, []), (.getfield 7, 3, [12, 0, 1726, 2]), (.iload_n 3, 1, []), (.invokestatic 198, 3, [244, 1990, 1, 0, 0]), (.iconst 3, 1, [3]), (.iadd, 1, []), (.iconst 2, 1, [2]), (.iastore, 1, []), (.aload_n 0, 1, []), (.getfield 7, 3, [12, 0, 1726, 2]), (.iload_n 3, 1, []), (.invokestatic 198, 3, [244, 1990, 1, 0, 0]), (.iconst 4, 1, [4]), (.iadd, 1, []), (.iconst 0, 1, [0]), (.iastore, 1, []), (.aload_n 0, 1, []), (.getfield 13, 3, [12, 1, 1727, 2]), (.iload_n 3, 1, []), (.lconst 0, 1, []), (.lastore, 1, []), (.aload_n 0, 1, []), (.iload_n 3, 1, []), (.invokevirtual 92, 3, [215, 2048, 2, 0, 13]), (.ireturn, 1, [0])]
def mX12_come : qMI := (yX12_come, cX12_come, 4, (some .int), 12, [2220, 273, 2218, 2219], 2, false, [(0, kX12_come_0), (20, kX12_come_20), (26, kX12_come_26), (45, kX12_come_45)])
def kX12_rule_0 : List qIns := [(.iload_n 1, 1, []), (.i2l, 1, []), (.lconst 0, 1, []), (.ldc2_w 347, 3, [2225, 16]), (.invokestatic 319, 3, [225, 2140, 3, 0, 0]), (.ifCond .ne 9, 3, [18]), (.aload_n 0, 1, []), (.iconst 1, 1, [1]), (.invokevirtual 95, 3, [213, 1895, 2, 0, 13]), (.ireturn, 1, [1])]
def kX12_rule_18 : List qIns := [(.aload_n 0, 1, []), (.getfield 7, 3, [12, 0, 1726, 2]), (.iconst 4, 1, [4]), (.iload_n 1, 1, []), (.iastore, 1, []), (.aload_n 0, 1, []), (.iconst 0, 1, [0]), (.invokevirtual 95, 3, [213, 1895, 2, 0, 13]), (.ireturn, 1, [1])]
def mX12_rule : qMI := (yX12_rule, cX12_rule, 2, (some .boolean), 12, [2224, 273, 2222, 2223], 1, false, [(0, kX12_rule_0), (18, kX12_rule_18)])
def kX12_far_0 : List qIns := [(.aload_n 0, 1, []), (.iload_n 1, 1, []), (.i2l, 1, []), (.invokevirtual 296, 3, [259, 2116, 2, 0, 13]), (.ifCond .eq 25, 3, [31]), (.aload_n 0, 1, []), (.iload_n 2, 1, []), (.i2l, 1, []), (.invokevirtual 296, 3, [259, 2116, 2, 0, 13]), (.ifCond .eq 16, 3, [31]), (.aload_n 0, 1, []), (.aload_n 0, 1, []), (.iload_n 1, 1, []), (.iload_n 2, 1, []), (.invokevirtual 278, 3, [272, 2159, 3, 0, 13]), (.invokevirtual 92, 3, [215, 2048, 2, 0, 13]), (.goto 8, 3, [36])]
def kX12_far_31 : List qIns := [(.aload_n 0, 1, []), (.iconst 1, 1, [1]), (.invokevirtual 88, 3, [214, 1955, 2, 0, 13]), (.nop, 0, [36])]
def kX12_far_36 : List qIns := [(.ireturn, 1, [0])]
def mX12_far : qMI := (yX12_far, cX12_far, 3, (some .int), 12, [2229, 273, 2227, 2228], 2, false, [(0, kX12_far_0), (31, kX12_far_31), (36, kX12_far_36)])
def kX12_hears_0 : List qIns := [(.aload_n 0, 1, []), (.iload_n 1, 1, []), (.i2l, 1, []), (.invokevirtual 296, 3, [259, 2116, 2, 0, 13]), (.ifCond .eq 20, 3, [26]), (.aload_n 0, 1, []), (.aload_n 0, 1, []), (.iload_n 1, 1, []), (.invokevirtual 281, 3, [273, 2155, 2, 0, 13]), (.aload_n 0, 1, []), (.invokevirtual 287, 3, [270, 2080, 1, 0, 13]), (.iand, 1, []), (.invokevirtual 92, 3, [215, 2048, 2, 0, 13]), (.goto 8, 3, [31])]
def kX12_hears_26 : List qIns := [(.aload_n 0, 1, []), (.iconst 1, 1, [1]), (.invokevirtual 88, 3, [214, 1955, 2, 0, 13]), (.nop, 0, [31])]
def kX12_hears_31 : List qIns := [(.ireturn, 1, [0])]
def mX12_hears : qMI := (yX12_hears, cX12_hears, 2, (some .int), 12, [2233, 273, 2231, 2232], 1, false, [(0, kX12_hears_0), (26, kX12_hears_26), (31, kX12_hears_31)])
def kX12_near_0 : List qIns := [(.aload_n 0, 1, []), (.iload_n 1, 1, []), (.i2l, 1, []), (.invokevirtual 296, 3, [259, 2116, 2, 0, 13]), (.ifCond .eq 15, 3, [21]), (.aload_n 0, 1, []), (.aload_n 0, 1, []), (.iload_n 1, 1, []), (.invokevirtual 281, 3, [273, 2155, 2, 0, 13]), (.invokevirtual 92, 3, [215, 2048, 2, 0, 13]), (.goto 8, 3, [26])]
def kX12_near_21 : List qIns := [(.aload_n 0, 1, []), (.iconst 1, 1, [1]), (.invokevirtual 88, 3, [214, 1955, 2, 0, 13]), (.nop, 0, [26])]
def kX12_near_26 : List qIns := [(.ireturn, 1, [0])]
def mX12_near : qMI := (yX12_near, cX12_near, 2, (some .int), 12, [2237, 273, 2235, 2236], 1, false, [(0, kX12_near_0), (21, kX12_near_21), (26, kX12_near_26)])
def kX12_due_0 : List qIns := [(.aload_n 0, 1, []), (.iload_n 1, 1, []), (.i2l, 1, []), (.invokevirtual 296, 3, [259, 2116, 2, 0, 13]), (.ifCond .eq 11, 3, [17]), (.aload_n 0, 1, []), (.iload_n 2, 1, []), (.invokevirtual 300, 3, [260, 2131, 2, 0, 13]), (.ifCond .ne 9, 3, [23]), (.nop, 0, [17])]
def kX12_due_17 : List qIns := [(.aload_n 0, 1, []), (.iconst 1, 1, [1]), (.invokevirtual 88, 3, [214, 1955, 2, 0, 13]), (.ireturn, 1, [0])]
def kX12_due_23 : List qIns := [(.aload_n 0, 1, []), (.aload_n 0, 1, []), (.iload_n 2, 1, []), (.invokevirtual 263, 3, [267, 2096, 2, 0, 13]), (.iload_n 1, 1, []), (.invokevirtual 266, 3, [262, 2100, 3, 0, 13]), (.ifCond .ne 10, 3, [43]), (.aload_n 0, 1, []), (.bipush 6, 2, [6]), (.invokevirtual 88, 3, [214, 1955, 2, 0, 13]), (.ireturn, 1, [0])]
def kX12_due_43 : List qIns := [(.aload_n 0, 1, []), (.iload_n 2, 1, []), (.invokevirtual 260, 3, [266, 2088, 2, 0, 13]), (.ifCond .eq 20, 3, [68]), (.aload_n 0, 1, []), (.aload_n 0, 1, []), (.iload_n 1, 1, []), (.iload_n 2, 1, []), (.aload_n 0, 1, []), (.invokevirtual 287, 3, [270, 2080, 1, 0, 13]), (.invokevirtual 306, 3, [274, 2151, 4, 0, 13]), (.invokevirtual 92, 3, [215, 2048, 2, 0, 13]), (.goto 9, 3, [74])]
def kX12_due_68 : List qIns := [(.aload_n 0, 1, []), (.bipush 7, 2, [7]), (.invokevirtual 88, 3, [214, 1955, 2, 0, 13]), (.nop, 0, [74])]
def kX12_due_74 : List qIns := [(.ireturn, 1, [0])]
def mX12_due : qMI := (yX12_due, cX12_due, 3, (some .int), 12, [2241, 273, 2239, 2240], 2, false, [(0, kX12_due_0), (17, kX12_due_17), (23, kX12_due_23), (43, kX12_due_43), (68, kX12_due_68), (74, kX12_due_74)])
def kX12_levelAt_0 : List qIns := [(.sipush 2736, 3, [2736]), (.bipush 88, 2, [88]), (.iload_n 0, 1, []), (.imul, 1, []), (.iadd, 1, []), (.ireturn, 1, [0])]
def mX12_levelAt : qMI := (yX12_levelAt, cX12_levelAt, 1, (some .int), 12, [2455, 273, 2454], 1, true, [(0, kX12_levelAt_0)])
def kX12_keeps_0 : List qIns := [(.iconst 0, 1, [0]), (.istore_n 2, 1, []), (.nop, 0, [2])]
def kX12_keeps_2 : List qIns := [(.iload_n 2, 1, []), (.bipush 88, 2, [88]), (.if_icmp .ge 23, 3, [28]), (.aload_n 0, 1, []), (.getfield 7, 3, [12, 0, 1726, 2]), (.iload_n 1, 1, []), (.iload_n 2, 1, []), (.iadd, 1, []), (.aload_n 0, 1, []), (.getfield 7, 3, [12, 0, 1726, 2]), (.iload_n 2, 1, []), (.iaload, 1, []), (.iastore, 1, []), (.iinc 2 1, 3, [1]), (.goto (-23), 3, [2])]
def kX12_keeps_28 : List qIns := [(.return_, 1, [])]
def mX12_keeps : qMI := (yX12_keeps, cX12_keeps, 3, none, 12, [2249, 273, 2248, 92], 1, false, [(0, kX12_keeps_0), (2, kX12_keeps_2), (28, kX12_keeps_28)])
def kX12_restores_0 : List qIns := [(.iconst 0, 1, [0]), (.istore_n 2, 1, []), (.nop, 0, [2])]
def kX12_restores_2 : List qIns := [(.iload_n 2, 1, []), (.bipush 88, 2, [88]), (.if_icmp .ge 23, 3, [28]), (.aload_n 0, 1, []), (.getfield 7, 3, [12, 0, 1726, 2]), (.iload_n 2, 1, []), (.aload_n 0, 1, []), (.getfield 7, 3, [12, 0, 1726, 2]), (.iload_n 1, 1, []), (.iload_n 2, 1, []), (.iadd, 1, []), (.iaload, 1, []), (.iastore, 1, []), (.iinc 2 1, 3, [1]), (.goto (-23), 3, [2])]
def kX12_restores_28 : List qIns := [(.return_, 1, [])]
def mX12_restores : qMI := (yX12_restores, cX12_restores, 3, none, 12, [2257, 273, 2256, 94], 1, false, [(0, kX12_restores_0), (2, kX12_restores_2), (28, kX12_restores_28)])
def kX12_everybody_0 : List qIns := [(.iconst 1, 1, [1]), (.aload_n 0, 1, []), (.getfield 7, 3, [12, 0, 1726, 2]), (.iconst 0, 1, [0]), (.iaload, 1, []), (.ishl, 1, []), (.iconst 1, 1, [1]), (.isub, 1, []), (.ireturn, 1, [0])]
def mX12_everybody : qMI := (yX12_everybody, cX12_everybody, 1, (some .int), 12, [2274, 273, 2273, 96], 0, false, [(0, kX12_everybody_0)])
def kX12_upOf_0 : List qIns := [(.iconst 0, 1, [0]), (.istore_n 2, 1, []), (.nop, 0, [2])]
def kX12_upOf_2 : List qIns := [(.iload_n 1, 1, []), (.aload_n 0, 1, []), (.invokevirtual 287, 3, [270, 2080, 1, 0, 13]), (.iconst (-1), 1, []), (.ixor, 1, []), (.iand, 1, []), (.ifCond .eq 14, 3, [24]), (.aload_n 0, 1, []), (.invokevirtual 314, 3, [280, 2147, 1, 0, 13]), (.pop, 1, []), (.iinc 2 1, 3, [1]), (.goto (-19), 3, [2])]
def kX12_upOf_24 : List qIns := [(.iload_n 2, 1, []), (.ireturn, 1, [0])]
def mX12_upOf : qMI := (yX12_upOf, cX12_upOf, 3, (some .int), 12, [2253, 273, 2252, 93], 1, false, [(0, kX12_upOf_0), (2, kX12_upOf_2), (24, kX12_upOf_24)])
def kX12_breakfastNow_0 : List qIns := [(.aload_n 0, 1, []), (.sipush 2280, 3, [2280]), (.invokevirtual 349, 3, [300, 2246, 2, 2, 13]), (.aload_n 0, 1, []), (.aload_n 0, 1, []), (.invokevirtual 352, 3, [302, 2271, 1, 0, 13]), (.invokevirtual 355, 3, [303, 2250, 2, 0, 13]), (.istore_n 1, 1, []), (.aload_n 0, 1, []), (.sipush 2280, 3, [2280]), (.invokevirtual 358, 3, [301, 2254, 2, 2, 13]), (.iload_n 1, 1, []), (.ireturn, 1, [0])]
def mX12_breakfastNow : qMI := (yX12_breakfastNow, cX12_breakfastNow, 2, (some .int), 12, [2270, 273, 2269, 95], 0, false, [(0, kX12_breakfastNow_0)])
def kX12_upIn_0 : List qIns := [(.aload_n 0, 1, []), (.iload_n 1, 1, []), (.i2l, 1, []), (.invokevirtual 296, 3, [259, 2116, 2, 0, 13]), (.ifCond .ne 9, 3, [15]), (.aload_n 0, 1, []), (.iconst 1, 1, [1]), (.invokevirtual 88, 3, [214, 1955, 2, 0, 13]), (.ireturn, 1, [0])]
def kX12_upIn_15 : List qIns := [(.aload_n 0, 1, []), (.sipush 2280, 3, [2280]), (.invokevirtual 349, 3, [300, 2246, 2, 2, 13]), (.aload_n 0, 1, []), (.iconst 1, 1, [1]), (.iload_n 1, 1, []), (.ishl, 1, []), (.invokevirtual 355, 3, [303, 2250, 2, 0, 13]), (.istore_n 2, 1, []), (.aload_n 0, 1, []), (.sipush 2280, 3, [2280]), (.invokevirtual 358, 3, [301, 2254, 2, 2, 13]), (.aload_n 0, 1, []), (.iload_n 2, 1, []), (.invokevirtual 92, 3, [215, 2048, 2, 0, 13]), (.ireturn, 1, [0])]
def mX12_upIn : qMI := (yX12_upIn, cX12_upIn, 3, (some .int), 12, [2245, 273, 2243, 2244], 1, false, [(0, kX12_upIn_0), (15, kX12_upIn_15)])
def kX12_upBy_0 : List qIns := [(.iload_n 1, 1, []), (.i2l, 1, []), (.lconst 0, 1, []), (.ldc2_w 361, 3, [2262, 200]), (.invokestatic 319, 3, [225, 2140, 3, 0, 0]), (.ifCond .ne 9, 3, [18]), (.aload_n 0, 1, []), (.iconst 1, 1, [1]), (.invokevirtual 88, 3, [214, 1955, 2, 0, 13]), (.ireturn, 1, [0])]
def kX12_upBy_18 : List qIns := [(.aload_n 0, 1, []), (.sipush 2280, 3, [2280]), (.invokevirtual 349, 3, [300, 2246, 2, 2, 13]), (.aload_n 0, 1, []), (.iload_n 1, 1, []), (.invokevirtual 323, 3, [281, 2143, 2, 0, 13]), (.pop, 1, []), (.aload_n 0, 1, []), (.invokevirtual 287, 3, [270, 2080, 1, 0, 13]), (.istore_n 2, 1, []), (.aload_n 0, 1, []), (.sipush 2280, 3, [2280]), (.invokevirtual 358, 3, [301, 2254, 2, 2, 13]), (.aload_n 0, 1, []), (.iload_n 2, 1, []), (.invokevirtual 92, 3, [215, 2048, 2, 0, 13]), (.ireturn, 1, [0])]
def mX12_upBy : qMI := (yX12_upBy, cX12_upBy, 3, (some .int), 12, [2261, 273, 2259, 2260], 1, false, [(0, kX12_upBy_0), (18, kX12_upBy_18)])
def kX12_breakfast_0 : List qIns := [(.aload_n 0, 1, []), (.aload_n 0, 1, []), (.invokevirtual 363, 3, [304, 2267, 1, 0, 13]), (.invokevirtual 92, 3, [215, 2048, 2, 0, 13]), (.ireturn, 1, [0])]
def mX12_breakfast : qMI := (yX12_breakfast, cX12_breakfast, 1, (some .int), 12, [2266, 273, 2264, 2265], 0, false, [(0, kX12_breakfast_0)])
def kX12_overOf_0 : List qIns := [(.iconst 0, 1, [0]), (.istore_n 2, 1, []), (.nop, 0, [2])]
def kX12_overOf_2 : List qIns := [(.aload_n 0, 1, []), (.iload_n 1, 1, []), (.invokevirtual 260, 3, [266, 2088, 2, 0, 13]), (.ifCond .eq 14, 3, [21]), (.aload_n 0, 1, []), (.invokevirtual 314, 3, [280, 2147, 1, 0, 13]), (.pop, 1, []), (.iinc 2 1, 3, [1]), (.goto (-16), 3, [2])]
def kX12_overOf_21 : List qIns := [(.iload_n 2, 1, []), (.ireturn, 1, [0])]
def mX12_overOf : qMI := (yX12_overOf, cX12_overOf, 3, (some .int), 12, [2282, 273, 2281, 97], 1, false, [(0, kX12_overOf_0), (2, kX12_overOf_2), (21, kX12_overOf_21)])
def kX12_overIn_0 : List qIns := [(.aload_n 0, 1, []), (.iload_n 1, 1, []), (.invokevirtual 300, 3, [260, 2131, 2, 0, 13]), (.ifCond .ne 9, 3, [14]), (.aload_n 0, 1, []), (.iconst 1, 1, [1]), (.invokevirtual 88, 3, [214, 1955, 2, 0, 13]), (.ireturn, 1, [0])]
def kX12_overIn_14 : List qIns := [(.aload_n 0, 1, []), (.sipush 2280, 3, [2280]), (.invokevirtual 349, 3, [300, 2246, 2, 2, 13]), (.aload_n 0, 1, []), (.iload_n 1, 1, []), (.invokevirtual 366, 3, [308, 2279, 2, 0, 13]), (.istore_n 2, 1, []), (.aload_n 0, 1, []), (.sipush 2280, 3, [2280]), (.invokevirtual 358, 3, [301, 2254, 2, 2, 13]), (.aload_n 0, 1, []), (.iload_n 2, 1, []), (.invokevirtual 92, 3, [215, 2048, 2, 0, 13]), (.ireturn, 1, [0])]
def mX12_overIn : qMI := (yX12_overIn, cX12_overIn, 3, (some .int), 12, [2278, 273, 2276, 2277], 1, false, [(0, kX12_overIn_0), (14, kX12_overIn_14)])
def kX12_yielder_0 : List qIns := [(.aload_n 0, 1, []), (.iload_n 1, 1, []), (.invokevirtual 300, 3, [260, 2131, 2, 0, 13]), (.ifCond .ne 9, 3, [14]), (.aload_n 0, 1, []), (.iconst 1, 1, [1]), (.invokevirtual 88, 3, [214, 1955, 2, 0, 13]), (.ireturn, 1, [0])]
def kX12_yielder_14 : List qIns := [(.aload_n 0, 1, []), (.sipush 2280, 3, [2280]), (.invokevirtual 349, 3, [300, 2246, 2, 2, 13]), (.aload_n 0, 1, []), (.iload_n 1, 1, []), (.invokevirtual 366, 3, [308, 2279, 2, 0, 13]), (.pop, 1, []), (.aload_n 0, 1, []), (.iload_n 1, 1, []), (.iconst 3, 1, [3]), (.invokevirtual 257, 3, [265, 2092, 3, 0, 13]), (.istore_n 2, 1, []), (.aload_n 0, 1, []), (.sipush 2280, 3, [2280]), (.invokevirtual 358, 3, [301, 2254, 2, 2, 13]), (.aload_n 0, 1, []), (.iload_n 2, 1, []), (.invokevirtual 92, 3, [215, 2048, 2, 0, 13]), (.ireturn, 1, [0])]
def mX12_yielder : qMI := (yX12_yielder, cX12_yielder, 3, (some .int), 12, [2286, 273, 2284, 2285], 1, false, [(0, kX12_yielder_0), (14, kX12_yielder_14)])
def kX12_firstOf_0 : List qIns := [(.iconst 0, 1, [0]), (.istore_n 1, 1, []), (.nop, 0, [2])]
def kX12_firstOf_2 : List qIns := [(.iload_n 0, 1, []), (.iload_n 1, 1, []), (.ishr, 1, []), (.iconst 1, 1, [1]), (.iand, 1, []), (.ifCond .ne 9, 3, [16]), (.iinc 1 1, 3, [1]), (.goto (-11), 3, [2])]
def kX12_firstOf_16 : List qIns := [(.iload_n 1, 1, []), (.ireturn, 1, [0])]
def mX12_firstOf : qMI := (yX12_firstOf, cX12_firstOf, 2, (some .int), 12, [2309, 273, 2308], 1, true, [(0, kX12_firstOf_0), (2, kX12_firstOf_2), (16, kX12_firstOf_16)])
def kX12_reveille_0 : List qIns := [(.aload_n 0, 1, []), (.invokevirtual 290, 3, [268, 2104, 1, 0, 13]), (.ifCond .ne 10, 3, [14]), (.aload_n 0, 1, []), (.bipush 6, 2, [6]), (.invokevirtual 88, 3, [214, 1955, 2, 0, 13]), (.ireturn, 1, [0])]
def kX12_reveille_14 : List qIns := [(.aload_n 0, 1, []), (.sipush 2280, 3, [2280]), (.invokevirtual 349, 3, [300, 2246, 2, 2, 13]), (.aload_n 0, 1, []), (.iconst 0, 1, [0]), (.putfield 303, 3, [12, 24, 1750, 0]), (.nop, 0, [26])]
def kX12_reveille_26 : List qIns := [(.aload_n 0, 1, []), (.getfield 303, 3, [12, 24, 1750, 0]), (.ifCond .ne 11, 3, [41]), (.aload_n 0, 1, []), (.invokevirtual 314, 3, [280, 2147, 1, 0, 13]), (.pop, 1, []), (.goto (-12), 3, [26])]
def kX12_reveille_41 : List qIns := [(.aload_n 0, 1, []), (.sipush 2280, 3, [2280]), (.invokevirtual 358, 3, [301, 2254, 2, 2, 13]), (.aload_n 0, 1, []), (.aload_n 0, 1, []), (.getfield 303, 3, [12, 24, 1750, 0]), (.invokestatic 369, 3, [311, 2307, 1, 0, 0]), (.invokevirtual 92, 3, [215, 2048, 2, 0, 13]), (.ireturn, 1, [0])]
def mX12_reveille : qMI := (yX12_reveille, cX12_reveille, 1, (some .int), 12, [2306, 273, 2304, 2305], 0, false, [(0, kX12_reveille_0), (14, kX12_reveille_14), (26, kX12_reveille_26), (41, kX12_reveille_41)])
def kX12_laysUp_0 : List qIns := [(.aload_n 0, 1, []), (.sipush 2280, 3, [2280]), (.invokevirtual 349, 3, [300, 2246, 2, 2, 13]), (.iconst 0, 1, [0]), (.istore_n 1, 1, []), (.iconst 0, 1, [0]), (.istore_n 2, 1, []), (.nop, 0, [11])]
def kX12_laysUp_11 : List qIns := [(.iload_n 1, 1, []), (.aload_n 0, 1, []), (.invokevirtual 352, 3, [302, 2271, 1, 0, 13]), (.if_icmp .eq 65, 3, [81]), (.aload_n 0, 1, []), (.invokevirtual 287, 3, [270, 2080, 1, 0, 13]), (.istore_n 3, 1, []), (.iconst 0, 1, [0]), (.istore 4, 2, []), (.nop, 0, [27])]
def kX12_laysUp_27 : List qIns := [(.iload 4, 2, []), (.aload_n 0, 1, []), (.getfield 7, 3, [12, 0, 1726, 2]), (.iconst 0, 1, [0]), (.iaload, 1, []), (.if_icmp .ge 31, 3, [66]), (.aload_n 0, 1, []), (.iload_n 3, 1, []), (.iload_n 1, 1, []), (.iconst (-1), 1, []), (.ixor, 1, []), (.iand, 1, []), (.iload 4, 2, []), (.invokevirtual 266, 3, [262, 2100, 3, 0, 13]), (.ifCond .eq 11, 3, [60]), (.aload_n 0, 1, []), (.getfield 47, 3, [12, 25, 1751, 2]), (.iload 4, 2, []), (.iload_n 2, 1, []), (.iastore, 1, []), (.nop, 0, [60])]
def kX12_laysUp_60 : List qIns := [(.iinc 4 1, 3, [1]), (.goto (-36), 3, [27])]
def kX12_laysUp_66 : List qIns := [(.iload_n 1, 1, []), (.iload_n 3, 1, []), (.ior, 1, []), (.istore_n 1, 1, []), (.aload_n 0, 1, []), (.invokevirtual 314, 3, [280, 2147, 1, 0, 13]), (.pop, 1, []), (.iinc 2 1, 3, [1]), (.goto (-67), 3, [11])]
def kX12_laysUp_81 : List qIns := [(.aload_n 0, 1, []), (.sipush 2280, 3, [2280]), (.invokevirtual 358, 3, [301, 2254, 2, 2, 13]), (.return_, 1, [])]
def mX12_laysUp : qMI := (yX12_laysUp, cX12_laysUp, 5, none, 12, [2317, 273, 2316, 98], 0, false, [(0, kX12_laysUp_0), (11, kX12_laysUp_11), (27, kX12_laysUp_27), (60, kX12_laysUp_60), (66, kX12_laysUp_66), (81, kX12_laysUp_81)])
def kX12_last_0 : List qIns := [(.aload_n 0, 1, []), (.invokevirtual 372, 3, [313, 2314, 1, 2, 13]), (.iconst (-1), 1, []), (.istore_n 1, 1, []), (.iconst 0, 1, [0]), (.istore_n 2, 1, []), (.nop, 0, [8])]
def kX12_last_8 : List qIns := [(.iload_n 2, 1, []), (.aload_n 0, 1, []), (.getfield 7, 3, [12, 0, 1726, 2]), (.iconst 0, 1, [0]), (.iaload, 1, []), (.if_icmp .ge 31, 3, [46]), (.iload_n 1, 1, []), (.iconst (-1), 1, []), (.if_icmp .eq 18, 3, [38]), (.aload_n 0, 1, []), (.getfield 47, 3, [12, 25, 1751, 2]), (.iload_n 2, 1, []), (.iaload, 1, []), (.aload_n 0, 1, []), (.getfield 47, 3, [12, 25, 1751, 2]), (.iload_n 1, 1, []), (.iaload, 1, []), (.if_icmp .le 5, 3, [40]), (.nop, 0, [38])]
def kX12_last_38 : List qIns := [(.iload_n 2, 1, []), (.istore_n 1, 1, []), (.nop, 0, [40])]
def kX12_last_40 : List qIns := [(.iinc 2 1, 3, [1]), (.goto (-35), 3, [8])]
def kX12_last_46 : List qIns := [(.aload_n 0, 1, []), (.iload_n 1, 1, []), (.invokevirtual 375, 3, [216, 2318, 2, 0, 13]), (.ireturn, 1, [0])]
def mX12_last : qMI := (yX12_last, cX12_last, 3, (some .int), 12, [2313, 273, 2311, 2312], 0, false, [(0, kX12_last_0), (8, kX12_last_8), (38, kX12_last_38), (40, kX12_last_40), (46, kX12_last_46)])
def kX12_laysSoonest_0 : List qIns := [(.aload_n 0, 1, []), (.iconst (-1), 1, []), (.putfield 378, 3, [12, 26, 1752, 0]), (.aload_n 0, 1, []), (.ldc_w 381, 3, [2331, 1000000]), (.putfield 382, 3, [12, 27, 1753, 0]), (.aload_n 0, 1, []), (.sipush 2736, 3, [2736]), (.invokevirtual 349, 3, [300, 2246, 2, 2, 13]), (.iconst 0, 1, [0]), (.istore_n 2, 1, []), (.nop, 0, [21])]
def kX12_laysSoonest_21 : List qIns := [(.iload_n 2, 1, []), (.aload_n 0, 1, []), (.invokevirtual 352, 3, [302, 2271, 1, 0, 13]), (.if_icmp .gt 86, 3, [112]), (.iload_n 2, 1, []), (.invokestatic 284, 3, [263, 2120, 1, 0, 0]), (.iload_n 1, 1, []), (.if_icmp .eq 6, 3, [40]), (.goto 69, 3, [106])]
def kX12_laysSoonest_40 : List qIns := [(.iconst 0, 1, [0]), (.istore_n 3, 1, []), (.nop, 0, [42])]
def kX12_laysSoonest_42 : List qIns := [(.iload_n 3, 1, []), (.aload_n 0, 1, []), (.getfield 7, 3, [12, 0, 1726, 2]), (.iconst 0, 1, [0]), (.iaload, 1, []), (.if_icmp .ge 24, 3, [73]), (.aload_n 0, 1, []), (.iload_n 2, 1, []), (.iload_n 3, 1, []), (.invokevirtual 266, 3, [262, 2100, 3, 0, 13]), (.ifCond .eq 9, 3, [67]), (.aload_n 0, 1, []), (.iload_n 3, 1, []), (.invokevirtual 334, 3, [287, 2191, 2, 0, 13]), (.pop, 1, []), (.nop, 0, [67])]
def kX12_laysSoonest_67 : List qIns := [(.iinc 3 1, 3, [1]), (.goto (-28), 3, [42])]
def kX12_laysSoonest_73 : List qIns := [(.aload_n 0, 1, []), (.invokevirtual 363, 3, [304, 2267, 1, 0, 13]), (.istore_n 3, 1, []), (.aload_n 0, 1, []), (.sipush 2736, 3, [2736]), (.invokevirtual 358, 3, [301, 2254, 2, 2, 13]), (.iload_n 3, 1, []), (.aload_n 0, 1, []), (.getfield 382, 3, [12, 27, 1753, 0]), (.if_icmp .lt 6, 3, [96]), (.goto 13, 3, [106])]
def kX12_laysSoonest_96 : List qIns := [(.aload_n 0, 1, []), (.iload_n 3, 1, []), (.putfield 382, 3, [12, 27, 1753, 0]), (.aload_n 0, 1, []), (.iload_n 2, 1, []), (.putfield 378, 3, [12, 26, 1752, 0]), (.nop, 0, [106])]
def kX12_laysSoonest_106 : List qIns := [(.iinc 2 1, 3, [1]), (.goto (-88), 3, [21])]
def kX12_laysSoonest_112 : List qIns := [(.return_, 1, [])]
def mX12_laysSoonest : qMI := (yX12_laysSoonest, cX12_laysSoonest, 4, none, 12, [2330, 273, 2329, 100], 1, false, [(0, kX12_laysSoonest_0), (21, kX12_laysSoonest_21), (40, kX12_laysSoonest_40), (42, kX12_laysSoonest_42), (67, kX12_laysSoonest_67), (73, kX12_laysSoonest_73), (96, kX12_laysSoonest_96), (106, kX12_laysSoonest_106), (112, kX12_laysSoonest_112)])
def kX12_soonest_0 : List qIns := [(.iload_n 1, 1, []), (.i2l, 1, []), (.lconst 0, 1, []), (.ldc2_w 385, 3, [2326, 4]), (.invokestatic 319, 3, [225, 2140, 3, 0, 0]), (.ifCond .ne 9, 3, [18]), (.aload_n 0, 1, []), (.iconst 1, 1, [1]), (.invokevirtual 88, 3, [214, 1955, 2, 0, 13]), (.ireturn, 1, [0])]
def kX12_soonest_18 : List qIns := [(.aload_n 0, 1, []), (.iload_n 1, 1, []), (.invokevirtual 387, 3, [315, 2327, 2, 2, 13]), (.aload_n 0, 1, []), (.aload_n 0, 1, []), (.getfield 378, 3, [12, 26, 1752, 0]), (.invokevirtual 375, 3, [216, 2318, 2, 0, 13]), (.ireturn, 1, [0])]
def mX12_soonest : qMI := (yX12_soonest, cX12_soonest, 2, (some .int), 12, [2325, 273, 2323, 2324], 1, false, [(0, kX12_soonest_0), (18, kX12_soonest_18)])
def kX12_soonestIn_0 : List qIns := [(.iload_n 1, 1, []), (.i2l, 1, []), (.lconst 0, 1, []), (.ldc2_w 385, 3, [2326, 4]), (.invokestatic 319, 3, [225, 2140, 3, 0, 0]), (.ifCond .ne 9, 3, [18]), (.aload_n 0, 1, []), (.iconst 1, 1, [1]), (.invokevirtual 88, 3, [214, 1955, 2, 0, 13]), (.ireturn, 1, [0])]
def kX12_soonestIn_18 : List qIns := [(.aload_n 0, 1, []), (.iload_n 1, 1, []), (.invokevirtual 387, 3, [315, 2327, 2, 2, 13]), (.aload_n 0, 1, []), (.getfield 378, 3, [12, 26, 1752, 0]), (.iconst (-1), 1, []), (.if_icmp .ne 12, 3, [40]), (.aload_n 0, 1, []), (.bipush 6, 2, [6]), (.invokevirtual 88, 3, [214, 1955, 2, 0, 13]), (.goto 11, 3, [48])]
def kX12_soonestIn_40 : List qIns := [(.aload_n 0, 1, []), (.aload_n 0, 1, []), (.getfield 382, 3, [12, 27, 1753, 0]), (.invokevirtual 92, 3, [215, 2048, 2, 0, 13]), (.nop, 0, [48])]
def kX12_soonestIn_48 : List qIns := [(.ireturn, 1, [0])]
def mX12_soonestIn : qMI := (yX12_soonestIn, cX12_soonestIn, 2, (some .int), 12, [2335, 273, 2333, 2334], 1, false, [(0, kX12_soonestIn_0), (18, kX12_soonestIn_18), (40, kX12_soonestIn_40), (48, kX12_soonestIn_48)])
def kX12_laysBest_0 : List qIns := [(.aload_n 0, 1, []), (.iload_n 1, 1, []), (.iconst 0, 1, [0]), (.invokevirtual 272, 3, [264, 2123, 3, 0, 13]), (.istore_n 2, 1, []), (.aload_n 0, 1, []), (.ldc_w 381, 3, [2331, 1000000]), (.putfield 390, 3, [12, 29, 1755, 0]), (.iconst 0, 1, [0]), (.istore_n 3, 1, []), (.nop, 0, [16])]
def kX12_laysBest_16 : List qIns := [(.iload_n 3, 1, []), (.aload_n 0, 1, []), (.invokevirtual 239, 3, [253, 2068, 1, 0, 13]), (.if_icmp .ge 48, 3, [69]), (.aload_n 0, 1, []), (.getfield 7, 3, [12, 0, 1726, 2]), (.iload_n 1, 1, []), (.invokestatic 198, 3, [244, 1990, 1, 0, 0]), (.iload_n 3, 1, []), (.iastore, 1, []), (.aload_n 0, 1, []), (.invokevirtual 363, 3, [304, 2267, 1, 0, 13]), (.istore 4, 2, []), (.iload 4, 2, []), (.aload_n 0, 1, []), (.getfield 390, 3, [12, 29, 1755, 0]), (.if_icmp .lt 6, 3, [52]), (.goto 14, 3, [63])]
def kX12_laysBest_52 : List qIns := [(.aload_n 0, 1, []), (.iload 4, 2, []), (.putfield 390, 3, [12, 29, 1755, 0]), (.aload_n 0, 1, []), (.iload_n 3, 1, []), (.putfield 393, 3, [12, 28, 1754, 0]), (.nop, 0, [63])]
def kX12_laysBest_63 : List qIns := [(.iinc 3 1, 3, [1]), (.goto (-50), 3, [16])]
def kX12_laysBest_69 : List qIns := [(.aload_n 0, 1, []), (.getfield 7, 3, [12, 0, 1726, 2]), (.iload_n 1, 1, []), (.invokestatic 198, 3, [244, 1990, 1, 0, 0]), (.iload_n 2, 1, []), (.iastore, 1, []), (.return_, 1, [])]
def mX12_laysBest : qMI := (yX12_laysBest, cX12_laysBest, 5, none, 12, [2343, 273, 2342, 101], 1, false, [(0, kX12_laysBest_0), (16, kX12_laysBest_16), (52, kX12_laysBest_52), (63, kX12_laysBest_63), (69, kX12_laysBest_69)])
def kX12_best_0 : List qIns := [(.aload_n 0, 1, []), (.iload_n 1, 1, []), (.i2l, 1, []), (.invokevirtual 296, 3, [259, 2116, 2, 0, 13]), (.ifCond .ne 9, 3, [15]), (.aload_n 0, 1, []), (.iconst 1, 1, [1]), (.invokevirtual 88, 3, [214, 1955, 2, 0, 13]), (.ireturn, 1, [0])]
def kX12_best_15 : List qIns := [(.aload_n 0, 1, []), (.iload_n 1, 1, []), (.invokevirtual 396, 3, [318, 2340, 2, 2, 13]), (.aload_n 0, 1, []), (.aload_n 0, 1, []), (.getfield 393, 3, [12, 28, 1754, 0]), (.invokevirtual 92, 3, [215, 2048, 2, 0, 13]), (.ireturn, 1, [0])]
def mX12_best : qMI := (yX12_best, cX12_best, 2, (some .int), 12, [2339, 273, 2337, 2338], 1, false, [(0, kX12_best_0), (15, kX12_best_15)])
def kX12_bestIn_0 : List qIns := [(.aload_n 0, 1, []), (.iload_n 1, 1, []), (.i2l, 1, []), (.invokevirtual 296, 3, [259, 2116, 2, 0, 13]), (.ifCond .ne 9, 3, [15]), (.aload_n 0, 1, []), (.iconst 1, 1, [1]), (.invokevirtual 88, 3, [214, 1955, 2, 0, 13]), (.ireturn, 1, [0])]
def kX12_bestIn_15 : List qIns := [(.aload_n 0, 1, []), (.iload_n 1, 1, []), (.invokevirtual 396, 3, [318, 2340, 2, 2, 13]), (.aload_n 0, 1, []), (.aload_n 0, 1, []), (.getfield 390, 3, [12, 29, 1755, 0]), (.invokevirtual 92, 3, [215, 2048, 2, 0, 13]), (.ireturn, 1, [0])]
def mX12_bestIn : qMI := (yX12_bestIn, cX12_bestIn, 2, (some .int), 12, [2347, 273, 2345, 2346], 1, false, [(0, kX12_bestIn_0), (15, kX12_bestIn_15)])
def kX12_endsAll_0 : List qIns := [(.iconst 0, 1, [0]), (.istore_n 2, 1, []), (.nop, 0, [2])]
def kX12_endsAll_2 : List qIns := [(.iload_n 2, 1, []), (.aload_n 0, 1, []), (.getfield 7, 3, [12, 0, 1726, 2]), (.iconst 1, 1, [1]), (.iaload, 1, []), (.if_icmp .ge 29, 3, [38]), (.aload_n 0, 1, []), (.iload_n 2, 1, []), (.invokevirtual 260, 3, [266, 2088, 2, 0, 13]), (.ifCond .eq 15, 3, [32]), (.aload_n 0, 1, []), (.iload_n 2, 1, []), (.invokevirtual 263, 3, [267, 2096, 2, 0, 13]), (.iload_n 1, 1, []), (.iand, 1, []), (.ifCond .ne 5, 3, [32]), (.iconst 0, 1, [0]), (.ireturn, 1, [1])]
def kX12_endsAll_32 : List qIns := [(.iinc 2 1, 3, [1]), (.goto (-33), 3, [2])]
def kX12_endsAll_38 : List qIns := [(.iconst 1, 1, [1]), (.ireturn, 1, [1])]
def mX12_endsAll : qMI := (yX12_endsAll, cX12_endsAll, 3, (some .boolean), 12, [2359, 273, 2358, 103], 1, false, [(0, kX12_endsAll_0), (2, kX12_endsAll_2), (32, kX12_endsAll_32), (38, kX12_endsAll_38)])
def kX12_endingOf_0 : List qIns := [(.aload_n 0, 1, []), (.invokevirtual 352, 3, [302, 2271, 1, 0, 13]), (.istore_n 1, 1, []), (.iconst 0, 1, [0]), (.istore_n 2, 1, []), (.nop, 0, [7])]
def kX12_endingOf_7 : List qIns := [(.iload_n 2, 1, []), (.aload_n 0, 1, []), (.invokevirtual 352, 3, [302, 2271, 1, 0, 13]), (.if_icmp .gt 30, 3, [42]), (.iload_n 2, 1, []), (.invokestatic 284, 3, [263, 2120, 1, 0, 0]), (.iload_n 1, 1, []), (.invokestatic 284, 3, [263, 2120, 1, 0, 0]), (.if_icmp .ge 13, 3, [36]), (.aload_n 0, 1, []), (.iload_n 2, 1, []), (.invokevirtual 399, 3, [321, 2356, 2, 0, 13]), (.ifCond .eq 5, 3, [36]), (.iload_n 2, 1, []), (.istore_n 1, 1, []), (.nop, 0, [36])]
def kX12_endingOf_36 : List qIns := [(.iinc 2 1, 3, [1]), (.goto (-32), 3, [7])]
def kX12_endingOf_42 : List qIns := [(.iload_n 1, 1, []), (.ireturn, 1, [0])]
def mX12_endingOf : qMI := (yX12_endingOf, cX12_endingOf, 3, (some .int), 12, [2355, 273, 2354, 102], 0, false, [(0, kX12_endingOf_0), (7, kX12_endingOf_7), (36, kX12_endingOf_36), (42, kX12_endingOf_42)])
def kX12_ending_0 : List qIns := [(.aload_n 0, 1, []), (.aload_n 0, 1, []), (.invokevirtual 290, 3, [268, 2104, 1, 0, 13]), (.ifCond .ne 7, 3, [12]), (.iconst 0, 1, [0]), (.goto 10, 3, [19])]
def kX12_ending_12 : List qIns := [(.aload_n 0, 1, []), (.invokevirtual 402, 3, [322, 2352, 1, 0, 13]), (.invokestatic 284, 3, [263, 2120, 1, 0, 0]), (.nop, 0, [19])]
def kX12_ending_19 : List qIns := [(.invokevirtual 92, 3, [215, 2048, 2, 0, 13]), (.ireturn, 1, [0])]
def mX12_ending : qMI := (yX12_ending, cX12_ending, 1, (some .int), 12, [2351, 273, 2349, 2350], 0, false, [(0, kX12_ending_0), (12, kX12_ending_12), (19, kX12_ending_19)])
def kX12_endingSet_0 : List qIns := [(.aload_n 0, 1, []), (.aload_n 0, 1, []), (.invokevirtual 290, 3, [268, 2104, 1, 0, 13]), (.ifCond .ne 7, 3, [12]), (.iconst 0, 1, [0]), (.goto 7, 3, [16])]
def kX12_endingSet_12 : List qIns := [(.aload_n 0, 1, []), (.invokevirtual 402, 3, [322, 2352, 1, 0, 13]), (.nop, 0, [16])]
def kX12_endingSet_16 : List qIns := [(.invokevirtual 92, 3, [215, 2048, 2, 0, 13]), (.ireturn, 1, [0])]
def mX12_endingSet : qMI := (yX12_endingSet, cX12_endingSet, 1, (some .int), 12, [2363, 273, 2361, 2362], 0, false, [(0, kX12_endingSet_0), (12, kX12_endingSet_12), (16, kX12_endingSet_16)])
def kX12_apartOnes_0 : List qIns := [(.iconst 0, 1, [0]), (.istore_n 1, 1, []), (.iconst 1, 1, [1]), (.istore_n 2, 1, []), (.nop, 0, [4])]
def kX12_apartOnes_4 : List qIns := [(.iload_n 2, 1, []), (.iconst 1, 1, [1]), (.aload_n 0, 1, []), (.getfield 7, 3, [12, 0, 1726, 2]), (.iconst 1, 1, [1]), (.iaload, 1, []), (.ishl, 1, []), (.if_icmp .ge 90, 3, [103]), (.iload_n 2, 1, []), (.aload_n 0, 1, []), (.invokevirtual 290, 3, [268, 2104, 1, 0, 13]), (.iconst (-1), 1, []), (.ixor, 1, []), (.iand, 1, []), (.ifCond .ne 73, 3, [97]), (.iload_n 2, 1, []), (.invokestatic 284, 3, [263, 2120, 1, 0, 0]), (.iload_n 1, 1, []), (.invokestatic 284, 3, [263, 2120, 1, 0, 0]), (.if_icmp .gt 6, 3, [41]), (.goto 59, 3, [97])]
def kX12_apartOnes_41 : List qIns := [(.iconst 0, 1, [0]), (.istore_n 3, 1, []), (.iconst 0, 1, [0]), (.istore 4, 2, []), (.nop, 0, [46])]
def kX12_apartOnes_46 : List qIns := [(.iload 4, 2, []), (.aload_n 0, 1, []), (.getfield 7, 3, [12, 0, 1726, 2]), (.iconst 1, 1, [1]), (.iaload, 1, []), (.if_icmp .ge 28, 3, [82]), (.aload_n 0, 1, []), (.iload_n 2, 1, []), (.iload 4, 2, []), (.invokevirtual 266, 3, [262, 2100, 3, 0, 13]), (.ifCond .eq 12, 3, [76]), (.iload_n 3, 1, []), (.aload_n 0, 1, []), (.iload 4, 2, []), (.invokevirtual 263, 3, [267, 2096, 2, 0, 13]), (.ior, 1, []), (.istore_n 3, 1, []), (.nop, 0, [76])]
def kX12_apartOnes_76 : List qIns := [(.iinc 4 1, 3, [1]), (.goto (-33), 3, [46])]
def kX12_apartOnes_82 : List qIns := [(.iload_n 3, 1, []), (.invokestatic 284, 3, [263, 2120, 1, 0, 0]), (.iconst 2, 1, [2]), (.iload_n 2, 1, []), (.invokestatic 284, 3, [263, 2120, 1, 0, 0]), (.imul, 1, []), (.if_icmp .ne 5, 3, [97]), (.iload_n 2, 1, []), (.istore_n 1, 1, []), (.nop, 0, [97])]
def kX12_apartOnes_97 : List qIns := [(.iinc 2 1, 3, [1]), (.goto (-96), 3, [4])]
def kX12_apartOnes_103 : List qIns := [(.iload_n 1, 1, []), (.ireturn, 1, [0])]
def mX12_apartOnes : qMI := (yX12_apartOnes, cX12_apartOnes, 5, (some .int), 12, [2371, 273, 2370, 104], 0, false, [(0, kX12_apartOnes_0), (4, kX12_apartOnes_4), (41, kX12_apartOnes_41), (46, kX12_apartOnes_46), (76, kX12_apartOnes_76), (82, kX12_apartOnes_82), (97, kX12_apartOnes_97), (103, kX12_apartOnes_103)])
def kX12_apart_0 : List qIns := [(.aload_n 0, 1, []), (.aload_n 0, 1, []), (.invokevirtual 405, 3, [325, 2368, 1, 0, 13]), (.invokestatic 284, 3, [263, 2120, 1, 0, 0]), (.invokevirtual 92, 3, [215, 2048, 2, 0, 13]), (.ireturn, 1, [0])]
def mX12_apart : qMI := (yX12_apart, cX12_apart, 1, (some .int), 12, [2367, 273, 2365, 2366], 0, false, [(0, kX12_apart_0)])
def kX12_apartSet_0 : List qIns := [(.aload_n 0, 1, []), (.aload_n 0, 1, []), (.invokevirtual 405, 3, [325, 2368, 1, 0, 13]), (.invokevirtual 92, 3, [215, 2048, 2, 0, 13]), (.ireturn, 1, [0])]
def mX12_apartSet : qMI := (yX12_apartSet, cX12_apartSet, 1, (some .int), 12, [2375, 273, 2373, 2374], 0, false, [(0, kX12_apartSet_0)])
def kX12_circleOf_0 : List qIns := [(.iconst 1, 1, [1]), (.iload_n 1, 1, []), (.ishl, 1, []), (.istore_n 2, 1, []), (.iconst 0, 1, [0]), (.istore_n 3, 1, []), (.nop, 0, [6])]
def kX12_circleOf_6 : List qIns := [(.iload_n 3, 1, []), (.bipush 8, 2, [8]), (.if_icmp .ge 58, 3, [67]), (.iconst 0, 1, [0]), (.istore 4, 2, []), (.nop, 0, [15])]
def kX12_circleOf_15 : List qIns := [(.iload 4, 2, []), (.aload_n 0, 1, []), (.getfield 7, 3, [12, 0, 1726, 2]), (.iconst 1, 1, [1]), (.iaload, 1, []), (.if_icmp .ge 38, 3, [61]), (.aload_n 0, 1, []), (.iload 4, 2, []), (.invokevirtual 260, 3, [266, 2088, 2, 0, 13]), (.ifCond .eq 23, 3, [55]), (.aload_n 0, 1, []), (.iload 4, 2, []), (.invokevirtual 263, 3, [267, 2096, 2, 0, 13]), (.iload_n 2, 1, []), (.iand, 1, []), (.ifCond .eq 12, 3, [55]), (.iload_n 2, 1, []), (.aload_n 0, 1, []), (.iload 4, 2, []), (.invokevirtual 263, 3, [267, 2096, 2, 0, 13]), (.ior, 1, []), (.istore_n 2, 1, []), (.nop, 0, [55])]
def kX12_circleOf_55 : List qIns := [(.iinc 4 1, 3, [1]), (.goto (-43), 3, [15])]
def kX12_circleOf_61 : List qIns := [(.iinc 3 1, 3, [1]), (.goto (-58), 3, [6])]
def kX12_circleOf_67 : List qIns := [(.iload_n 2, 1, []), (.ireturn, 1, [0])]
def mX12_circleOf : qMI := (yX12_circleOf, cX12_circleOf, 5, (some .int), 12, [2383, 273, 2382, 105], 1, false, [(0, kX12_circleOf_0), (6, kX12_circleOf_6), (15, kX12_circleOf_15), (55, kX12_circleOf_55), (61, kX12_circleOf_61), (67, kX12_circleOf_67)])
def kX12_circle_0 : List qIns := [(.aload_n 0, 1, []), (.iload_n 1, 1, []), (.i2l, 1, []), (.invokevirtual 296, 3, [259, 2116, 2, 0, 13]), (.ifCond .eq 15, 3, [21]), (.aload_n 0, 1, []), (.aload_n 0, 1, []), (.iload_n 1, 1, []), (.invokevirtual 408, 3, [328, 2380, 2, 0, 13]), (.invokevirtual 92, 3, [215, 2048, 2, 0, 13]), (.goto 8, 3, [26])]
def kX12_circle_21 : List qIns := [(.aload_n 0, 1, []), (.iconst 1, 1, [1]), (.invokevirtual 88, 3, [214, 1955, 2, 0, 13]), (.nop, 0, [26])]
def kX12_circle_26 : List qIns := [(.ireturn, 1, [0])]
def mX12_circle : qMI := (yX12_circle, cX12_circle, 2, (some .int), 12, [2379, 273, 2377, 2378], 1, false, [(0, kX12_circle_0), (21, kX12_circle_21), (26, kX12_circle_26)])
def kX12_circles_0 : List qIns := [(.iconst 0, 1, [0]), (.istore_n 1, 1, []), (.iconst 0, 1, [0]), (.istore_n 2, 1, []), (.nop, 0, [4])]
def kX12_circles_4 : List qIns := [(.iload_n 2, 1, []), (.aload_n 0, 1, []), (.getfield 7, 3, [12, 0, 1726, 2]), (.iconst 0, 1, [0]), (.iaload, 1, []), (.if_icmp .ge 29, 3, [40]), (.iload_n 1, 1, []), (.aload_n 0, 1, []), (.iload_n 2, 1, []), (.invokevirtual 408, 3, [328, 2380, 2, 0, 13]), (.invokestatic 369, 3, [311, 2307, 1, 0, 0]), (.iload_n 2, 1, []), (.if_icmp .ne 7, 3, [31]), (.iconst 1, 1, [1]), (.goto 4, 3, [32])]
def kX12_circles_31 : List qIns := [(.iconst 0, 1, [0]), (.nop, 0, [32])]
def kX12_circles_32 : List qIns := [(.iadd, 1, []), (.istore_n 1, 1, []), (.iinc 2 1, 3, [1]), (.goto (-33), 3, [4])]
def kX12_circles_40 : List qIns := [(.aload_n 0, 1, []), (.iload_n 1, 1, []), (.invokevirtual 92, 3, [215, 2048, 2, 0, 13]), (.ireturn, 1, [0])]
def mX12_circles : qMI := (yX12_circles, cX12_circles, 3, (some .int), 12, [2387, 273, 2385, 2386], 0, false, [(0, kX12_circles_0), (4, kX12_circles_4), (31, kX12_circles_31), (32, kX12_circles_32), (40, kX12_circles_40)])
def kX12_isSide_0 : List qIns := [(.iconst 0, 1, [0]), (.istore_n 2, 1, []), (.nop, 0, [2])]
def kX12_isSide_2 : List qIns := [(.iload_n 2, 1, []), (.aload_n 0, 1, []), (.getfield 7, 3, [12, 0, 1726, 2]), (.iconst 1, 1, [1]), (.iaload, 1, []), (.if_icmp .ge 33, 3, [42]), (.aload_n 0, 1, []), (.iload_n 2, 1, []), (.invokevirtual 260, 3, [266, 2088, 2, 0, 13]), (.ifCond .eq 19, 3, [36]), (.aload_n 0, 1, []), (.iload_n 2, 1, []), (.invokevirtual 263, 3, [267, 2096, 2, 0, 13]), (.iload_n 1, 1, []), (.iand, 1, []), (.invokestatic 284, 3, [263, 2120, 1, 0, 0]), (.iconst 1, 1, [1]), (.if_icmp .eq 5, 3, [36]), (.iconst 0, 1, [0]), (.ireturn, 1, [1])]
def kX12_isSide_36 : List qIns := [(.iinc 2 1, 3, [1]), (.goto (-37), 3, [2])]
def kX12_isSide_42 : List qIns := [(.iconst 1, 1, [1]), (.ireturn, 1, [1])]
def mX12_isSide : qMI := (yX12_isSide, cX12_isSide, 3, (some .boolean), 12, [2395, 273, 2394, 106], 1, false, [(0, kX12_isSide_0), (2, kX12_isSide_2), (36, kX12_isSide_36), (42, kX12_isSide_42)])
def kX12_sides_0 : List qIns := [(.iconst 0, 1, [0]), (.istore_n 1, 1, []), (.nop, 0, [2])]
def kX12_sides_2 : List qIns := [(.iload_n 1, 1, []), (.aload_n 0, 1, []), (.invokevirtual 352, 3, [302, 2271, 1, 0, 13]), (.if_icmp .gt 23, 3, [30]), (.aload_n 0, 1, []), (.iload_n 1, 1, []), (.invokevirtual 411, 3, [331, 2392, 2, 0, 13]), (.ifCond .eq 9, 3, [24]), (.aload_n 0, 1, []), (.iload_n 1, 1, []), (.invokevirtual 92, 3, [215, 2048, 2, 0, 13]), (.ireturn, 1, [0])]
def kX12_sides_24 : List qIns := [(.iinc 1 1, 3, [1]), (.goto (-25), 3, [2])]
def kX12_sides_30 : List qIns := [(.aload_n 0, 1, []), (.bipush 6, 2, [6]), (.invokevirtual 88, 3, [214, 1955, 2, 0, 13]), (.ireturn, 1, [0])]
def mX12_sides : qMI := (yX12_sides, cX12_sides, 2, (some .int), 12, [2391, 273, 2389, 2390], 0, false, [(0, kX12_sides_0), (2, kX12_sides_2), (24, kX12_sides_24), (30, kX12_sides_30)])
def kX12_wrongSeen_0 : List qIns := [(.aload_n 0, 1, []), (.iload_n 1, 1, []), (.i2l, 1, []), (.invokevirtual 296, 3, [259, 2116, 2, 0, 13]), (.ifCond .eq 22, 3, [28]), (.iload_n 2, 1, []), (.invokestatic 99, 3, [218, 1892, 1, 0, 0]), (.ifCond .eq 15, 3, [28]), (.iload_n 3, 1, []), (.i2l, 1, []), (.lconst 0, 1, []), (.ldc2_w 414, 3, [2404, 20]), (.invokestatic 319, 3, [225, 2140, 3, 0, 0]), (.ifCond .ne 5, 3, [30]), (.nop, 0, [28])]
def kX12_wrongSeen_28 : List qIns := [(.iconst 1, 1, [1]), (.ireturn, 1, [0])]
def kX12_wrongSeen_30 : List qIns := [(.aload_n 0, 1, []), (.getfield 24, 3, [12, 6, 1732, 2]), (.iload_n 2, 1, []), (.iaload, 1, []), (.iconst (-1), 1, []), (.if_icmp .ne 5, 3, [42]), (.iconst 2, 1, [2]), (.ireturn, 1, [0])]
def kX12_wrongSeen_42 : List qIns := [(.aload_n 0, 1, []), (.getfield 24, 3, [12, 6, 1732, 2]), (.iload_n 2, 1, []), (.iaload, 1, []), (.iconst 2, 1, [2]), (.iload_n 3, 1, []), (.imul, 1, []), (.if_icmp .ge 5, 3, [56]), (.iconst 3, 1, [3]), (.ireturn, 1, [0])]
def kX12_wrongSeen_56 : List qIns := [(.iconst 0, 1, [0]), (.istore 4, 2, []), (.nop, 0, [59])]
def kX12_wrongSeen_59 : List qIns := [(.iload 4, 2, []), (.iload_n 3, 1, []), (.if_icmp .ge 55, 3, [117]), (.bipush 60, 2, [60]), (.iload_n 2, 1, []), (.imul, 1, []), (.iconst 2, 1, [2]), (.iload 4, 2, []), (.imul, 1, []), (.iadd, 1, []), (.istore 5, 2, []), (.aload_n 0, 1, []), (.aload_n 0, 1, []), (.getfield 27, 3, [12, 7, 1733, 2]), (.iload 5, 2, []), (.laload, 1, []), (.invokevirtual 296, 3, [259, 2116, 2, 0, 13]), (.ifCond .eq 22, 3, [109]), (.aload_n 0, 1, []), (.getfield 27, 3, [12, 7, 1733, 2]), (.iload 5, 2, []), (.iconst 1, 1, [1]), (.iadd, 1, []), (.laload, 1, []), (.lconst 0, 1, []), (.ldc2_w 361, 3, [2262, 200]), (.invokestatic 319, 3, [225, 2140, 3, 0, 0]), (.ifCond .ne 5, 3, [111]), (.nop, 0, [109])]
def kX12_wrongSeen_109 : List qIns := [(.iconst 5, 1, [5]), (.ireturn, 1, [0])]
def kX12_wrongSeen_111 : List qIns := [(.iinc 4 1, 3, [1]), (.goto (-55), 3, [59])]
def kX12_wrongSeen_117 : List qIns := [(.iconst 0, 1, [0]), (.ireturn, 1, [0])]
def mX12_wrongSeen : qMI := (yX12_wrongSeen, cX12_wrongSeen, 6, (some .int), 12, [2403, 273, 2402, 107], 3, false, [(0, kX12_wrongSeen_0), (28, kX12_wrongSeen_28), (30, kX12_wrongSeen_30), (42, kX12_wrongSeen_42), (56, kX12_wrongSeen_56), (59, kX12_wrongSeen_59), (109, kX12_wrongSeen_109), (111, kX12_wrongSeen_111), (117, kX12_wrongSeen_117)])
def kX12_isSeen_0 : List qIns := [(.iconst 0, 1, [0]), (.istore 4, 2, []), (.nop, 0, [3])]
def kX12_isSeen_3 : List qIns := [(.iload 4, 2, []), (.iload_n 3, 1, []), (.if_icmp .ge 54, 3, [60]), (.bipush 60, 2, [60]), (.iload_n 2, 1, []), (.imul, 1, []), (.iconst 2, 1, [2]), (.iload 4, 2, []), (.imul, 1, []), (.iadd, 1, []), (.istore 5, 2, []), (.aload_n 0, 1, []), (.getfield 50, 3, [12, 30, 1756, 2]), (.bipush 8, 2, [8]), (.iload_n 1, 1, []), (.imul, 1, []), (.aload_n 0, 1, []), (.getfield 27, 3, [12, 7, 1733, 2]), (.iload 5, 2, []), (.laload, 1, []), (.l2i, 1, []), (.iadd, 1, []), (.iaload, 1, []), (.i2l, 1, []), (.aload_n 0, 1, []), (.getfield 27, 3, [12, 7, 1733, 2]), (.iload 5, 2, []), (.iconst 1, 1, [1]), (.iadd, 1, []), (.laload, 1, []), (.lcmp, 1, []), (.ifCond .eq 5, 3, [54]), (.iconst 0, 1, [0]), (.ireturn, 1, [1])]
def kX12_isSeen_54 : List qIns := [(.iinc 4 1, 3, [1]), (.goto (-54), 3, [3])]
def kX12_isSeen_60 : List qIns := [(.iconst 1, 1, [1]), (.ireturn, 1, [1])]
def mX12_isSeen : qMI := (yX12_isSeen, cX12_isSeen, 6, (some .boolean), 12, [2412, 273, 2411, 109], 3, false, [(0, kX12_isSeen_0), (3, kX12_isSeen_3), (54, kX12_isSeen_54), (60, kX12_isSeen_60)])
def kX12_laysFits_0 : List qIns := [(.aload_n 0, 1, []), (.iload_n 1, 1, []), (.iconst 1, 1, [1]), (.invokevirtual 272, 3, [264, 2123, 3, 0, 13]), (.istore 4, 2, []), (.aload_n 0, 1, []), (.iconst 0, 1, [0]), (.putfield 416, 3, [12, 32, 1758, 0]), (.iconst 1, 1, [1]), (.istore 5, 2, []), (.nop, 0, [16])]
def kX12_laysFits_16 : List qIns := [(.iload 5, 2, []), (.bipush 30, 2, [30]), (.if_icmp .gt 105, 3, [125]), (.aload_n 0, 1, []), (.getfield 7, 3, [12, 0, 1726, 2]), (.iload_n 1, 1, []), (.invokestatic 198, 3, [244, 1990, 1, 0, 0]), (.iconst 1, 1, [1]), (.iadd, 1, []), (.iload 5, 2, []), (.iastore, 1, []), (.aload_n 0, 1, []), (.invokevirtual 372, 3, [313, 2314, 1, 2, 13]), (.iconst 0, 1, [0]), (.istore 6, 2, []), (.nop, 0, [43])]
def kX12_laysFits_43 : List qIns := [(.iload 6, 2, []), (.aload_n 0, 1, []), (.getfield 7, 3, [12, 0, 1726, 2]), (.iconst 0, 1, [0]), (.iaload, 1, []), (.if_icmp .ge 29, 3, [80]), (.aload_n 0, 1, []), (.getfield 50, 3, [12, 30, 1756, 2]), (.bipush 8, 2, [8]), (.iload 5, 2, []), (.imul, 1, []), (.iload 6, 2, []), (.iadd, 1, []), (.aload_n 0, 1, []), (.getfield 47, 3, [12, 25, 1751, 2]), (.iload 6, 2, []), (.iaload, 1, []), (.iastore, 1, []), (.iinc 6 1, 3, [1]), (.goto (-34), 3, [43])]
def kX12_laysFits_80 : List qIns := [(.aload_n 0, 1, []), (.getfield 53, 3, [12, 31, 1757, 2]), (.iload 5, 2, []), (.aload_n 0, 1, []), (.iload 5, 2, []), (.iload_n 2, 1, []), (.iload_n 3, 1, []), (.invokevirtual 419, 3, [334, 2409, 4, 0, 13]), (.bastore, 1, []), (.aload_n 0, 1, []), (.dup, 1, []), (.getfield 416, 3, [12, 32, 1758, 0]), (.aload_n 0, 1, []), (.getfield 53, 3, [12, 31, 1757, 2]), (.iload 5, 2, []), (.baload, 1, []), (.ifCond .eq 7, 3, [114]), (.iconst 1, 1, [1]), (.goto 4, 3, [115])]
def kX12_laysFits_114 : List qIns := [(.iconst 0, 1, [0]), (.nop, 0, [115])]
def kX12_laysFits_115 : List qIns := [(.iadd, 1, []), (.putfield 416, 3, [12, 32, 1758, 0]), (.iinc 5 1, 3, [1]), (.goto (-106), 3, [16])]
def kX12_laysFits_125 : List qIns := [(.aload_n 0, 1, []), (.getfield 7, 3, [12, 0, 1726, 2]), (.iload_n 1, 1, []), (.invokestatic 198, 3, [244, 1990, 1, 0, 0]), (.iconst 1, 1, [1]), (.iadd, 1, []), (.iload 4, 2, []), (.iastore, 1, []), (.return_, 1, [])]
def mX12_laysFits : qMI := (yX12_laysFits, cX12_laysFits, 7, none, 12, [2408, 273, 2407, 108], 3, false, [(0, kX12_laysFits_0), (16, kX12_laysFits_16), (43, kX12_laysFits_43), (80, kX12_laysFits_80), (114, kX12_laysFits_114), (115, kX12_laysFits_115), (125, kX12_laysFits_125)])
def kX12_fits_0 : List qIns := [(.aload_n 0, 1, []), (.iload_n 1, 1, []), (.iload_n 2, 1, []), (.iload_n 3, 1, []), (.invokevirtual 422, 3, [333, 2400, 4, 0, 13]), (.istore 4, 2, []), (.iload 4, 2, []), (.ifCond .le 10, 3, [21]), (.aload_n 0, 1, []), (.iload 4, 2, []), (.invokevirtual 88, 3, [214, 1955, 2, 0, 13]), (.ireturn, 1, [0])]
def kX12_fits_21 : List qIns := [(.aload_n 0, 1, []), (.iload_n 1, 1, []), (.iload_n 2, 1, []), (.iload_n 3, 1, []), (.invokevirtual 425, 3, [335, 2405, 4, 2, 13]), (.aload_n 0, 1, []), (.aload_n 0, 1, []), (.getfield 416, 3, [12, 32, 1758, 0]), (.invokevirtual 92, 3, [215, 2048, 2, 0, 13]), (.ireturn, 1, [0])]
def mX12_fits : qMI := (yX12_fits, cX12_fits, 5, (some .int), 12, [2399, 273, 2397, 2398], 3, false, [(0, kX12_fits_0), (21, kX12_fits_21)])
def kX12_fitsAt_0 : List qIns := [(.iload 4, 2, []), (.ifCond .lt 9, 3, [11]), (.iload 4, 2, []), (.iconst 1, 1, [1]), (.if_icmp .le 7, 3, [15]), (.nop, 0, [11])]
def kX12_fitsAt_11 : List qIns := [(.iconst 1, 1, [1]), (.goto 10, 3, [22])]
def kX12_fitsAt_15 : List qIns := [(.aload_n 0, 1, []), (.iload_n 1, 1, []), (.iload_n 2, 1, []), (.iload_n 3, 1, []), (.invokevirtual 422, 3, [333, 2400, 4, 0, 13]), (.nop, 0, [22])]
def kX12_fitsAt_22 : List qIns := [(.istore 5, 2, []), (.iload 5, 2, []), (.ifCond .le 10, 3, [36]), (.aload_n 0, 1, []), (.iload 5, 2, []), (.invokevirtual 88, 3, [214, 1955, 2, 0, 13]), (.ireturn, 1, [0])]
def kX12_fitsAt_36 : List qIns := [(.aload_n 0, 1, []), (.iload_n 1, 1, []), (.iload_n 2, 1, []), (.iload_n 3, 1, []), (.invokevirtual 425, 3, [335, 2405, 4, 2, 13]), (.aload_n 0, 1, []), (.getfield 416, 3, [12, 32, 1758, 0]), (.ifCond .ne 10, 3, [57]), (.aload_n 0, 1, []), (.bipush 6, 2, [6]), (.invokevirtual 88, 3, [214, 1955, 2, 0, 13]), (.ireturn, 1, [0])]
def kX12_fitsAt_57 : List qIns := [(.iload 4, 2, []), (.ifCond .ne 7, 3, [66]), (.iconst 1, 1, [1]), (.goto 5, 3, [68])]
def kX12_fitsAt_66 : List qIns := [(.bipush 30, 2, [30]), (.nop, 0, [68])]
def kX12_fitsAt_68 : List qIns := [(.istore 6, 2, []), (.nop, 0, [70])]
def kX12_fitsAt_70 : List qIns := [(.aload_n 0, 1, []), (.getfield 53, 3, [12, 31, 1757, 2]), (.iload 6, 2, []), (.baload, 1, []), (.ifCond .ne 21, 3, [98]), (.iload 6, 2, []), (.iload 4, 2, []), (.ifCond .ne 7, 3, [91]), (.iconst 1, 1, [1]), (.goto 4, 3, [92])]
def kX12_fitsAt_91 : List qIns := [(.iconst (-1), 1, []), (.nop, 0, [92])]
def kX12_fitsAt_92 : List qIns := [(.iadd, 1, []), (.istore 6, 2, []), (.goto (-25), 3, [70])]
def kX12_fitsAt_98 : List qIns := [(.aload_n 0, 1, []), (.iload 6, 2, []), (.invokevirtual 92, 3, [215, 2048, 2, 0, 13]), (.ireturn, 1, [0])]
def mX12_fitsAt : qMI := (yX12_fitsAt, cX12_fitsAt, 7, (some .int), 12, [2416, 273, 2414, 2415], 4, false, [(0, kX12_fitsAt_0), (11, kX12_fitsAt_11), (15, kX12_fitsAt_15), (22, kX12_fitsAt_22), (36, kX12_fitsAt_36), (57, kX12_fitsAt_57), (66, kX12_fitsAt_66), (68, kX12_fitsAt_68), (70, kX12_fitsAt_70), (91, kX12_fitsAt_91), (92, kX12_fitsAt_92), (98, kX12_fitsAt_98)])
def kX12_mostAlike_0 : List qIns := [(.iconst 0, 1, [0]), (.istore_n 2, 1, []), (.iconst 1, 1, [1]), (.istore_n 3, 1, []), (.nop, 0, [4])]
def kX12_mostAlike_4 : List qIns := [(.iload_n 3, 1, []), (.bipush 30, 2, [30]), (.if_icmp .gt 90, 3, [97]), (.iconst 0, 1, [0]), (.istore 4, 2, []), (.iconst 1, 1, [1]), (.istore 5, 2, []), (.nop, 0, [16])]
def kX12_mostAlike_16 : List qIns := [(.iload 5, 2, []), (.bipush 30, 2, [30]), (.if_icmp .gt 64, 3, [84]), (.iload 4, 2, []), (.aload_n 0, 1, []), (.getfield 53, 3, [12, 31, 1757, 2]), (.iload_n 3, 1, []), (.baload, 1, []), (.ifCond .eq 43, 3, [74]), (.aload_n 0, 1, []), (.getfield 53, 3, [12, 31, 1757, 2]), (.iload 5, 2, []), (.baload, 1, []), (.ifCond .eq 33, 3, [74]), (.aload_n 0, 1, []), (.getfield 50, 3, [12, 30, 1756, 2]), (.bipush 8, 2, [8]), (.iload_n 3, 1, []), (.imul, 1, []), (.iload_n 1, 1, []), (.iadd, 1, []), (.iaload, 1, []), (.aload_n 0, 1, []), (.getfield 50, 3, [12, 30, 1756, 2]), (.bipush 8, 2, [8]), (.iload 5, 2, []), (.imul, 1, []), (.iload_n 1, 1, []), (.iadd, 1, []), (.iaload, 1, []), (.if_icmp .ne 7, 3, [74]), (.iconst 1, 1, [1]), (.goto 4, 3, [75])]
def kX12_mostAlike_74 : List qIns := [(.iconst 0, 1, [0]), (.nop, 0, [75])]
def kX12_mostAlike_75 : List qIns := [(.iadd, 1, []), (.istore 4, 2, []), (.iinc 5 1, 3, [1]), (.goto (-65), 3, [16])]
def kX12_mostAlike_84 : List qIns := [(.iload_n 2, 1, []), (.iload 4, 2, []), (.invokestatic 429, 3, [2425, 0]), (.istore_n 2, 1, []), (.iinc 3 1, 3, [1]), (.goto (-90), 3, [4])]
def kX12_mostAlike_97 : List qIns := [(.iload_n 2, 1, []), (.ireturn, 1, [0])]
def mX12_mostAlike : qMI := (yX12_mostAlike, cX12_mostAlike, 6, (some .int), 12, [2424, 273, 2423, 110], 1, false, [(0, kX12_mostAlike_0), (4, kX12_mostAlike_4), (16, kX12_mostAlike_16), (74, kX12_mostAlike_74), (75, kX12_mostAlike_75), (84, kX12_mostAlike_84), (97, kX12_mostAlike_97)])
def kX12_ask_0 : List qIns := [(.aload_n 0, 1, []), (.iload_n 1, 1, []), (.iload_n 2, 1, []), (.iload_n 3, 1, []), (.invokevirtual 422, 3, [333, 2400, 4, 0, 13]), (.istore 4, 2, []), (.iload 4, 2, []), (.ifCond .le 10, 3, [21]), (.aload_n 0, 1, []), (.iload 4, 2, []), (.invokevirtual 88, 3, [214, 1955, 2, 0, 13]), (.ireturn, 1, [0])]
def kX12_ask_21 : List qIns := [(.aload_n 0, 1, []), (.iload_n 1, 1, []), (.iload_n 2, 1, []), (.iload_n 3, 1, []), (.invokevirtual 425, 3, [335, 2405, 4, 2, 13]), (.aload_n 0, 1, []), (.getfield 416, 3, [12, 32, 1758, 0]), (.iconst 2, 1, [2]), (.if_icmp .ge 10, 3, [43]), (.aload_n 0, 1, []), (.bipush 6, 2, [6]), (.invokevirtual 88, 3, [214, 1955, 2, 0, 13]), (.ireturn, 1, [0])]
def kX12_ask_43 : List qIns := [(.iconst 0, 1, [0]), (.istore 5, 2, []), (.iconst 1, 1, [1]), (.istore 6, 2, []), (.nop, 0, [49])]
def kX12_ask_49 : List qIns := [(.iload 6, 2, []), (.aload_n 0, 1, []), (.getfield 7, 3, [12, 0, 1726, 2]), (.iconst 0, 1, [0]), (.iaload, 1, []), (.if_icmp .ge 28, 3, [85]), (.aload_n 0, 1, []), (.iload 6, 2, []), (.invokevirtual 432, 3, [338, 2421, 2, 0, 13]), (.aload_n 0, 1, []), (.iload 5, 2, []), (.invokevirtual 432, 3, [338, 2421, 2, 0, 13]), (.if_icmp .ge 7, 3, [79]), (.iload 6, 2, []), (.istore 5, 2, []), (.nop, 0, [79])]
def kX12_ask_79 : List qIns := [(.iinc 6 1, 3, [1]), (.goto (-33), 3, [49])]
def kX12_ask_85 : List qIns := [(.aload_n 0, 1, []), (.iload 5, 2, []), (.invokevirtual 92, 3, [215, 2048, 2, 0, 13]), (.ireturn, 1, [0])]
def mX12_ask : qMI := (yX12_ask, cX12_ask, 7, (some .int), 12, [2420, 273, 2418, 2419], 3, false, [(0, kX12_ask_0), (21, kX12_ask_21), (43, kX12_ask_43), (49, kX12_ask_49), (79, kX12_ask_79), (85, kX12_ask_85)])
def kX12_haveOf_0 : List qIns := [(.iload_n 1, 1, []), (.iload_n 2, 1, []), (.if_icmp .le 9, 3, [11]), (.iload_n 0, 1, []), (.iload_n 2, 1, []), (.isub, 1, []), (.goto 5, 3, [13])]
def kX12_haveOf_11 : List qIns := [(.iload_n 1, 1, []), (.ineg, 1, []), (.nop, 0, [13])]
def kX12_haveOf_13 : List qIns := [(.ireturn, 1, [0])]
def mX12_haveOf : qMI := (yX12_haveOf, cX12_haveOf, 3, (some .int), 12, [2435, 273, 2434], 3, true, [(0, kX12_haveOf_0), (11, kX12_haveOf_11), (13, kX12_haveOf_13)])
def kX12_isRest_0 : List qIns := [(.iconst 0, 1, [0]), (.istore 4, 2, []), (.nop, 0, [3])]
def kX12_isRest_3 : List qIns := [(.iload 4, 2, []), (.iload_n 3, 1, []), (.if_icmp .gt 43, 3, [49]), (.iload_n 0, 1, []), (.iload 4, 2, []), (.iload_n 2, 1, []), (.invokestatic 435, 3, [340, 2433, 3, 0, 0]), (.iload_n 0, 1, []), (.iload_n 1, 1, []), (.iload_n 2, 1, []), (.invokestatic 435, 3, [340, 2433, 3, 0, 0]), (.if_icmp .gt 19, 3, [41]), (.iload_n 0, 1, []), (.iload 4, 2, []), (.iload_n 1, 1, []), (.invokestatic 435, 3, [340, 2433, 3, 0, 0]), (.iload_n 0, 1, []), (.iload_n 2, 1, []), (.iload_n 1, 1, []), (.invokestatic 435, 3, [340, 2433, 3, 0, 0]), (.if_icmp .le 5, 3, [43]), (.nop, 0, [41])]
def kX12_isRest_41 : List qIns := [(.iconst 0, 1, [0]), (.ireturn, 1, [1])]
def kX12_isRest_43 : List qIns := [(.iinc 4 1, 3, [1]), (.goto (-43), 3, [3])]
def kX12_isRest_49 : List qIns := [(.iconst 1, 1, [1]), (.ireturn, 1, [1])]
def mX12_isRest : qMI := (yX12_isRest, cX12_isRest, 5, (some .boolean), 12, [2432, 273, 2431], 4, true, [(0, kX12_isRest_0), (3, kX12_isRest_3), (41, kX12_isRest_41), (43, kX12_isRest_43), (49, kX12_isRest_49)])
def kX12_restOf_0 : List qIns := [(.iload_n 3, 1, []), (.istore 4, 2, []), (.iconst 0, 1, [0]), (.istore 5, 2, []), (.nop, 0, [6])]
def kX12_restOf_6 : List qIns := [(.iload 5, 2, []), (.iload_n 2, 1, []), (.if_icmp .gt 61, 3, [70]), (.iconst 0, 1, [0]), (.istore 6, 2, []), (.nop, 0, [15])]
def kX12_restOf_15 : List qIns := [(.iload 6, 2, []), (.iload_n 2, 1, []), (.if_icmp .gt 46, 3, [64]), (.aload_n 0, 1, []), (.iload_n 1, 1, []), (.iconst 2, 1, [2]), (.invokevirtual 257, 3, [265, 2092, 3, 0, 13]), (.iload 5, 2, []), (.iload 6, 2, []), (.iload_n 2, 1, []), (.invokestatic 438, 3, [341, 2430, 4, 0, 0]), (.ifCond .ne 6, 3, [41]), (.goto 20, 3, [58])]
def kX12_restOf_41 : List qIns := [(.iload 4, 2, []), (.ifCond .ne 12, 3, [55]), (.bipush 100, 2, [100]), (.iload 5, 2, []), (.imul, 1, []), (.iload 6, 2, []), (.iadd, 1, []), (.ireturn, 1, [0])]
def kX12_restOf_55 : List qIns := [(.iinc 4 (-1), 3, []), (.nop, 0, [58])]
def kX12_restOf_58 : List qIns := [(.iinc 6 1, 3, [1]), (.goto (-46), 3, [15])]
def kX12_restOf_64 : List qIns := [(.iinc 5 1, 3, [1]), (.goto (-61), 3, [6])]
def kX12_restOf_70 : List qIns := [(.iconst (-1), 1, []), (.ireturn, 1, [0])]
def mX12_restOf : qMI := (yX12_restOf, cX12_restOf, 7, (some .int), 12, [2443, 273, 2442, 111], 3, false, [(0, kX12_restOf_0), (6, kX12_restOf_6), (15, kX12_restOf_15), (41, kX12_restOf_41), (55, kX12_restOf_55), (58, kX12_restOf_58), (64, kX12_restOf_64), (70, kX12_restOf_70)])
def kX12_rests_0 : List qIns := [(.aload_n 0, 1, []), (.iload_n 1, 1, []), (.invokevirtual 300, 3, [260, 2131, 2, 0, 13]), (.ifCond .eq 15, 3, [20]), (.iload_n 2, 1, []), (.i2l, 1, []), (.lconst 0, 1, []), (.ldc2_w 414, 3, [2404, 20]), (.invokestatic 319, 3, [225, 2140, 3, 0, 0]), (.ifCond .ne 9, 3, [26]), (.nop, 0, [20])]
def kX12_rests_20 : List qIns := [(.aload_n 0, 1, []), (.iconst 1, 1, [1]), (.invokevirtual 88, 3, [214, 1955, 2, 0, 13]), (.ireturn, 1, [0])]
def kX12_rests_26 : List qIns := [(.iconst 0, 1, [0]), (.istore_n 3, 1, []), (.iconst 0, 1, [0]), (.istore 4, 2, []), (.nop, 0, [31])]
def kX12_rests_31 : List qIns := [(.iload 4, 2, []), (.iload_n 2, 1, []), (.if_icmp .gt 49, 3, [83]), (.iconst 0, 1, [0]), (.istore 5, 2, []), (.nop, 0, [40])]
def kX12_rests_40 : List qIns := [(.iload 5, 2, []), (.iload_n 2, 1, []), (.if_icmp .gt 34, 3, [77]), (.iload_n 3, 1, []), (.aload_n 0, 1, []), (.iload_n 1, 1, []), (.iconst 2, 1, [2]), (.invokevirtual 257, 3, [265, 2092, 3, 0, 13]), (.iload 4, 2, []), (.iload 5, 2, []), (.iload_n 2, 1, []), (.invokestatic 438, 3, [341, 2430, 4, 0, 0]), (.ifCond .eq 7, 3, [68]), (.iconst 1, 1, [1]), (.goto 4, 3, [69])]
def kX12_rests_68 : List qIns := [(.iconst 0, 1, [0]), (.nop, 0, [69])]
def kX12_rests_69 : List qIns := [(.iadd, 1, []), (.istore_n 3, 1, []), (.iinc 5 1, 3, [1]), (.goto (-34), 3, [40])]
def kX12_rests_77 : List qIns := [(.iinc 4 1, 3, [1]), (.goto (-49), 3, [31])]
def kX12_rests_83 : List qIns := [(.aload_n 0, 1, []), (.iload_n 3, 1, []), (.invokevirtual 92, 3, [215, 2048, 2, 0, 13]), (.ireturn, 1, [0])]
def mX12_rests : qMI := (yX12_rests, cX12_rests, 6, (some .int), 12, [2429, 273, 2427, 2428], 2, false, [(0, kX12_rests_0), (20, kX12_rests_20), (26, kX12_rests_26), (31, kX12_rests_31), (40, kX12_rests_40), (68, kX12_rests_68), (69, kX12_rests_69), (77, kX12_rests_77), (83, kX12_rests_83)])
def kX12_restAt_0 : List qIns := [(.aload_n 0, 1, []), (.iload_n 1, 1, []), (.invokevirtual 300, 3, [260, 2131, 2, 0, 13]), (.ifCond .eq 30, 3, [35]), (.iload_n 2, 1, []), (.i2l, 1, []), (.lconst 0, 1, []), (.ldc2_w 414, 3, [2404, 20]), (.invokestatic 319, 3, [225, 2140, 3, 0, 0]), (.ifCond .eq 18, 3, [35]), (.iload_n 3, 1, []), (.ifCond .lt 14, 3, [35]), (.iload 4, 2, []), (.ifCond .lt 9, 3, [35]), (.iload 4, 2, []), (.iconst 1, 1, [1]), (.if_icmp .le 9, 3, [41]), (.nop, 0, [35])]
def kX12_restAt_35 : List qIns := [(.aload_n 0, 1, []), (.iconst 1, 1, [1]), (.invokevirtual 88, 3, [214, 1955, 2, 0, 13]), (.ireturn, 1, [0])]
def kX12_restAt_41 : List qIns := [(.aload_n 0, 1, []), (.iload_n 1, 1, []), (.iload_n 2, 1, []), (.iload_n 3, 1, []), (.invokevirtual 442, 3, [342, 2440, 4, 0, 13]), (.istore 5, 2, []), (.iload 5, 2, []), (.iconst (-1), 1, []), (.if_icmp .ne 10, 3, [63]), (.aload_n 0, 1, []), (.bipush 6, 2, [6]), (.invokevirtual 88, 3, [214, 1955, 2, 0, 13]), (.ireturn, 1, [0])]
def kX12_restAt_63 : List qIns := [(.aload_n 0, 1, []), (.iload 4, 2, []), (.ifCond .ne 11, 3, [77]), (.iload 5, 2, []), (.bipush 100, 2, [100]), (.idiv, 1, []), (.goto 8, 3, [82])]
def kX12_restAt_77 : List qIns := [(.iload 5, 2, []), (.bipush 100, 2, [100]), (.irem, 1, []), (.nop, 0, [82])]
def kX12_restAt_82 : List qIns := [(.invokevirtual 92, 3, [215, 2048, 2, 0, 13]), (.ireturn, 1, [0])]
def mX12_restAt : qMI := (yX12_restAt, cX12_restAt, 6, (some .int), 12, [2439, 273, 2437, 2438], 4, false, [(0, kX12_restAt_0), (35, kX12_restAt_35), (41, kX12_restAt_41), (63, kX12_restAt_63), (77, kX12_restAt_77), (82, kX12_restAt_82)])
def kX12_settles_0 : List qIns := [(.aload_n 0, 1, []), (.getfield 63, 3, [12, 35, 1761, 2]), (.iload_n 1, 1, []), (.iaload, 1, []), (.iconst (-1), 1, []), (.if_icmp .ne 7, 3, [14]), (.iconst 1, 1, [1]), (.goto 4, 3, [15])]
def kX12_settles_14 : List qIns := [(.iconst 0, 1, [0]), (.nop, 0, [15])]
def kX12_settles_15 : List qIns := [(.istore_n 3, 1, []), (.iload_n 3, 1, []), (.ifCond .ne 33, 3, [50]), (.iload_n 1, 1, []), (.iconst 2, 1, [2]), (.irem, 1, []), (.ifCond .ne 16, 3, [39]), (.iload_n 2, 1, []), (.aload_n 0, 1, []), (.getfield 60, 3, [12, 34, 1760, 2]), (.iload_n 1, 1, []), (.iaload, 1, []), (.if_icmp .lt 17, 3, [50]), (.goto 13, 3, [49])]
def kX12_settles_39 : List qIns := [(.iload_n 2, 1, []), (.aload_n 0, 1, []), (.getfield 60, 3, [12, 34, 1760, 2]), (.iload_n 1, 1, []), (.iaload, 1, []), (.if_icmp .gt 4, 3, [50]), (.nop, 0, [49])]
def kX12_settles_49 : List qIns := [(.return_, 1, [])]
def kX12_settles_50 : List qIns := [(.aload_n 0, 1, []), (.getfield 60, 3, [12, 34, 1760, 2]), (.iload_n 1, 1, []), (.iload_n 2, 1, []), (.iastore, 1, []), (.aload_n 0, 1, []), (.getfield 63, 3, [12, 35, 1761, 2]), (.iload_n 1, 1, []), (.aload_n 0, 1, []), (.getfield 57, 3, [12, 33, 1759, 2]), (.iload_n 1, 1, []), (.iaload, 1, []), (.iastore, 1, []), (.return_, 1, [])]
def mX12_settles : qMI := (yX12_settles, cX12_settles, 4, none, 12, [2459, 273, 2458, 113], 2, false, [(0, kX12_settles_0), (14, kX12_settles_14), (15, kX12_settles_15), (39, kX12_settles_39), (49, kX12_settles_49), (50, kX12_settles_50)])
def kX12_doesDeed_0 : List qIns := [(.iload_n 1, 1, []), (.aload_n 0, 1, []), (.getfield 7, 3, [12, 0, 1726, 2]), (.iconst 1, 1, [1]), (.iaload, 1, []), (.if_icmp .ne 5, 3, [12]), (.iconst 1, 1, [1]), (.ireturn, 1, [1])]
def kX12_doesDeed_12 : List qIns := [(.aload_n 0, 1, []), (.iload_n 1, 1, []), (.invokevirtual 260, 3, [266, 2088, 2, 0, 13]), (.ifCond .ne 5, 3, [22]), (.iconst 0, 1, [0]), (.ireturn, 1, [1])]
def kX12_doesDeed_22 : List qIns := [(.iload_n 2, 1, []), (.ifCond .eq 18, 3, [41]), (.aload_n 0, 1, []), (.getfield 7, 3, [12, 0, 1726, 2]), (.iload_n 1, 1, []), (.invokestatic 204, 3, [245, 2013, 1, 0, 0]), (.iconst 3, 1, [3]), (.iadd, 1, []), (.iconst 3, 1, [3]), (.iastore, 1, []), (.goto 28, 3, [66])]
def kX12_doesDeed_41 : List qIns := [(.aload_n 0, 1, []), (.getfield 7, 3, [12, 0, 1726, 2]), (.iload_n 1, 1, []), (.invokestatic 204, 3, [245, 2013, 1, 0, 0]), (.iconst 2, 1, [2]), (.iadd, 1, []), (.bipush 99, 2, [99]), (.aload_n 0, 1, []), (.iload_n 1, 1, []), (.iconst 2, 1, [2]), (.invokevirtual 257, 3, [265, 2092, 3, 0, 13]), (.bipush 9, 2, [9]), (.iadd, 1, []), (.invokestatic 143, 3, [1954, 1]), (.iastore, 1, []), (.nop, 0, [66])]
def kX12_doesDeed_66 : List qIns := [(.iconst 1, 1, [1]), (.ireturn, 1, [1])]
def mX12_doesDeed : qMI := (yX12_doesDeed, cX12_doesDeed, 3, (some .boolean), 12, [2463, 273, 2462, 114], 2, false, [(0, kX12_doesDeed_0), (12, kX12_doesDeed_12), (22, kX12_doesDeed_22), (41, kX12_doesDeed_41), (66, kX12_doesDeed_66)])
def kX12_playing_0 : List qIns := [(.iload_n 1, 1, []), (.ifCond .ne 8, 3, [9]), (.aload_n 0, 1, []), (.invokevirtual 363, 3, [304, 2267, 1, 0, 13]), (.ireturn, 1, [0])]
def kX12_playing_9 : List qIns := [(.iconst 0, 1, [0]), (.istore_n 2, 1, []), (.aload_n 0, 1, []), (.iconst 0, 1, [0]), (.invokestatic 445, 3, [299, 2453, 1, 0, 0]), (.invokevirtual 349, 3, [300, 2246, 2, 2, 13]), (.aload_n 0, 1, []), (.getfield 57, 3, [12, 33, 1759, 2]), (.iconst 0, 1, [0]), (.iconst (-1), 1, []), (.iastore, 1, []), (.aload_n 0, 1, []), (.getfield 63, 3, [12, 35, 1761, 2]), (.iconst 0, 1, [0]), (.iconst (-1), 1, []), (.iastore, 1, []), (.nop, 0, [33])]
def kX12_playing_33 : List qIns := [(.aload_n 0, 1, []), (.iload_n 2, 1, []), (.invokestatic 445, 3, [299, 2453, 1, 0, 0]), (.invokevirtual 358, 3, [301, 2254, 2, 2, 13]), (.aload_n 0, 1, []), (.getfield 57, 3, [12, 33, 1759, 2]), (.iload_n 2, 1, []), (.dup2, 1, []), (.iaload, 1, []), (.iconst 1, 1, [1]), (.iadd, 1, []), (.iastore, 1, []), (.aload_n 0, 1, []), (.getfield 57, 3, [12, 33, 1759, 2]), (.iload_n 2, 1, []), (.iaload, 1, []), (.aload_n 0, 1, []), (.getfield 7, 3, [12, 0, 1726, 2]), (.iconst 1, 1, [1]), (.iaload, 1, []), (.if_icmp .le 29, 3, [92]), (.iload_n 2, 1, []), (.ifCond .ne 6, 3, [73]), (.goto 96, 3, [166])]
def kX12_playing_73 : List qIns := [(.iinc 2 (-1), 3, []), (.aload_n 0, 1, []), (.iload_n 2, 1, []), (.aload_n 0, 1, []), (.getfield 60, 3, [12, 34, 1760, 2]), (.iload_n 2, 1, []), (.iconst 1, 1, [1]), (.iadd, 1, []), (.iaload, 1, []), (.invokevirtual 448, 3, [345, 2456, 3, 2, 13]), (.goto (-56), 3, [33])]
def kX12_playing_92 : List qIns := [(.aload_n 0, 1, []), (.aload_n 0, 1, []), (.getfield 57, 3, [12, 33, 1759, 2]), (.iload_n 2, 1, []), (.iaload, 1, []), (.iload_n 2, 1, []), (.iconst 2, 1, [2]), (.irem, 1, []), (.ifCond .ne 7, 3, [109]), (.iconst 1, 1, [1]), (.goto 4, 3, [110])]
def kX12_playing_109 : List qIns := [(.iconst 0, 1, [0]), (.nop, 0, [110])]
def kX12_playing_110 : List qIns := [(.invokevirtual 451, 3, [346, 2460, 3, 0, 13]), (.ifCond .ne 6, 3, [119]), (.goto (-83), 3, [33])]
def kX12_playing_119 : List qIns := [(.iload_n 2, 1, []), (.iconst 1, 1, [1]), (.iadd, 1, []), (.iload_n 1, 1, []), (.if_icmp .ne 15, 3, [138]), (.aload_n 0, 1, []), (.iload_n 2, 1, []), (.aload_n 0, 1, []), (.invokevirtual 363, 3, [304, 2267, 1, 0, 13]), (.invokevirtual 448, 3, [345, 2456, 3, 2, 13]), (.goto (-102), 3, [33])]
def kX12_playing_138 : List qIns := [(.iinc 2 1, 3, [1]), (.aload_n 0, 1, []), (.iload_n 2, 1, []), (.invokestatic 445, 3, [299, 2453, 1, 0, 0]), (.invokevirtual 349, 3, [300, 2246, 2, 2, 13]), (.aload_n 0, 1, []), (.getfield 57, 3, [12, 33, 1759, 2]), (.iload_n 2, 1, []), (.iconst (-1), 1, []), (.iastore, 1, []), (.aload_n 0, 1, []), (.getfield 63, 3, [12, 35, 1761, 2]), (.iload_n 2, 1, []), (.iconst (-1), 1, []), (.iastore, 1, []), (.goto (-130), 3, [33])]
def kX12_playing_166 : List qIns := [(.aload_n 0, 1, []), (.iconst 0, 1, [0]), (.invokestatic 445, 3, [299, 2453, 1, 0, 0]), (.invokevirtual 358, 3, [301, 2254, 2, 2, 13]), (.aload_n 0, 1, []), (.getfield 60, 3, [12, 34, 1760, 2]), (.iconst 0, 1, [0]), (.iaload, 1, []), (.ireturn, 1, [0])]
def mX12_playing : qMI := (yX12_playing, cX12_playing, 3, (some .int), 12, [2452, 273, 2451, 112], 1, false, [(0, kX12_playing_0), (9, kX12_playing_9), (33, kX12_playing_33), (73, kX12_playing_73), (92, kX12_playing_92), (109, kX12_playing_109), (110, kX12_playing_110), (119, kX12_playing_119), (138, kX12_playing_138), (166, kX12_playing_166)])
def kX12_game_0 : List qIns := [(.iload_n 1, 1, []), (.i2l, 1, []), (.lconst 0, 1, []), (.ldc2_w 455, 3, [2448, 3]), (.invokestatic 319, 3, [225, 2140, 3, 0, 0]), (.ifCond .eq 15, 3, [24]), (.aload_n 0, 1, []), (.aload_n 0, 1, []), (.iload_n 1, 1, []), (.invokevirtual 457, 3, [347, 2449, 2, 0, 13]), (.invokevirtual 92, 3, [215, 2048, 2, 0, 13]), (.goto 8, 3, [29])]
def kX12_game_24 : List qIns := [(.aload_n 0, 1, []), (.iconst 1, 1, [1]), (.invokevirtual 88, 3, [214, 1955, 2, 0, 13]), (.nop, 0, [29])]
def kX12_game_29 : List qIns := [(.ireturn, 1, [0])]
def mX12_game : qMI := (yX12_game, cX12_game, 2, (some .int), 12, [2447, 273, 2445, 2446], 1, false, [(0, kX12_game_0), (24, kX12_game_24), (29, kX12_game_29)])
def kX12_moveOf_0 : List qIns := [(.iload_n 1, 1, []), (.i2l, 1, []), (.lconst 1, 1, []), (.ldc2_w 455, 3, [2448, 3]), (.invokestatic 319, 3, [225, 2140, 3, 0, 0]), (.ifCond .ne 9, 3, [18]), (.aload_n 0, 1, []), (.iconst 1, 1, [1]), (.invokevirtual 88, 3, [214, 1955, 2, 0, 13]), (.ireturn, 1, [0])]
def kX12_moveOf_18 : List qIns := [(.aload_n 0, 1, []), (.iload_n 1, 1, []), (.invokevirtual 457, 3, [347, 2449, 2, 0, 13]), (.pop, 1, []), (.aload_n 0, 1, []), (.getfield 63, 3, [12, 35, 1761, 2]), (.iconst 0, 1, [0]), (.iaload, 1, []), (.aload_n 0, 1, []), (.getfield 7, 3, [12, 0, 1726, 2]), (.iconst 1, 1, [1]), (.iaload, 1, []), (.if_icmp .ne 12, 3, [48]), (.aload_n 0, 1, []), (.bipush 6, 2, [6]), (.invokevirtual 88, 3, [214, 1955, 2, 0, 13]), (.goto 13, 3, [58])]
def kX12_moveOf_48 : List qIns := [(.aload_n 0, 1, []), (.aload_n 0, 1, []), (.getfield 63, 3, [12, 35, 1761, 2]), (.iconst 0, 1, [0]), (.iaload, 1, []), (.invokevirtual 92, 3, [215, 2048, 2, 0, 13]), (.nop, 0, [58])]
def kX12_moveOf_58 : List qIns := [(.ireturn, 1, [0])]
def mX12_moveOf : qMI := (yX12_moveOf, cX12_moveOf, 2, (some .int), 12, [2467, 273, 2465, 2466], 1, false, [(0, kX12_moveOf_0), (18, kX12_moveOf_18), (48, kX12_moveOf_48), (58, kX12_moveOf_58)])
def kX12_night_0 : List qIns := [(.iload_n 1, 1, []), (.i2l, 1, []), (.lconst 0, 1, []), (.ldc2_w 460, 3, [2472, 10]), (.invokestatic 319, 3, [225, 2140, 3, 0, 0]), (.ifCond .ne 9, 3, [18]), (.aload_n 0, 1, []), (.iconst 1, 1, [1]), (.invokevirtual 95, 3, [213, 1895, 2, 0, 13]), (.ireturn, 1, [1])]
def kX12_night_18 : List qIns := [(.lconst 1, 1, []), (.lstore_n 2, 1, []), (.iconst 0, 1, [0]), (.istore 4, 2, []), (.nop, 0, [23])]
def kX12_night_23 : List qIns := [(.iload 4, 2, []), (.bipush 11, 2, [11]), (.if_icmp .ge 26, 3, [53]), (.aload_n 0, 1, []), (.getfield 66, 3, [12, 36, 1762, 2]), (.iload 4, 2, []), (.iload 4, 2, []), (.ifCond .ne 7, 3, [45]), (.lconst 1, 1, []), (.goto 4, 3, [46])]
def kX12_night_45 : List qIns := [(.lconst 0, 1, []), (.nop, 0, [46])]
def kX12_night_46 : List qIns := [(.lastore, 1, []), (.iinc 4 1, 3, [1]), (.goto (-27), 3, [23])]
def kX12_night_53 : List qIns := [(.iconst 0, 1, [0]), (.istore 4, 2, []), (.nop, 0, [56])]
def kX12_night_56 : List qIns := [(.iload 4, 2, []), (.aload_n 0, 1, []), (.getfield 7, 3, [12, 0, 1726, 2]), (.iconst 1, 1, [1]), (.iaload, 1, []), (.if_icmp .ge 94, 3, [158]), (.aload_n 0, 1, []), (.iload 4, 2, []), (.invokevirtual 260, 3, [266, 2088, 2, 0, 13]), (.ifCond .ne 6, 3, [79]), (.goto 76, 3, [152])]
def kX12_night_79 : List qIns := [(.bipush 10, 2, [10]), (.istore 5, 2, []), (.nop, 0, [83])]
def kX12_night_83 : List qIns := [(.iload 5, 2, []), (.ifCond .lt 61, 3, [146]), (.aload_n 0, 1, []), (.getfield 66, 3, [12, 36, 1762, 2]), (.iload 5, 2, []), (.aload_n 0, 1, []), (.getfield 66, 3, [12, 36, 1762, 2]), (.iload 5, 2, []), (.laload, 1, []), (.aload_n 0, 1, []), (.getfield 7, 3, [12, 0, 1726, 2]), (.iconst 4, 1, [4]), (.iaload, 1, []), (.i2l, 1, []), (.lmul, 1, []), (.iload 5, 2, []), (.ifCond .ne 7, 3, [118]), (.lconst 0, 1, []), (.goto 23, 3, [138])]
def kX12_night_118 : List qIns := [(.aload_n 0, 1, []), (.getfield 66, 3, [12, 36, 1762, 2]), (.iload 5, 2, []), (.iconst 1, 1, [1]), (.isub, 1, []), (.laload, 1, []), (.bipush 16, 2, [16]), (.aload_n 0, 1, []), (.getfield 7, 3, [12, 0, 1726, 2]), (.iconst 4, 1, [4]), (.iaload, 1, []), (.isub, 1, []), (.i2l, 1, []), (.lmul, 1, []), (.nop, 0, [138])]
def kX12_night_138 : List qIns := [(.ladd, 1, []), (.lastore, 1, []), (.iinc 5 (-1), 3, []), (.goto (-60), 3, [83])]
def kX12_night_146 : List qIns := [(.lload_n 2, 1, []), (.ldc2_w 347, 3, [2225, 16]), (.lmul, 1, []), (.lstore_n 2, 1, []), (.nop, 0, [152])]
def kX12_night_152 : List qIns := [(.iinc 4 1, 3, [1]), (.goto (-99), 3, [56])]
def kX12_night_158 : List qIns := [(.lconst 0, 1, []), (.lstore 4, 2, []), (.iconst 0, 1, [0]), (.istore 6, 2, []), (.nop, 0, [164])]
def kX12_night_164 : List qIns := [(.iload 6, 2, []), (.iload_n 1, 1, []), (.if_icmp .gt 21, 3, [188]), (.lload 4, 2, []), (.aload_n 0, 1, []), (.getfield 66, 3, [12, 36, 1762, 2]), (.iload 6, 2, []), (.laload, 1, []), (.ladd, 1, []), (.lstore 4, 2, []), (.iinc 6 1, 3, [1]), (.goto (-21), 3, [164])]
def kX12_night_188 : List qIns := [(.aload_n 0, 1, []), (.lload 4, 2, []), (.lload_n 2, 1, []), (.invokevirtual 462, 3, [217, 2473, 3, 0, 13]), (.ireturn, 1, [1])]
def mX12_night : qMI := (yX12_night, cX12_night, 7, (some .boolean), 12, [2471, 273, 2469, 2470], 1, false, [(0, kX12_night_0), (18, kX12_night_18), (23, kX12_night_23), (45, kX12_night_45), (46, kX12_night_46), (53, kX12_night_53), (56, kX12_night_56), (79, kX12_night_79), (83, kX12_night_83), (118, kX12_night_118), (138, kX12_night_138), (146, kX12_night_146), (152, kX12_night_152), (158, kX12_night_158), (164, kX12_night_164), (188, kX12_night_188)])
def kX12_wakes_0 : List qIns := [(.aload_n 0, 1, []), (.iload_n 1, 1, []), (.i2l, 1, []), (.invokevirtual 296, 3, [259, 2116, 2, 0, 13]), (.ifCond .ne 9, 3, [15]), (.aload_n 0, 1, []), (.iconst 1, 1, [1]), (.invokevirtual 95, 3, [213, 1895, 2, 0, 13]), (.ireturn, 1, [1])]
def kX12_wakes_15 : List qIns := [(.lconst 1, 1, []), (.lstore_n 2, 1, []), (.lconst 1, 1, []), (.lstore 4, 2, []), (.aload_n 0, 1, []), (.iload_n 1, 1, []), (.invokevirtual 269, 3, [269, 2084, 2, 0, 13]), (.invokestatic 284, 3, [263, 2120, 1, 0, 0]), (.istore 6, 2, []), (.nop, 0, [30])]
def kX12_wakes_30 : List qIns := [(.iload 6, 2, []), (.ifCond .le 27, 3, [59]), (.lload_n 2, 1, []), (.aload_n 0, 1, []), (.getfield 7, 3, [12, 0, 1726, 2]), (.iconst 4, 1, [4]), (.iaload, 1, []), (.i2l, 1, []), (.lmul, 1, []), (.lstore_n 2, 1, []), (.lload 4, 2, []), (.ldc2_w 347, 3, [2225, 16]), (.lmul, 1, []), (.lstore 4, 2, []), (.iinc 6 (-1), 3, []), (.goto (-26), 3, [30])]
def kX12_wakes_59 : List qIns := [(.aload_n 0, 1, []), (.lload_n 2, 1, []), (.lload 4, 2, []), (.invokevirtual 462, 3, [217, 2473, 3, 0, 13]), (.ireturn, 1, [1])]
def mX12_wakes : qMI := (yX12_wakes, cX12_wakes, 7, (some .boolean), 12, [2480, 273, 2478, 2479], 1, false, [(0, kX12_wakes_0), (15, kX12_wakes_15), (30, kX12_wakes_30), (59, kX12_wakes_59)])
def kX12_copyYields_0 : List qIns := [(.iload_n 1, 1, []), (.invokestatic 99, 3, [218, 1892, 1, 0, 0]), (.ifCond .ne 9, 3, [13]), (.aload_n 0, 1, []), (.iconst 1, 1, [1]), (.invokevirtual 88, 3, [214, 1955, 2, 0, 13]), (.ireturn, 1, [0])]
def kX12_copyYields_13 : List qIns := [(.aload_n 0, 1, []), (.getfield 24, 3, [12, 6, 1732, 2]), (.iload_n 1, 1, []), (.iaload, 1, []), (.iconst (-1), 1, []), (.if_icmp .ne 9, 3, [29]), (.aload_n 0, 1, []), (.iconst 2, 1, [2]), (.invokevirtual 88, 3, [214, 1955, 2, 0, 13]), (.ireturn, 1, [0])]
def kX12_copyYields_29 : List qIns := [(.aload_n 0, 1, []), (.getfield 24, 3, [12, 6, 1732, 2]), (.iload_n 1, 1, []), (.iaload, 1, []), (.aload_n 0, 1, []), (.getfield 7, 3, [12, 0, 1726, 2]), (.iconst 0, 1, [0]), (.iaload, 1, []), (.if_icmp .ge 9, 3, [50]), (.aload_n 0, 1, []), (.iconst 3, 1, [3]), (.invokevirtual 88, 3, [214, 1955, 2, 0, 13]), (.ireturn, 1, [0])]
def kX12_copyYields_50 : List qIns := [(.iconst 0, 1, [0]), (.istore_n 2, 1, []), (.nop, 0, [52])]
def kX12_copyYields_52 : List qIns := [(.iload_n 2, 1, []), (.aload_n 0, 1, []), (.getfield 7, 3, [12, 0, 1726, 2]), (.iconst 0, 1, [0]), (.iaload, 1, []), (.if_icmp .ge 36, 3, [95]), (.aload_n 0, 1, []), (.getfield 27, 3, [12, 7, 1733, 2]), (.bipush 60, 2, [60]), (.iload_n 1, 1, []), (.imul, 1, []), (.iload_n 2, 1, []), (.iadd, 1, []), (.aload_n 0, 1, []), (.iload_n 2, 1, []), (.iconst 4, 1, [4]), (.invokevirtual 272, 3, [264, 2123, 3, 0, 13]), (.i2l, 1, []), (.aload_n 0, 1, []), (.getfield 21, 3, [12, 5, 1731, 2]), (.iload_n 1, 1, []), (.iaload, 1, []), (.invokestatic 106, 3, [219, 1907, 2, 1, 0]), (.lastore, 1, []), (.iinc 2 1, 3, [1]), (.goto (-40), 3, [52])]
def kX12_copyYields_95 : List qIns := [(.aload_n 0, 1, []), (.aload_n 0, 1, []), (.getfield 7, 3, [12, 0, 1726, 2]), (.iconst 0, 1, [0]), (.iaload, 1, []), (.invokevirtual 92, 3, [215, 2048, 2, 0, 13]), (.ireturn, 1, [0])]
def mX12_copyYields : qMI := (yX12_copyYields, cX12_copyYields, 3, (some .int), 12, [2484, 273, 2482, 2483], 1, false, [(0, kX12_copyYields_0), (13, kX12_copyYields_13), (29, kX12_copyYields_29), (50, kX12_copyYields_50), (52, kX12_copyYields_52), (95, kX12_copyYields_95)])
def kX12_draw_0 : List qIns := [(.aload_n 0, 1, []), (.aload_n 0, 1, []), (.getfield 466, 3, [12, 37, 1763, 0]), (.sipush 3187, 3, [3187]), (.imul, 1, []), (.sipush 11411, 3, [11411]), (.iadd, 1, []), (.ldc_w 469, 3, [2518, 65536]), (.irem, 1, []), (.putfield 466, 3, [12, 37, 1763, 0]), (.aload_n 0, 1, []), (.getfield 466, 3, [12, 37, 1763, 0]), (.bipush 8, 2, [8]), (.idiv, 1, []), (.iload_n 1, 1, []), (.irem, 1, []), (.ireturn, 1, [0])]
def mX12_draw : qMI := (yX12_draw, cX12_draw, 2, (some .int), 12, [2517, 273, 2516, 122], 1, false, [(0, kX12_draw_0)])
def kX12_minutesBy_0 : List qIns := [(.aload_n 0, 1, []), (.getfield 7, 3, [12, 0, 1726, 2]), (.iconst 5, 1, [5]), (.iaload, 1, []), (.iload_n 1, 1, []), (.iadd, 1, []), (.sipush 9999, 3, [9999]), (.if_icmp .le 5, 3, [16]), (.iconst 0, 1, [0]), (.ireturn, 1, [1])]
def kX12_minutesBy_16 : List qIns := [(.aload_n 0, 1, []), (.getfield 72, 3, [12, 40, 1766, 2]), (.iconst 2, 1, [2]), (.dup2, 1, []), (.iaload, 1, []), (.aload_n 0, 1, []), (.iload_n 1, 1, []), (.invokevirtual 323, 3, [281, 2143, 2, 0, 13]), (.iadd, 1, []), (.iastore, 1, []), (.aload_n 0, 1, []), (.getfield 72, 3, [12, 40, 1766, 2]), (.iconst 1, 1, [1]), (.dup2, 1, []), (.iaload, 1, []), (.iload_n 1, 1, []), (.iadd, 1, []), (.iastore, 1, []), (.iconst 1, 1, [1]), (.ireturn, 1, [1])]
def mX12_minutesBy : qMI := (yX12_minutesBy, cX12_minutesBy, 2, (some .boolean), 12, [2501, 273, 2500, 118], 1, false, [(0, kX12_minutesBy_0), (16, kX12_minutesBy_16)])
def kX12_dawnsBy_0 : List qIns := [(.aload_n 0, 1, []), (.getfield 7, 3, [12, 0, 1726, 2]), (.iconst 5, 1, [5]), (.iaload, 1, []), (.ifCond .gt 19, 3, [25]), (.aload_n 0, 1, []), (.invokevirtual 290, 3, [268, 2104, 1, 0, 13]), (.invokestatic 284, 3, [263, 2120, 1, 0, 0]), (.aload_n 0, 1, []), (.getfield 7, 3, [12, 0, 1726, 2]), (.iconst 1, 1, [1]), (.iaload, 1, []), (.if_icmp .ge 7, 3, [29]), (.nop, 0, [25])]
def kX12_dawnsBy_25 : List qIns := [(.iconst 1, 1, [1]), (.goto 4, 3, [30])]
def kX12_dawnsBy_29 : List qIns := [(.iconst 0, 1, [0]), (.nop, 0, [30])]
def kX12_dawnsBy_30 : List qIns := [(.istore_n 1, 1, []), (.aload_n 0, 1, []), (.invokevirtual 326, 3, [283, 2174, 1, 0, 13]), (.pop, 1, []), (.iload_n 1, 1, []), (.ireturn, 1, [1])]
def mX12_dawnsBy : qMI := (yX12_dawnsBy, cX12_dawnsBy, 2, (some .boolean), 12, [2505, 273, 2504, 119], 0, false, [(0, kX12_dawnsBy_0), (25, kX12_dawnsBy_25), (29, kX12_dawnsBy_29), (30, kX12_dawnsBy_30)])
def kX12_bootsBy_0 : List qIns := [(.aload_n 0, 1, []), (.iload_n 1, 1, []), (.iload_n 2, 1, []), (.iload_n 3, 1, []), (.invokevirtual 331, 3, [285, 2183, 4, 0, 13]), (.ifCond .ne 5, 3, [12]), (.iconst 0, 1, [0]), (.ireturn, 1, [1])]
def kX12_bootsBy_12 : List qIns := [(.aload_n 0, 1, []), (.getfield 72, 3, [12, 40, 1766, 2]), (.iconst 3, 1, [3]), (.dup2, 1, []), (.iaload, 1, []), (.iconst 1, 1, [1]), (.iadd, 1, []), (.iastore, 1, []), (.iconst 1, 1, [1]), (.ireturn, 1, [1])]
def mX12_bootsBy : qMI := (yX12_bootsBy, cX12_bootsBy, 4, (some .boolean), 12, [2509, 273, 2508, 120], 3, false, [(0, kX12_bootsBy_0), (12, kX12_bootsBy_12)])
def kX12_bootsAny_0 : List qIns := [(.aload_n 0, 1, []), (.getfield 7, 3, [12, 0, 1726, 2]), (.iconst 0, 1, [0]), (.iaload, 1, []), (.ifCond .ne 5, 3, [11]), (.iconst 0, 1, [0]), (.ireturn, 1, [1])]
def kX12_bootsAny_11 : List qIns := [(.aload_n 0, 1, []), (.aload_n 0, 1, []), (.getfield 7, 3, [12, 0, 1726, 2]), (.iconst 0, 1, [0]), (.iaload, 1, []), (.invokevirtual 470, 3, [353, 2514, 2, 0, 13]), (.istore_n 1, 1, []), (.aload_n 0, 1, []), (.aload_n 0, 1, []), (.getfield 7, 3, [12, 0, 1726, 2]), (.iconst 0, 1, [0]), (.iaload, 1, []), (.invokevirtual 470, 3, [353, 2514, 2, 0, 13]), (.istore_n 2, 1, []), (.aload_n 0, 1, []), (.iload_n 1, 1, []), (.iload_n 2, 1, []), (.aload_n 0, 1, []), (.bipush 20, 2, [20]), (.invokevirtual 470, 3, [353, 2514, 2, 0, 13]), (.invokevirtual 473, 3, [356, 2506, 4, 0, 13]), (.ireturn, 1, [1])]
def mX12_bootsAny : qMI := (yX12_bootsAny, cX12_bootsAny, 3, (some .boolean), 12, [2513, 273, 2512, 121], 0, false, [(0, kX12_bootsAny_0), (11, kX12_bootsAny_11)])
def kX12_does_0 : List qIns := [(.aload_n 0, 1, []), (.getfield 7, 3, [12, 0, 1726, 2]), (.iload_n 1, 1, []), (.iconst 1, 1, [1]), (.iadd, 1, []), (.iaload, 1, []), (.istore_n 2, 1, []), (.aload_n 0, 1, []), (.getfield 7, 3, [12, 0, 1726, 2]), (.iload_n 1, 1, []), (.iconst 2, 1, [2]), (.iadd, 1, []), (.iaload, 1, []), (.istore_n 3, 1, []), (.aload_n 0, 1, []), (.getfield 7, 3, [12, 0, 1726, 2]), (.iload_n 1, 1, []), (.iaload, 1, []), (.tableswitch 116 3 14 #[75, 116, 116, 116, 116, 116, 116, 64, 70, 90, 104, 111], 64, [140, 99, 140, 140, 140, 140, 140, 140, 88, 94, 114, 128, 135])]
def kX12_does_88 : List qIns := [(.aload_n 0, 1, []), (.iload_n 2, 1, []), (.invokevirtual 476, 3, [354, 2498, 2, 0, 13]), (.ireturn, 1, [1])]
def kX12_does_94 : List qIns := [(.aload_n 0, 1, []), (.invokevirtual 479, 3, [355, 2502, 1, 0, 13]), (.ireturn, 1, [1])]
def kX12_does_99 : List qIns := [(.aload_n 0, 1, []), (.iload_n 2, 1, []), (.iload_n 3, 1, []), (.aload_n 0, 1, []), (.getfield 7, 3, [12, 0, 1726, 2]), (.iload_n 1, 1, []), (.iconst 3, 1, [3]), (.iadd, 1, []), (.iaload, 1, []), (.invokevirtual 473, 3, [356, 2506, 4, 0, 13]), (.ireturn, 1, [1])]
def kX12_does_114 : List qIns := [(.aload_n 0, 1, []), (.iload_n 2, 1, []), (.invokevirtual 334, 3, [287, 2191, 2, 0, 13]), (.ifCond .le 7, 3, [126]), (.iconst 1, 1, [1]), (.goto 4, 3, [127])]
def kX12_does_126 : List qIns := [(.iconst 0, 1, [0]), (.nop, 0, [127])]
def kX12_does_127 : List qIns := [(.ireturn, 1, [1])]
def kX12_does_128 : List qIns := [(.aload_n 0, 1, []), (.iload_n 2, 1, []), (.iload_n 3, 1, []), (.invokevirtual 340, 3, [289, 2203, 3, 0, 13]), (.ireturn, 1, [1])]
def kX12_does_135 : List qIns := [(.aload_n 0, 1, []), (.invokevirtual 482, 3, [357, 2510, 1, 0, 13]), (.ireturn, 1, [1])]
def kX12_does_140 : List qIns := [(.iconst 1, 1, [1]), (.ireturn, 1, [1])]
def mX12_does : qMI := (yX12_does, cX12_does, 4, (some .boolean), 12, [2497, 273, 2496, 117], 1, false, [(0, kX12_does_0), (88, kX12_does_88), (94, kX12_does_94), (99, kX12_does_99), (114, kX12_does_114), (126, kX12_does_126), (127, kX12_does_127), (128, kX12_does_128), (135, kX12_does_135), (140, kX12_does_140)])
def kX12_holds_0 : List qIns := [(.aload_n 0, 1, []), (.getfield 7, 3, [12, 0, 1726, 2]), (.iload_n 1, 1, []), (.iaload, 1, []), (.sipush 1500, 3, [1500]), (.isub, 1, []), (.istore_n 2, 1, []), (.iload_n 2, 1, []), (.bipush 19, 2, [19]), (.if_icmp .ne 24, 3, [38]), (.aload_n 0, 1, []), (.aload_n 0, 1, []), (.getfield 7, 3, [12, 0, 1726, 2]), (.iload_n 1, 1, []), (.iconst 1, 1, [1]), (.iadd, 1, []), (.iaload, 1, []), (.invokevirtual 269, 3, [269, 2084, 2, 0, 13]), (.ifCond .ne 7, 3, [36]), (.iconst 1, 1, [1]), (.goto 4, 3, [37])]
def kX12_holds_36 : List qIns := [(.iconst 0, 1, [0]), (.nop, 0, [37])]
def kX12_holds_37 : List qIns := [(.ireturn, 1, [1])]
def kX12_holds_38 : List qIns := [(.iload_n 2, 1, []), (.bipush 20, 2, [20]), (.if_icmp .ne 13, 3, [54]), (.aload_n 0, 1, []), (.invokevirtual 290, 3, [268, 2104, 1, 0, 13]), (.invokestatic 284, 3, [263, 2120, 1, 0, 0]), (.goto 9, 3, [60])]
def kX12_holds_54 : List qIns := [(.aload_n 0, 1, []), (.getfield 7, 3, [12, 0, 1726, 2]), (.iconst 5, 1, [5]), (.iaload, 1, []), (.nop, 0, [60])]
def kX12_holds_60 : List qIns := [(.istore_n 3, 1, []), (.aload_n 0, 1, []), (.getfield 7, 3, [12, 0, 1726, 2]), (.iload_n 1, 1, []), (.iconst 5, 1, [5]), (.iadd, 1, []), (.iaload, 1, []), (.bipush 60, 2, [60]), (.if_icmp .ne 23, 3, [94]), (.iload_n 3, 1, []), (.aload_n 0, 1, []), (.getfield 7, 3, [12, 0, 1726, 2]), (.iload_n 1, 1, []), (.iconst 2, 1, [2]), (.iadd, 1, []), (.iaload, 1, []), (.if_icmp .ge 7, 3, [90]), (.iconst 1, 1, [1]), (.goto 57, 3, [144])]
def kX12_holds_90 : List qIns := [(.iconst 0, 1, [0]), (.goto 53, 3, [144])]
def kX12_holds_94 : List qIns := [(.aload_n 0, 1, []), (.getfield 7, 3, [12, 0, 1726, 2]), (.iload_n 1, 1, []), (.iconst 5, 1, [5]), (.iadd, 1, []), (.iaload, 1, []), (.bipush 62, 2, [62]), (.if_icmp .ne 23, 3, [127]), (.iload_n 3, 1, []), (.aload_n 0, 1, []), (.getfield 7, 3, [12, 0, 1726, 2]), (.iload_n 1, 1, []), (.iconst 2, 1, [2]), (.iadd, 1, []), (.iaload, 1, []), (.if_icmp .le 7, 3, [123]), (.iconst 1, 1, [1]), (.goto 24, 3, [144])]
def kX12_holds_123 : List qIns := [(.iconst 0, 1, [0]), (.goto 20, 3, [144])]
def kX12_holds_127 : List qIns := [(.iload_n 3, 1, []), (.aload_n 0, 1, []), (.getfield 7, 3, [12, 0, 1726, 2]), (.iload_n 1, 1, []), (.iconst 2, 1, [2]), (.iadd, 1, []), (.iaload, 1, []), (.if_icmp .ne 7, 3, [143]), (.iconst 1, 1, [1]), (.goto 4, 3, [144])]
def kX12_holds_143 : List qIns := [(.iconst 0, 1, [0]), (.nop, 0, [144])]
def kX12_holds_144 : List qIns := [(.ireturn, 1, [1])]
def mX12_holds : qMI := (yX12_holds, cX12_holds, 4, (some .boolean), 12, [2522, 273, 2521, 123], 1, false, [(0, kX12_holds_0), (36, kX12_holds_36), (37, kX12_holds_37), (38, kX12_holds_38), (54, kX12_holds_54), (60, kX12_holds_60), (90, kX12_holds_90), (94, kX12_holds_94), (123, kX12_holds_123), (127, kX12_holds_127), (143, kX12_holds_143), (144, kX12_holds_144)])
def kX12_behindEnds_0 : List qIns := [(.iload_n 1, 1, []), (.istore_n 2, 1, []), (.nop, 0, [2])]
def kX12_behindEnds_2 : List qIns := [(.iload_n 2, 1, []), (.aload_n 0, 1, []), (.getfield 7, 3, [12, 0, 1726, 2]), (.bipush 6, 2, [6]), (.iaload, 1, []), (.if_icmp .ge 105, 3, [115]), (.aload_n 0, 1, []), (.getfield 7, 3, [12, 0, 1726, 2]), (.bipush 88, 2, [88]), (.bipush 6, 2, [6]), (.iload_n 2, 1, []), (.imul, 1, []), (.iadd, 1, []), (.iaload, 1, []), (.bipush 17, 2, [17]), (.if_icmp .ne 88, 3, [115]), (.aload_n 0, 1, []), (.getfield 7, 3, [12, 0, 1726, 2]), (.bipush 88, 2, [88]), (.bipush 6, 2, [6]), (.iload_n 2, 1, []), (.imul, 1, []), (.iadd, 1, []), (.iconst 4, 1, [4]), (.iadd, 1, []), (.iaload, 1, []), (.istore_n 3, 1, []), (.aload_n 0, 1, []), (.getfield 7, 3, [12, 0, 1726, 2]), (.bipush 88, 2, [88]), (.bipush 6, 2, [6]), (.iload_n 3, 1, []), (.imul, 1, []), (.iadd, 1, []), (.iaload, 1, []), (.bipush 16, 2, [16]), (.if_icmp .ne 16, 3, [75]), (.aload_n 0, 1, []), (.getfield 69, 3, [12, 39, 1765, 2]), (.iload_n 3, 1, []), (.iaload, 1, []), (.ifCond .le 7, 3, [75]), (.iconst 1, 1, [1]), (.goto 4, 3, [76])]
def kX12_behindEnds_75 : List qIns := [(.iconst 0, 1, [0]), (.nop, 0, [76])]
def kX12_behindEnds_76 : List qIns := [(.istore 4, 2, []), (.aload_n 0, 1, []), (.getfield 69, 3, [12, 39, 1765, 2]), (.iload_n 3, 1, []), (.dup2, 1, []), (.iaload, 1, []), (.iload 4, 2, []), (.ifCond .eq 7, 3, [94]), (.iconst 1, 1, [1]), (.goto 4, 3, [95])]
def kX12_behindEnds_94 : List qIns := [(.iconst 0, 1, [0]), (.nop, 0, [95])]
def kX12_behindEnds_95 : List qIns := [(.isub, 1, []), (.iastore, 1, []), (.iload 4, 2, []), (.ifCond .eq 9, 3, [108]), (.iload_n 3, 1, []), (.iconst 1, 1, [1]), (.iadd, 1, []), (.goto 6, 3, [111])]
def kX12_behindEnds_108 : List qIns := [(.iload_n 2, 1, []), (.iconst 1, 1, [1]), (.iadd, 1, []), (.nop, 0, [111])]
def kX12_behindEnds_111 : List qIns := [(.istore_n 2, 1, []), (.goto (-110), 3, [2])]
def kX12_behindEnds_115 : List qIns := [(.iload_n 2, 1, []), (.ireturn, 1, [0])]
def mX12_behindEnds : qMI := (yX12_behindEnds, cX12_behindEnds, 5, (some .int), 12, [2526, 273, 2525, 124], 1, false, [(0, kX12_behindEnds_0), (2, kX12_behindEnds_2), (75, kX12_behindEnds_75), (76, kX12_behindEnds_76), (94, kX12_behindEnds_94), (95, kX12_behindEnds_95), (108, kX12_behindEnds_108), (111, kX12_behindEnds_111), (115, kX12_behindEnds_115)])
def kX12_lives_0 : List qIns := [(.aload_n 0, 1, []), (.iload_n 1, 1, []), (.putfield 466, 3, [12, 37, 1763, 0]), (.aload_n 0, 1, []), (.iconst 0, 1, [0]), (.putfield 485, 3, [12, 38, 1764, 0]), (.iconst 0, 1, [0]), (.istore_n 2, 1, []), (.nop, 0, [12])]
def kX12_lives_12 : List qIns := [(.iload_n 2, 1, []), (.iconst 5, 1, [5]), (.if_icmp .ge 16, 3, [30]), (.aload_n 0, 1, []), (.getfield 72, 3, [12, 40, 1766, 2]), (.iload_n 2, 1, []), (.iconst 0, 1, [0]), (.iastore, 1, []), (.iinc 2 1, 3, [1]), (.goto (-15), 3, [12])]
def kX12_lives_30 : List qIns := [(.iconst 0, 1, [0]), (.istore_n 2, 1, []), (.nop, 0, [32])]
def kX12_lives_32 : List qIns := [(.iload_n 2, 1, []), (.aload_n 0, 1, []), (.getfield 7, 3, [12, 0, 1726, 2]), (.bipush 6, 2, [6]), (.iaload, 1, []), (.if_icmp .ge 144, 3, [184]), (.aload_n 0, 1, []), (.getfield 485, 3, [12, 38, 1764, 0]), (.sipush 300, 3, [300]), (.if_icmp .ne 11, 3, [61]), (.aload_n 0, 1, []), (.getfield 72, 3, [12, 40, 1766, 2]), (.iconst 4, 1, [4]), (.iconst 1, 1, [1]), (.iastore, 1, []), (.return_, 1, [])]
def kX12_lives_61 : List qIns := [(.bipush 88, 2, [88]), (.bipush 6, 2, [6]), (.iload_n 2, 1, []), (.imul, 1, []), (.iadd, 1, []), (.istore_n 3, 1, []), (.aload_n 0, 1, []), (.dup, 1, []), (.getfield 485, 3, [12, 38, 1764, 0]), (.iconst 1, 1, [1]), (.iadd, 1, []), (.putfield 485, 3, [12, 38, 1764, 0]), (.aload_n 0, 1, []), (.getfield 7, 3, [12, 0, 1726, 2]), (.iload_n 3, 1, []), (.iaload, 1, []), (.bipush 18, 2, [18]), (.if_icmp .ne 4, 3, [91]), (.return_, 1, [])]
def kX12_lives_91 : List qIns := [(.aload_n 0, 1, []), (.getfield 72, 3, [12, 40, 1766, 2]), (.iconst 0, 1, [0]), (.dup2, 1, []), (.iaload, 1, []), (.aload_n 0, 1, []), (.iload_n 3, 1, []), (.invokevirtual 488, 3, [358, 2494, 2, 0, 13]), (.ifCond .eq 7, 3, [110]), (.iconst 0, 1, [0]), (.goto 4, 3, [111])]
def kX12_lives_110 : List qIns := [(.iconst 1, 1, [1]), (.nop, 0, [111])]
def kX12_lives_111 : List qIns := [(.iadd, 1, []), (.iastore, 1, []), (.aload_n 0, 1, []), (.getfield 7, 3, [12, 0, 1726, 2]), (.iload_n 3, 1, []), (.iaload, 1, []), (.bipush 16, 2, [16]), (.if_icmp .ne 19, 3, [140]), (.aload_n 0, 1, []), (.getfield 69, 3, [12, 39, 1765, 2]), (.iload_n 2, 1, []), (.aload_n 0, 1, []), (.getfield 7, 3, [12, 0, 1726, 2]), (.iload_n 3, 1, []), (.iconst 1, 1, [1]), (.iadd, 1, []), (.iaload, 1, []), (.iconst 1, 1, [1]), (.isub, 1, []), (.iastore, 1, []), (.nop, 0, [140])]
def kX12_lives_140 : List qIns := [(.aload_n 0, 1, []), (.aload_n 0, 1, []), (.getfield 7, 3, [12, 0, 1726, 2]), (.iload_n 3, 1, []), (.iaload, 1, []), (.sipush 1500, 3, [1500]), (.if_icmp .lt 24, 3, [174]), (.aload_n 0, 1, []), (.iload_n 3, 1, []), (.invokevirtual 491, 3, [359, 2519, 2, 0, 13]), (.ifCond .ne 16, 3, [174]), (.aload_n 0, 1, []), (.getfield 7, 3, [12, 0, 1726, 2]), (.iload_n 3, 1, []), (.iconst 4, 1, [4]), (.iadd, 1, []), (.iaload, 1, []), (.iconst 1, 1, [1]), (.iadd, 1, []), (.goto 6, 3, [177])]
def kX12_lives_174 : List qIns := [(.iload_n 2, 1, []), (.iconst 1, 1, [1]), (.iadd, 1, []), (.nop, 0, [177])]
def kX12_lives_177 : List qIns := [(.invokevirtual 494, 3, [360, 2523, 2, 0, 13]), (.istore_n 2, 1, []), (.goto (-149), 3, [32])]
def kX12_lives_184 : List qIns := [(.return_, 1, [])]
def mX12_lives : qMI := (yX12_lives, cX12_lives, 4, none, 12, [2493, 273, 2492, 116], 1, false, [(0, kX12_lives_0), (12, kX12_lives_12), (30, kX12_lives_30), (32, kX12_lives_32), (61, kX12_lives_61), (91, kX12_lives_91), (110, kX12_lives_110), (111, kX12_lives_111), (140, kX12_lives_140), (174, kX12_lives_174), (177, kX12_lives_177), (184, kX12_lives_184)])
def kX12_live_0 : List qIns := [(.iload_n 1, 1, []), (.i2l, 1, []), (.lconst 0, 1, []), (.ldc2_w 497, 3, [2489, 9999]), (.invokestatic 319, 3, [225, 2140, 3, 0, 0]), (.ifCond .ne 9, 3, [18]), (.aload_n 0, 1, []), (.iconst 1, 1, [1]), (.invokevirtual 88, 3, [214, 1955, 2, 0, 13]), (.ireturn, 1, [0])]
def kX12_live_18 : List qIns := [(.aload_n 0, 1, []), (.getfield 7, 3, [12, 0, 1726, 2]), (.bipush 6, 2, [6]), (.iaload, 1, []), (.iconst (-1), 1, []), (.if_icmp .ne 10, 3, [36]), (.aload_n 0, 1, []), (.bipush 6, 2, [6]), (.invokevirtual 88, 3, [214, 1955, 2, 0, 13]), (.ireturn, 1, [0])]
def kX12_live_36 : List qIns := [(.aload_n 0, 1, []), (.iload_n 1, 1, []), (.invokevirtual 499, 3, [361, 2490, 2, 2, 13]), (.iconst 0, 1, [0]), (.istore_n 2, 1, []), (.nop, 0, [43])]
def kX12_live_43 : List qIns := [(.iload_n 2, 1, []), (.iconst 5, 1, [5]), (.if_icmp .ge 21, 3, [66]), (.aload_n 0, 1, []), (.getfield 75, 3, [12, 41, 1767, 2]), (.iload_n 2, 1, []), (.aload_n 0, 1, []), (.getfield 72, 3, [12, 40, 1766, 2]), (.iload_n 2, 1, []), (.iaload, 1, []), (.iastore, 1, []), (.iinc 2 1, 3, [1]), (.goto (-20), 3, [43])]
def kX12_live_66 : List qIns := [(.aload_n 0, 1, []), (.iconst 1, 1, [1]), (.putfield 502, 3, [12, 42, 1768, 3]), (.aload_n 0, 1, []), (.aload_n 0, 1, []), (.getfield 485, 3, [12, 38, 1764, 0]), (.invokevirtual 92, 3, [215, 2048, 2, 0, 13]), (.ireturn, 1, [0])]
def mX12_live : qMI := (yX12_live, cX12_live, 3, (some .int), 12, [2488, 273, 2486, 2487], 1, false, [(0, kX12_live_0), (18, kX12_live_18), (36, kX12_live_36), (43, kX12_live_43), (66, kX12_live_66)])
def kX12_lived_0 : List qIns := [(.iload_n 1, 1, []), (.ifCond .lt 8, 3, [9]), (.iload_n 1, 1, []), (.iconst 4, 1, [4]), (.if_icmp .le 11, 3, [17]), (.nop, 0, [9])]
def kX12_lived_9 : List qIns := [(.aload_n 0, 1, []), (.iconst 1, 1, [1]), (.invokevirtual 88, 3, [214, 1955, 2, 0, 13]), (.goto 29, 3, [43])]
def kX12_lived_17 : List qIns := [(.aload_n 0, 1, []), (.getfield 502, 3, [12, 42, 1768, 3]), (.ifCond .eq 16, 3, [37]), (.aload_n 0, 1, []), (.aload_n 0, 1, []), (.getfield 75, 3, [12, 41, 1767, 2]), (.iload_n 1, 1, []), (.iaload, 1, []), (.invokevirtual 92, 3, [215, 2048, 2, 0, 13]), (.goto 9, 3, [43])]
def kX12_lived_37 : List qIns := [(.aload_n 0, 1, []), (.bipush 6, 2, [6]), (.invokevirtual 88, 3, [214, 1955, 2, 0, 13]), (.nop, 0, [43])]
def kX12_lived_43 : List qIns := [(.ireturn, 1, [0])]
def mX12_lived : qMI := (yX12_lived, cX12_lived, 2, (some .int), 12, [2530, 273, 2528, 2529], 1, false, [(0, kX12_lived_0), (9, kX12_lived_9), (17, kX12_lived_17), (37, kX12_lived_37), (43, kX12_lived_43)])
def kX12_mean_0 : List qIns := [(.iload_n 1, 1, []), (.i2l, 1, []), (.lconst 0, 1, []), (.ldc2_w 497, 3, [2489, 9999]), (.invokestatic 319, 3, [225, 2140, 3, 0, 0]), (.ifCond .eq 26, 3, [35]), (.iload_n 2, 1, []), (.i2l, 1, []), (.lconst 1, 1, []), (.ldc2_w 414, 3, [2404, 20]), (.invokestatic 319, 3, [225, 2140, 3, 0, 0]), (.ifCond .eq 14, 3, [35]), (.iload_n 1, 1, []), (.iload_n 2, 1, []), (.iadd, 1, []), (.iconst 1, 1, [1]), (.isub, 1, []), (.sipush 9999, 3, [9999]), (.if_icmp .le 9, 3, [41]), (.nop, 0, [35])]
def kX12_mean_35 : List qIns := [(.aload_n 0, 1, []), (.iconst 1, 1, [1]), (.invokevirtual 95, 3, [213, 1895, 2, 0, 13]), (.ireturn, 1, [1])]
def kX12_mean_41 : List qIns := [(.aload_n 0, 1, []), (.getfield 7, 3, [12, 0, 1726, 2]), (.bipush 6, 2, [6]), (.iaload, 1, []), (.iconst (-1), 1, []), (.if_icmp .ne 10, 3, [59]), (.aload_n 0, 1, []), (.bipush 6, 2, [6]), (.invokevirtual 95, 3, [213, 1895, 2, 0, 13]), (.ireturn, 1, [1])]
def kX12_mean_59 : List qIns := [(.aload_n 0, 1, []), (.sipush 2280, 3, [2280]), (.invokevirtual 349, 3, [300, 2246, 2, 2, 13]), (.lconst 0, 1, []), (.lstore_n 3, 1, []), (.iconst 0, 1, [0]), (.istore 5, 2, []), (.nop, 0, [71])]
def kX12_mean_71 : List qIns := [(.iload 5, 2, []), (.iload_n 2, 1, []), (.if_icmp .ge 35, 3, [109]), (.aload_n 0, 1, []), (.iload_n 1, 1, []), (.iload 5, 2, []), (.iadd, 1, []), (.invokevirtual 499, 3, [361, 2490, 2, 2, 13]), (.lload_n 3, 1, []), (.aload_n 0, 1, []), (.invokevirtual 290, 3, [268, 2104, 1, 0, 13]), (.invokestatic 284, 3, [263, 2120, 1, 0, 0]), (.i2l, 1, []), (.ladd, 1, []), (.lstore_n 3, 1, []), (.aload_n 0, 1, []), (.sipush 2280, 3, [2280]), (.invokevirtual 358, 3, [301, 2254, 2, 2, 13]), (.iinc 5 1, 3, [1]), (.goto (-35), 3, [71])]
def kX12_mean_109 : List qIns := [(.aload_n 0, 1, []), (.lload_n 3, 1, []), (.iload_n 2, 1, []), (.i2l, 1, []), (.invokevirtual 462, 3, [217, 2473, 3, 0, 13]), (.ireturn, 1, [1])]
def mX12_mean : qMI := (yX12_mean, cX12_mean, 6, (some .boolean), 12, [2534, 273, 2532, 2533], 2, false, [(0, kX12_mean_0), (35, kX12_mean_35), (41, kX12_mean_41), (59, kX12_mean_59), (71, kX12_mean_71), (109, kX12_mean_109)])
def kX12_copies_0 : List qIns := [(.iconst 0, 1, [0]), (.istore_n 3, 1, []), (.nop, 0, [2])]
def kX12_copies_2 : List qIns := [(.iload_n 3, 1, []), (.sipush 456, 3, [456]), (.if_icmp .ge 33, 3, [39]), (.aload_n 0, 1, []), (.getfield 7, 3, [12, 0, 1726, 2]), (.sipush 456, 3, [456]), (.iload_n 2, 1, []), (.imul, 1, []), (.iload_n 3, 1, []), (.iadd, 1, []), (.aload_n 0, 1, []), (.getfield 7, 3, [12, 0, 1726, 2]), (.sipush 456, 3, [456]), (.iload_n 1, 1, []), (.imul, 1, []), (.iload_n 3, 1, []), (.iadd, 1, []), (.iaload, 1, []), (.iastore, 1, []), (.iinc 3 1, 3, [1]), (.goto (-34), 3, [2])]
def kX12_copies_39 : List qIns := [(.iconst 0, 1, [0]), (.istore_n 3, 1, []), (.nop, 0, [41])]
def kX12_copies_41 : List qIns := [(.iload_n 3, 1, []), (.bipush 8, 2, [8]), (.if_icmp .ge 31, 3, [75]), (.aload_n 0, 1, []), (.getfield 13, 3, [12, 1, 1727, 2]), (.bipush 8, 2, [8]), (.iload_n 2, 1, []), (.imul, 1, []), (.iload_n 3, 1, []), (.iadd, 1, []), (.aload_n 0, 1, []), (.getfield 13, 3, [12, 1, 1727, 2]), (.bipush 8, 2, [8]), (.iload_n 1, 1, []), (.imul, 1, []), (.iload_n 3, 1, []), (.iadd, 1, []), (.laload, 1, []), (.lastore, 1, []), (.iinc 3 1, 3, [1]), (.goto (-31), 3, [41])]
def kX12_copies_75 : List qIns := [(.return_, 1, [])]
def mX12_copies : qMI := (yX12_copies, cX12_copies, 4, none, 12, [2542, 273, 2541, 125], 2, false, [(0, kX12_copies_0), (2, kX12_copies_2), (39, kX12_copies_39), (41, kX12_copies_41), (75, kX12_copies_75)])
def kX12_mark_0 : List qIns := [(.aload_n 0, 1, []), (.getfield 506, 3, [12, 43, 1769, 0]), (.iconst 3, 1, [3]), (.if_icmp .ne 9, 3, [14]), (.aload_n 0, 1, []), (.iconst 4, 1, [4]), (.invokevirtual 88, 3, [214, 1955, 2, 0, 13]), (.ireturn, 1, [0])]
def kX12_mark_14 : List qIns := [(.aload_n 0, 1, []), (.dup, 1, []), (.getfield 506, 3, [12, 43, 1769, 0]), (.iconst 1, 1, [1]), (.iadd, 1, []), (.putfield 506, 3, [12, 43, 1769, 0]), (.aload_n 0, 1, []), (.iconst 0, 1, [0]), (.aload_n 0, 1, []), (.getfield 506, 3, [12, 43, 1769, 0]), (.invokevirtual 509, 3, [365, 2539, 3, 2, 13]), (.aload_n 0, 1, []), (.aload_n 0, 1, []), (.getfield 506, 3, [12, 43, 1769, 0]), (.invokevirtual 92, 3, [215, 2048, 2, 0, 13]), (.ireturn, 1, [0])]
def mX12_mark : qMI := (yX12_mark, cX12_mark, 1, (some .int), 12, [2538, 273, 2536, 2537], 0, false, [(0, kX12_mark_0), (14, kX12_mark_14)])
def kX12_undo_0 : List qIns := [(.aload_n 0, 1, []), (.getfield 506, 3, [12, 43, 1769, 0]), (.ifCond .ne 10, 3, [14]), (.aload_n 0, 1, []), (.bipush 6, 2, [6]), (.invokevirtual 88, 3, [214, 1955, 2, 0, 13]), (.ireturn, 1, [0])]
def kX12_undo_14 : List qIns := [(.aload_n 0, 1, []), (.aload_n 0, 1, []), (.getfield 506, 3, [12, 43, 1769, 0]), (.iconst 0, 1, [0]), (.invokevirtual 509, 3, [365, 2539, 3, 2, 13]), (.aload_n 0, 1, []), (.dup, 1, []), (.getfield 506, 3, [12, 43, 1769, 0]), (.iconst 1, 1, [1]), (.isub, 1, []), (.putfield 506, 3, [12, 43, 1769, 0]), (.aload_n 0, 1, []), (.aload_n 0, 1, []), (.getfield 506, 3, [12, 43, 1769, 0]), (.invokevirtual 92, 3, [215, 2048, 2, 0, 13]), (.ireturn, 1, [0])]
def mX12_undo : qMI := (yX12_undo, cX12_undo, 1, (some .int), 12, [2562, 273, 2560, 2561], 0, false, [(0, kX12_undo_0), (14, kX12_undo_14)])
def kJ6_bitCount_0f7a4_0 : List qIns := [(.iload_n 0, 1, []), (.iload_n 0, 1, []), (.iconst 1, 1, [1]), (.iushr, 1, []), (.ldc_w 265, 3, [1215, 1431655765]), (.iand, 1, []), (.isub, 1, []), (.istore_n 0, 1, []), (.iload_n 0, 1, []), (.ldc_w 266, 3, [1216, 858993459]), (.iand, 1, []), (.iload_n 0, 1, []), (.iconst 2, 1, [2]), (.iushr, 1, []), (.ldc_w 266, 3, [1216, 858993459]), (.iand, 1, []), (.iadd, 1, []), (.istore_n 0, 1, []), (.iload_n 0, 1, []), (.iload_n 0, 1, []), (.iconst 4, 1, [4]), (.iushr, 1, []), (.iadd, 1, []), (.ldc_w 267, 3, [1217, 252645135]), (.iand, 1, []), (.istore_n 0, 1, []), (.iload_n 0, 1, []), (.iload_n 0, 1, []), (.bipush 8, 2, [8]), (.iushr, 1, []), (.iadd, 1, []), (.istore_n 0, 1, []), (.iload_n 0, 1, []), (.iload_n 0, 1, []), (.bipush 16, 2, [16]), (.iushr, 1, []), (.iadd, 1, []), (.istore_n 0, 1, []), (.iload_n 0, 1, []), (.bipush 63, 2, [63]), (.iand, 1, []), (.ireturn, 1, [0])]
def mJ6_bitCount_0f7a4 : qMI := (yJ6_bitCount_0f7a4, cJ6_bitCount_0f7a4, 1, (some .int), 20, [1214, 276, 1213], 1, true, [(0, kJ6_bitCount_0f7a4_0)])
def mJ0_length_8abf5 : qMI := (yJ0_length_8abf5, cJ0_length_8abf5, 1, (some .int), 90, [514, 265, 512, 513], 0, false, [])
def mJ0_charAt_5068e : qMI := (yJ0_charAt_5068e, cJ0_charAt_5068e, 2, (some .char), 90, [524, 265, 522, 523], 1, false, [])
def qML : List qMI := [mX0_init, mX0_look, mX0_firstOf, mX0_begin, mX0_note, mX0_upWithin, mX0_lastUp, mX1_init, mX1_empty, mX1_copy, mX1_hasBoy, mX1_hasQuarrel, mX1_hasCell, mX1_named, mX1_addBoy, mX1_addQuarrel, mX1_place, mX1_tune, mX1_listen, mX1_stepsBetween, mX1_isOpen, mX1_isUp, mX1_upSet, mX1_openSet, mX1_openGrudges, mX1_openOf, mX1_dueMinute, mX1_earliestDue, mX1_minuteOfYielding, mX1_endBy, mX1_pass, mX1_giveIn, mX1_strike, mX2_init, mX2_takeIn, mX2_takeField, mX2_takeOdds, mX2_takeBoy, mX2_takePerhaps, mX2_takeQuarrel, mX3_init, mX3_forget, mX3_add, mX3_fittingPrides, mX3_asSeen, mX3_bestParter, mX3_mostAlike, mX3_alike, mX3_least, mX3_greatest, mX4_init, mX4_won, mX4_isRest, mX4_howManyRests, mX4_restOf, mX4_outcome, mX4_firstMove, mX4_play, mX4_playedOn, mX4_nightsWithFew, mX4_power, mX4_commonDivisor, mX5_init, mX5_run, mX5_behindEnd, mX5_behindStep, mX5_behind, mX5_holds, mX5_letPass, mX5_newDay, mX5_fallOut, mX5_moveTo, mX5_drawQuarrel, mX5_drawBy, mX6_init, mX6_quickestSet, mX6_breakfastIfYield, mX6_quickestCell, mX6_fewestEnders, mX6_endsAll, mX6_pairOf, mX6_mostApart, mX6_isApart, mX6_circleOf, mX6_howManyCircles, mX6_leastSide, mX6_isSide, mX7_init, mX7_withLetter, mX7_hasRoom, mX7_addFour, mX7_open, mX7_signAt, mX7_step, mX7_wordToken, mX7_numberToken, mX7_isLetter, mX7_isDigit, mX7_reservedNumber, mX7_atEnd, mX7_fail, mX7_cannotStand, mX7_isName, mX7_takeWord, mX7_takeNumber, mX7_takeStop, mX7_takeCompares, mX7_boyHere, mX8_init, mX8_known, mX8_laid, mX8_alike, mX8_has, mX8_holds, mX8_lay, mX8_put, mX8_get, mX8_move, mX8_cut, mX9_init, mX9_drop, mX9_copy, mX9_hasLine, mX9_addLine, mX9_fill, mX9_join, mX10_init, mX10_takeIn, mX10_beginStep, mX10_isStep, mX10_takeEnd, mX10_takeRest, mX10_takeOne, mX10_takePair, mX10_takeBoy, mX10_takeBoyAndCell, mX10_takeTest, mX11_init, mX11_within, mX11_give, mX11_refuse, mX11_grant, mX11_deny, mX11_tellFraction, mX11_status, mX11_top, mX11_bottom, mX11_tray, mX11_placeStatus, mX11_write, mX11_read, mX11_pour, mX11_feed, mX11_camp, mX11_weeks, mX11_fault, mX11_told, mX11_boy, mX11_quarrel, mX11_minute, mX11_dawn, mX11_boot, mX11_forgive, mX11_pitch, mX11_teach, mX11_stir, mX11_come, mX11_rule, mX11_far, mX11_hears, mX11_near, mX11_due, mX11_upIn, mX11_upBy, mX11_breakfast, mX11_overIn, mX11_yielder, mX11_reveille, mX11_last, mX11_soonestStatus, mX11_soonest, mX11_soonestIn, mX11_best, mX11_bestIn, mX11_ending, mX11_endingSet, mX11_apart, mX11_apartSet, mX11_circle, mX11_circles, mX11_sides, mX11_clueStatus, mX11_fittingPrides, mX11_fits, mX11_fitsAt, mX11_ask, mX11_rests, mX11_restAt, mX11_game, mX11_moveOf, mX11_night, mX11_wakes, mX11_copyYields, mX11_live, mX11_lived, mX11_mean, mX11_mark, mX11_undo, mX12_init, mX12_plain, mX12_status, mX12_top, mX12_bottom, mX12_is, mX12_refuse, mX12_gives, mX12_orNone, mX12_tellsBy, mX12_isTray, mX12_cut, mX12_tray, mX12_wrongPlace, mX12_write, mX12_read, mX12_pour, mX12_isFrom, mX12_feed, mX12_four, mX12_byteAt, mX12_isSmall, mX12_isDigit, mX12_ahead, mX12_isSign, mX12_inWords, mX12_fails, mX12_begins, mX12_wantSign, mX12_wantWord, mX12_number, mX12_isName, mX12_nameHere, mX12_findHere, mX12_fault, mX12_taken, mX12_boyRow, mX12_quarrelRow, mX12_isThere, mX12_oldBoy, mX12_aField, mX12_aBoy, mX12_aQuarrel, mX12_campPart, mX12_camp, mX12_cells, mX12_boyTo, mX12_test, mX12_weekOrder, mX12_weekStep, mX12_weeks, mX12_isBoy, mX12_isQuarrel, mX12_isCell, mX12_isIn, mX12_bits, mX12_boyOf, mX12_quarrelOf, mX12_isOpen, mX12_both, mX12_openOnes, mX12_openOf, mX12_areUp, mX12_off, mX12_apartOf, mX12_nearOf, mX12_dueOf, mX12_allGrudges, mX12_told, mX12_boy, mX12_quarrel, mX12_ends, mX12_minuteGoes, mX12_minutesGo, mX12_minute, mX12_dawns, mX12_dawn, mX12_boots, mX12_boot, mX12_forgives, mX12_forgive, mX12_pitches, mX12_pitch, mX12_teach, mX12_stir, mX12_come, mX12_rule, mX12_far, mX12_hears, mX12_near, mX12_due, mX12_levelAt, mX12_keeps, mX12_restores, mX12_everybody, mX12_upOf, mX12_breakfastNow, mX12_upIn, mX12_upBy, mX12_breakfast, mX12_overOf, mX12_overIn, mX12_yielder, mX12_firstOf, mX12_reveille, mX12_laysUp, mX12_last, mX12_laysSoonest, mX12_soonest, mX12_soonestIn, mX12_laysBest, mX12_best, mX12_bestIn, mX12_endsAll, mX12_endingOf, mX12_ending, mX12_endingSet, mX12_apartOnes, mX12_apart, mX12_apartSet, mX12_circleOf, mX12_circle, mX12_circles, mX12_isSide, mX12_sides, mX12_wrongSeen, mX12_isSeen, mX12_laysFits, mX12_fits, mX12_fitsAt, mX12_mostAlike, mX12_ask, mX12_haveOf, mX12_isRest, mX12_restOf, mX12_rests, mX12_restAt, mX12_settles, mX12_doesDeed, mX12_playing, mX12_game, mX12_moveOf, mX12_night, mX12_wakes, mX12_copyYields, mX12_draw, mX12_minutesBy, mX12_dawnsBy, mX12_bootsBy, mX12_bootsAny, mX12_does, mX12_holds, mX12_behindEnds, mX12_lives, mX12_live, mX12_lived, mX12_mean, mX12_copies, mX12_mark, mX12_undo, mJ6_bitCount_0f7a4, mJ0_length_8abf5, mJ0_charAt_5068e]
def qMT (k : Nat) : qMI := qML.getD k mX0_init
def qB (k pc : Nat) : List qIns := ((qMT k).2.2.2.2.2.2.2.2.lookup pc).getD []
end
section
theorem bX0_init_0 : qB 0 0 = kX0_init_0 := rfl
theorem bX0_init_1 : qB 0 1 = kX0_init_1 := rfl
theorem bX0_init_4 : qB 0 4 = kX0_init_4 := rfl
theorem bX0_init_5 : qB 0 5 = kX0_init_5 := rfl
theorem bX0_init_8 : qB 0 8 = kX0_init_8 := rfl
theorem bX0_init_9 : qB 0 9 = kX0_init_9 := rfl
theorem bX0_init_12 : qB 0 12 = kX0_init_12 := rfl
theorem bX0_init_15 : qB 0 15 = kX0_init_15 := rfl
theorem bX0_init_18 : qB 0 18 = kX0_init_18 := rfl
theorem bX0_init_20 : qB 0 20 = kX0_init_20 := rfl
theorem bX0_init_23 : qB 0 23 = kX0_init_23 := rfl
theorem bX0_init_26 : qB 0 26 = kX0_init_26 := rfl
theorem bX0_init_28 : qB 0 28 = kX0_init_28 := rfl
theorem bX0_init_31 : qB 0 31 = kX0_init_31 := rfl
theorem bX0_look_0 : qB 1 0 = kX0_look_0 := rfl
theorem bX0_look_30 : qB 1 30 = kX0_look_30 := rfl
theorem bX0_look_97 : qB 1 97 = kX0_look_97 := rfl
theorem bX0_look_118 : qB 1 118 = kX0_look_118 := rfl
theorem bX0_firstOf_0 : qB 2 0 = kX0_firstOf_0 := rfl
theorem bX0_firstOf_2 : qB 2 2 = kX0_firstOf_2 := rfl
theorem bX0_firstOf_18 : qB 2 18 = kX0_firstOf_18 := rfl
theorem bX0_firstOf_24 : qB 2 24 = kX0_firstOf_24 := rfl
theorem bX0_begin_0 : qB 3 0 = kX0_begin_0 := rfl
theorem bX0_begin_10 : qB 3 10 = kX0_begin_10 := rfl
theorem bX0_begin_38 : qB 3 38 = kX0_begin_38 := rfl
theorem bX0_begin_39 : qB 3 39 = kX0_begin_39 := rfl
theorem bX0_begin_46 : qB 3 46 = kX0_begin_46 := rfl
theorem bX0_begin_48 : qB 3 48 = kX0_begin_48 := rfl
theorem bX0_begin_80 : qB 3 80 = kX0_begin_80 := rfl
theorem bX0_begin_81 : qB 3 81 = kX0_begin_81 := rfl
theorem bX0_begin_88 : qB 3 88 = kX0_begin_88 := rfl
theorem bX0_note_0 : qB 4 0 = kX0_note_0 := rfl
theorem bX0_note_10 : qB 4 10 = kX0_note_10 := rfl
theorem bX0_note_46 : qB 4 46 = kX0_note_46 := rfl
theorem bX0_note_52 : qB 4 52 = kX0_note_52 := rfl
theorem bX0_note_54 : qB 4 54 = kX0_note_54 := rfl
theorem bX0_note_94 : qB 4 94 = kX0_note_94 := rfl
theorem bX0_note_100 : qB 4 100 = kX0_note_100 := rfl
theorem bX0_upWithin_0 : qB 5 0 = kX0_upWithin_0 := rfl
theorem bX0_upWithin_4 : qB 5 4 = kX0_upWithin_4 := rfl
theorem bX0_upWithin_31 : qB 5 31 = kX0_upWithin_31 := rfl
theorem bX0_upWithin_37 : qB 5 37 = kX0_upWithin_37 := rfl
theorem bX0_lastUp_0 : qB 6 0 = kX0_lastUp_0 := rfl
theorem bX0_lastUp_4 : qB 6 4 = kX0_lastUp_4 := rfl
theorem bX0_lastUp_32 : qB 6 32 = kX0_lastUp_32 := rfl
theorem bX0_lastUp_38 : qB 6 38 = kX0_lastUp_38 := rfl
theorem bX1_init_0 : qB 7 0 = kX1_init_0 := rfl
theorem bX1_init_1 : qB 7 1 = kX1_init_1 := rfl
theorem bX1_init_4 : qB 7 4 = kX1_init_4 := rfl
theorem bX1_init_7 : qB 7 7 = kX1_init_7 := rfl
theorem bX1_init_9 : qB 7 9 = kX1_init_9 := rfl
theorem bX1_init_12 : qB 7 12 = kX1_init_12 := rfl
theorem bX1_init_15 : qB 7 15 = kX1_init_15 := rfl
theorem bX1_init_17 : qB 7 17 = kX1_init_17 := rfl
theorem bX1_init_20 : qB 7 20 = kX1_init_20 := rfl
theorem bX1_init_23 : qB 7 23 = kX1_init_23 := rfl
theorem bX1_init_25 : qB 7 25 = kX1_init_25 := rfl
theorem bX1_init_28 : qB 7 28 = kX1_init_28 := rfl
theorem bX1_init_31 : qB 7 31 = kX1_init_31 := rfl
theorem bX1_init_33 : qB 7 33 = kX1_init_33 := rfl
theorem bX1_init_36 : qB 7 36 = kX1_init_36 := rfl
theorem bX1_init_39 : qB 7 39 = kX1_init_39 := rfl
theorem bX1_init_41 : qB 7 41 = kX1_init_41 := rfl
theorem bX1_init_44 : qB 7 44 = kX1_init_44 := rfl
theorem bX1_init_47 : qB 7 47 = kX1_init_47 := rfl
theorem bX1_init_49 : qB 7 49 = kX1_init_49 := rfl
theorem bX1_init_52 : qB 7 52 = kX1_init_52 := rfl
theorem bX1_init_55 : qB 7 55 = kX1_init_55 := rfl
theorem bX1_init_57 : qB 7 57 = kX1_init_57 := rfl
theorem bX1_init_60 : qB 7 60 = kX1_init_60 := rfl
theorem bX1_init_63 : qB 7 63 = kX1_init_63 := rfl
theorem bX1_init_65 : qB 7 65 = kX1_init_65 := rfl
theorem bX1_init_68 : qB 7 68 = kX1_init_68 := rfl
theorem bX1_init_71 : qB 7 71 = kX1_init_71 := rfl
theorem bX1_init_73 : qB 7 73 = kX1_init_73 := rfl
theorem bX1_init_76 : qB 7 76 = kX1_init_76 := rfl
theorem bX1_init_79 : qB 7 79 = kX1_init_79 := rfl
theorem bX1_init_81 : qB 7 81 = kX1_init_81 := rfl
theorem bX1_init_84 : qB 7 84 = kX1_init_84 := rfl
theorem bX1_init_87 : qB 7 87 = kX1_init_87 := rfl
theorem bX1_init_89 : qB 7 89 = kX1_init_89 := rfl
theorem bX1_init_92 : qB 7 92 = kX1_init_92 := rfl
theorem bX1_empty_0 : qB 8 0 = kX1_empty_0 := rfl
theorem bX1_copy_0 : qB 9 0 = kX1_copy_0 := rfl
theorem bX1_copy_5 : qB 9 5 = kX1_copy_5 := rfl
theorem bX1_hasBoy_0 : qB 10 0 = kX1_hasBoy_0 := rfl
theorem bX1_hasBoy_25 : qB 10 25 = kX1_hasBoy_25 := rfl
theorem bX1_hasBoy_26 : qB 10 26 = kX1_hasBoy_26 := rfl
theorem bX1_hasQuarrel_0 : qB 11 0 = kX1_hasQuarrel_0 := rfl
theorem bX1_hasQuarrel_25 : qB 11 25 = kX1_hasQuarrel_25 := rfl
theorem bX1_hasQuarrel_26 : qB 11 26 = kX1_hasQuarrel_26 := rfl
theorem bX1_hasCell_0 : qB 12 0 = kX1_hasCell_0 := rfl
theorem bX1_hasCell_21 : qB 12 21 = kX1_hasCell_21 := rfl
theorem bX1_hasCell_22 : qB 12 22 = kX1_hasCell_22 := rfl
theorem bX1_named_0 : qB 13 0 = kX1_named_0 := rfl
theorem bX1_named_2 : qB 13 2 = kX1_named_2 := rfl
theorem bX1_named_23 : qB 13 23 = kX1_named_23 := rfl
theorem bX1_named_29 : qB 13 29 = kX1_named_29 := rfl
theorem bX1_addBoy_0 : qB 14 0 = kX1_addBoy_0 := rfl
theorem bX1_addBoy_16 : qB 14 16 = kX1_addBoy_16 := rfl
theorem bX1_addBoy_18 : qB 14 18 = kX1_addBoy_18 := rfl
theorem bX1_addQuarrel_0 : qB 15 0 = kX1_addQuarrel_0 := rfl
theorem bX1_addQuarrel_16 : qB 15 16 = kX1_addQuarrel_16 := rfl
theorem bX1_addQuarrel_18 : qB 15 18 = kX1_addQuarrel_18 := rfl
theorem bX1_place_0 : qB 16 0 = kX1_place_0 := rfl
theorem bX1_place_19 : qB 16 19 = kX1_place_19 := rfl
theorem bX1_tune_0 : qB 17 0 = kX1_tune_0 := rfl
theorem bX1_tune_19 : qB 17 19 = kX1_tune_19 := rfl
theorem bX1_listen_0 : qB 18 0 = kX1_listen_0 := rfl
theorem bX1_listen_2 : qB 18 2 = kX1_listen_2 := rfl
theorem bX1_listen_14 : qB 18 14 = kX1_listen_14 := rfl
theorem bX1_listen_48 : qB 18 48 = kX1_listen_48 := rfl
theorem bX1_listen_54 : qB 18 54 = kX1_listen_54 := rfl
theorem bX1_listen_67 : qB 18 67 = kX1_listen_67 := rfl
theorem bX1_stepsBetween_0 : qB 19 0 = kX1_stepsBetween_0 := rfl
theorem bX1_stepsBetween_24 : qB 19 24 = kX1_stepsBetween_24 := rfl
theorem bX1_stepsBetween_26 : qB 19 26 = kX1_stepsBetween_26 := rfl
theorem bX1_isOpen_0 : qB 20 0 = kX1_isOpen_0 := rfl
theorem bX1_isOpen_21 : qB 20 21 = kX1_isOpen_21 := rfl
theorem bX1_isOpen_22 : qB 20 22 = kX1_isOpen_22 := rfl
theorem bX1_isUp_0 : qB 21 0 = kX1_isUp_0 := rfl
theorem bX1_isUp_15 : qB 21 15 = kX1_isUp_15 := rfl
theorem bX1_isUp_16 : qB 21 16 = kX1_isUp_16 := rfl
theorem bX1_upSet_0 : qB 22 0 = kX1_upSet_0 := rfl
theorem bX1_upSet_11 : qB 22 11 = kX1_upSet_11 := rfl
theorem bX1_upSet_50 : qB 22 50 = kX1_upSet_50 := rfl
theorem bX1_upSet_56 : qB 22 56 = kX1_upSet_56 := rfl
theorem bX1_openSet_0 : qB 23 0 = kX1_openSet_0 := rfl
theorem bX1_openSet_4 : qB 23 4 = kX1_openSet_4 := rfl
theorem bX1_openSet_27 : qB 23 27 = kX1_openSet_27 := rfl
theorem bX1_openSet_33 : qB 23 33 = kX1_openSet_33 := rfl
theorem bX1_openGrudges_0 : qB 24 0 = kX1_openGrudges_0 := rfl
theorem bX1_openGrudges_4 : qB 24 4 = kX1_openGrudges_4 := rfl
theorem bX1_openGrudges_31 : qB 24 31 = kX1_openGrudges_31 := rfl
theorem bX1_openGrudges_32 : qB 24 32 = kX1_openGrudges_32 := rfl
theorem bX1_openGrudges_40 : qB 24 40 = kX1_openGrudges_40 := rfl
theorem bX1_openOf_0 : qB 25 0 = kX1_openOf_0 := rfl
theorem bX1_openOf_4 : qB 25 4 = kX1_openOf_4 := rfl
theorem bX1_openOf_41 : qB 25 41 = kX1_openOf_41 := rfl
theorem bX1_openOf_44 : qB 25 44 = kX1_openOf_44 := rfl
theorem bX1_openOf_50 : qB 25 50 = kX1_openOf_50 := rfl
theorem bX1_dueMinute_0 : qB 26 0 = kX1_dueMinute_0 := rfl
theorem bX1_dueMinute_16 : qB 26 16 = kX1_dueMinute_16 := rfl
theorem bX1_dueMinute_19 : qB 26 19 = kX1_dueMinute_19 := rfl
theorem bX1_earliestDue_0 : qB 27 0 = kX1_earliestDue_0 := rfl
theorem bX1_earliestDue_10 : qB 27 10 = kX1_earliestDue_10 := rfl
theorem bX1_earliestDue_63 : qB 27 63 = kX1_earliestDue_63 := rfl
theorem bX1_earliestDue_69 : qB 27 69 = kX1_earliestDue_69 := rfl
theorem bX1_minuteOfYielding_0 : qB 28 0 = kX1_minuteOfYielding_0 := rfl
theorem bX1_minuteOfYielding_9 : qB 28 9 = kX1_minuteOfYielding_9 := rfl
theorem bX1_minuteOfYielding_49 : qB 28 49 = kX1_minuteOfYielding_49 := rfl
theorem bX1_minuteOfYielding_50 : qB 28 50 = kX1_minuteOfYielding_50 := rfl
theorem bX1_minuteOfYielding_75 : qB 28 75 = kX1_minuteOfYielding_75 := rfl
theorem bX1_minuteOfYielding_76 : qB 28 76 = kX1_minuteOfYielding_76 := rfl
theorem bX1_minuteOfYielding_90 : qB 28 90 = kX1_minuteOfYielding_90 := rfl
theorem bX1_minuteOfYielding_96 : qB 28 96 = kX1_minuteOfYielding_96 := rfl
theorem bX1_endBy_0 : qB 29 0 = kX1_endBy_0 := rfl
theorem bX1_endBy_58 : qB 29 58 = kX1_endBy_58 := rfl
theorem bX1_endBy_113 : qB 29 113 = kX1_endBy_113 := rfl
theorem bX1_pass_0 : qB 30 0 = kX1_pass_0 := rfl
theorem bX1_pass_18 : qB 30 18 = kX1_pass_18 := rfl
theorem bX1_pass_47 : qB 30 47 = kX1_pass_47 := rfl
theorem bX1_pass_64 : qB 30 64 = kX1_pass_64 := rfl
theorem bX1_giveIn_0 : qB 31 0 = kX1_giveIn_0 := rfl
theorem bX1_giveIn_4 : qB 31 4 = kX1_giveIn_4 := rfl
theorem bX1_giveIn_41 : qB 31 41 = kX1_giveIn_41 := rfl
theorem bX1_giveIn_57 : qB 31 57 = kX1_giveIn_57 := rfl
theorem bX1_giveIn_58 : qB 31 58 = kX1_giveIn_58 := rfl
theorem bX1_giveIn_72 : qB 31 72 = kX1_giveIn_72 := rfl
theorem bX1_giveIn_73 : qB 31 73 = kX1_giveIn_73 := rfl
theorem bX1_giveIn_80 : qB 31 80 = kX1_giveIn_80 := rfl
theorem bX1_giveIn_86 : qB 31 86 = kX1_giveIn_86 := rfl
theorem bX1_strike_0 : qB 32 0 = kX1_strike_0 := rfl
theorem bX1_strike_9 : qB 32 9 = kX1_strike_9 := rfl
theorem bX1_strike_69 : qB 32 69 = kX1_strike_69 := rfl
theorem bX1_strike_75 : qB 32 75 = kX1_strike_75 := rfl
theorem bX2_init_0 : qB 33 0 = kX2_init_0 := rfl
theorem bX2_init_1 : qB 33 1 = kX2_init_1 := rfl
theorem bX2_init_4 : qB 33 4 = kX2_init_4 := rfl
theorem bX2_init_5 : qB 33 5 = kX2_init_5 := rfl
theorem bX2_init_8 : qB 33 8 = kX2_init_8 := rfl
theorem bX2_init_9 : qB 33 9 = kX2_init_9 := rfl
theorem bX2_init_12 : qB 33 12 = kX2_init_12 := rfl
theorem bX2_init_15 : qB 33 15 = kX2_init_15 := rfl
theorem bX2_init_27 : qB 33 27 = kX2_init_27 := rfl
theorem bX2_init_30 : qB 33 30 = kX2_init_30 := rfl
theorem bX2_takeIn_0 : qB 34 0 = kX2_takeIn_0 := rfl
theorem bX2_takeIn_29 : qB 34 29 = kX2_takeIn_29 := rfl
theorem bX2_takeIn_108 : qB 34 108 = kX2_takeIn_108 := rfl
theorem bX2_takeIn_116 : qB 34 116 = kX2_takeIn_116 := rfl
theorem bX2_takeIn_124 : qB 34 124 = kX2_takeIn_124 := rfl
theorem bX2_takeIn_132 : qB 34 132 = kX2_takeIn_132 := rfl
theorem bX2_takeIn_140 : qB 34 140 = kX2_takeIn_140 := rfl
theorem bX2_takeIn_148 : qB 34 148 = kX2_takeIn_148 := rfl
theorem bX2_takeIn_154 : qB 34 154 = kX2_takeIn_154 := rfl
theorem bX2_takeField_0 : qB 35 0 = kX2_takeField_0 := rfl
theorem bX2_takeField_17 : qB 35 17 = kX2_takeField_17 := rfl
theorem bX2_takeField_26 : qB 35 26 = kX2_takeField_26 := rfl
theorem bX2_takeField_53 : qB 35 53 = kX2_takeField_53 := rfl
theorem bX2_takeField_91 : qB 35 91 = kX2_takeField_91 := rfl
theorem bX2_takeField_93 : qB 35 93 = kX2_takeField_93 := rfl
theorem bX2_takeOdds_0 : qB 36 0 = kX2_takeOdds_0 := rfl
theorem bX2_takeOdds_16 : qB 36 16 = kX2_takeOdds_16 := rfl
theorem bX2_takeOdds_43 : qB 36 43 = kX2_takeOdds_43 := rfl
theorem bX2_takeBoy_0 : qB 37 0 = kX2_takeBoy_0 := rfl
theorem bX2_takeBoy_22 : qB 37 22 = kX2_takeBoy_22 := rfl
theorem bX2_takeBoy_47 : qB 37 47 = kX2_takeBoy_47 := rfl
theorem bX2_takeBoy_74 : qB 37 74 = kX2_takeBoy_74 := rfl
theorem bX2_takeBoy_128 : qB 37 128 = kX2_takeBoy_128 := rfl
theorem bX2_takeBoy_130 : qB 37 130 = kX2_takeBoy_130 := rfl
theorem bX2_takeBoy_162 : qB 37 162 = kX2_takeBoy_162 := rfl
theorem bX2_takeBoy_164 : qB 37 164 = kX2_takeBoy_164 := rfl
theorem bX2_takeBoy_192 : qB 37 192 = kX2_takeBoy_192 := rfl
theorem bX2_takeBoy_199 : qB 37 199 = kX2_takeBoy_199 := rfl
theorem bX2_takeBoy_217 : qB 37 217 = kX2_takeBoy_217 := rfl
theorem bX2_takeBoy_219 : qB 37 219 = kX2_takeBoy_219 := rfl
theorem bX2_takePerhaps_0 : qB 38 0 = kX2_takePerhaps_0 := rfl
theorem bX2_takePerhaps_13 : qB 38 13 = kX2_takePerhaps_13 := rfl
theorem bX2_takePerhaps_43 : qB 38 43 = kX2_takePerhaps_43 := rfl
theorem bX2_takePerhaps_44 : qB 38 44 = kX2_takePerhaps_44 := rfl
theorem bX2_takeQuarrel_0 : qB 39 0 = kX2_takeQuarrel_0 := rfl
theorem bX2_takeQuarrel_22 : qB 39 22 = kX2_takeQuarrel_22 := rfl
theorem bX2_takeQuarrel_48 : qB 39 48 = kX2_takeQuarrel_48 := rfl
theorem bX2_takeQuarrel_74 : qB 39 74 = kX2_takeQuarrel_74 := rfl
theorem bX2_takeQuarrel_88 : qB 39 88 = kX2_takeQuarrel_88 := rfl
theorem bX2_takeQuarrel_120 : qB 39 120 = kX2_takeQuarrel_120 := rfl
theorem bX2_takeQuarrel_122 : qB 39 122 = kX2_takeQuarrel_122 := rfl
theorem bX2_takeQuarrel_142 : qB 39 142 = kX2_takeQuarrel_142 := rfl
theorem bX3_init_0 : qB 40 0 = kX3_init_0 := rfl
theorem bX3_init_1 : qB 40 1 = kX3_init_1 := rfl
theorem bX3_init_4 : qB 40 4 = kX3_init_4 := rfl
theorem bX3_init_7 : qB 40 7 = kX3_init_7 := rfl
theorem bX3_init_9 : qB 40 9 = kX3_init_9 := rfl
theorem bX3_init_12 : qB 40 12 = kX3_init_12 := rfl
theorem bX3_init_15 : qB 40 15 = kX3_init_15 := rfl
theorem bX3_init_17 : qB 40 17 = kX3_init_17 := rfl
theorem bX3_init_20 : qB 40 20 = kX3_init_20 := rfl
theorem bX3_init_29 : qB 40 29 = kX3_init_29 := rfl
theorem bX3_init_31 : qB 40 31 = kX3_init_31 := rfl
theorem bX3_init_34 : qB 40 34 = kX3_init_34 := rfl
theorem bX3_init_36 : qB 40 36 = kX3_init_36 := rfl
theorem bX3_init_39 : qB 40 39 = kX3_init_39 := rfl
theorem bX3_init_41 : qB 40 41 = kX3_init_41 := rfl
theorem bX3_init_44 : qB 40 44 = kX3_init_44 := rfl
theorem bX3_forget_0 : qB 41 0 = kX3_forget_0 := rfl
theorem bX3_add_0 : qB 42 0 = kX3_add_0 := rfl
theorem bX3_add_46 : qB 42 46 = kX3_add_46 := rfl
theorem bX3_fittingPrides_0 : qB 43 0 = kX3_fittingPrides_0 := rfl
theorem bX3_fittingPrides_12 : qB 43 12 = kX3_fittingPrides_12 := rfl
theorem bX3_fittingPrides_23 : qB 43 23 = kX3_fittingPrides_23 := rfl
theorem bX3_fittingPrides_93 : qB 43 93 = kX3_fittingPrides_93 := rfl
theorem bX3_fittingPrides_99 : qB 43 99 = kX3_fittingPrides_99 := rfl
theorem bX3_asSeen_0 : qB 44 0 = kX3_asSeen_0 := rfl
theorem bX3_asSeen_2 : qB 44 2 = kX3_asSeen_2 := rfl
theorem bX3_asSeen_50 : qB 44 50 = kX3_asSeen_50 := rfl
theorem bX3_asSeen_52 : qB 44 52 = kX3_asSeen_52 := rfl
theorem bX3_asSeen_58 : qB 44 58 = kX3_asSeen_58 := rfl
theorem bX3_bestParter_0 : qB 45 0 = kX3_bestParter_0 := rfl
theorem bX3_bestParter_9 : qB 45 9 = kX3_bestParter_9 := rfl
theorem bX3_bestParter_38 : qB 45 38 = kX3_bestParter_38 := rfl
theorem bX3_bestParter_44 : qB 45 44 = kX3_bestParter_44 := rfl
theorem bX3_mostAlike_0 : qB 46 0 = kX3_mostAlike_0 := rfl
theorem bX3_mostAlike_5 : qB 46 5 = kX3_mostAlike_5 := rfl
theorem bX3_mostAlike_34 : qB 46 34 = kX3_mostAlike_34 := rfl
theorem bX3_mostAlike_40 : qB 46 40 = kX3_mostAlike_40 := rfl
theorem bX3_alike_0 : qB 47 0 = kX3_alike_0 := rfl
theorem bX3_alike_24 : qB 47 24 = kX3_alike_24 := rfl
theorem bX3_alike_27 : qB 47 27 = kX3_alike_27 := rfl
theorem bX3_alike_30 : qB 47 30 = kX3_alike_30 := rfl
theorem bX3_alike_67 : qB 47 67 = kX3_alike_67 := rfl
theorem bX3_alike_68 : qB 47 68 = kX3_alike_68 := rfl
theorem bX3_alike_87 : qB 47 87 = kX3_alike_87 := rfl
theorem bX3_alike_93 : qB 47 93 = kX3_alike_93 := rfl
theorem bX3_least_0 : qB 48 0 = kX3_least_0 := rfl
theorem bX3_least_2 : qB 48 2 = kX3_least_2 := rfl
theorem bX3_least_18 : qB 48 18 = kX3_least_18 := rfl
theorem bX3_least_24 : qB 48 24 = kX3_least_24 := rfl
theorem bX3_greatest_0 : qB 49 0 = kX3_greatest_0 := rfl
theorem bX3_greatest_3 : qB 49 3 = kX3_greatest_3 := rfl
theorem bX3_greatest_18 : qB 49 18 = kX3_greatest_18 := rfl
theorem bX3_greatest_24 : qB 49 24 = kX3_greatest_24 := rfl
theorem bX4_init_0 : qB 50 0 = kX4_init_0 := rfl
theorem bX4_init_1 : qB 50 1 = kX4_init_1 := rfl
theorem bX4_init_4 : qB 50 4 = kX4_init_4 := rfl
theorem bX4_init_6 : qB 50 6 = kX4_init_6 := rfl
theorem bX4_init_9 : qB 50 9 = kX4_init_9 := rfl
theorem bX4_init_11 : qB 50 11 = kX4_init_11 := rfl
theorem bX4_init_14 : qB 50 14 = kX4_init_14 := rfl
theorem bX4_won_0 : qB 51 0 = kX4_won_0 := rfl
theorem bX4_won_10 : qB 51 10 = kX4_won_10 := rfl
theorem bX4_won_13 : qB 51 13 = kX4_won_13 := rfl
theorem bX4_isRest_0 : qB 52 0 = kX4_isRest_0 := rfl
theorem bX4_isRest_3 : qB 52 3 = kX4_isRest_3 := rfl
theorem bX4_isRest_27 : qB 52 27 = kX4_isRest_27 := rfl
theorem bX4_isRest_45 : qB 52 45 = kX4_isRest_45 := rfl
theorem bX4_isRest_51 : qB 52 51 = kX4_isRest_51 := rfl
theorem bX4_howManyRests_0 : qB 53 0 = kX4_howManyRests_0 := rfl
theorem bX4_howManyRests_4 : qB 53 4 = kX4_howManyRests_4 := rfl
theorem bX4_howManyRests_12 : qB 53 12 = kX4_howManyRests_12 := rfl
theorem bX4_howManyRests_32 : qB 53 32 = kX4_howManyRests_32 := rfl
theorem bX4_howManyRests_38 : qB 53 38 = kX4_howManyRests_38 := rfl
theorem bX4_howManyRests_44 : qB 53 44 = kX4_howManyRests_44 := rfl
theorem bX4_restOf_0 : qB 54 0 = kX4_restOf_0 := rfl
theorem bX4_restOf_5 : qB 54 5 = kX4_restOf_5 := rfl
theorem bX4_restOf_14 : qB 54 14 = kX4_restOf_14 := rfl
theorem bX4_restOf_47 : qB 54 47 = kX4_restOf_47 := rfl
theorem bX4_restOf_50 : qB 54 50 = kX4_restOf_50 := rfl
theorem bX4_restOf_56 : qB 54 56 = kX4_restOf_56 := rfl
theorem bX4_restOf_62 : qB 54 62 = kX4_restOf_62 := rfl
theorem bX4_outcome_0 : qB 55 0 = kX4_outcome_0 := rfl
theorem bX4_firstMove_0 : qB 56 0 = kX4_firstMove_0 := rfl
theorem bX4_firstMove_17 : qB 56 17 = kX4_firstMove_17 := rfl
theorem bX4_firstMove_69 : qB 56 69 = kX4_firstMove_69 := rfl
theorem bX4_firstMove_75 : qB 56 75 = kX4_firstMove_75 := rfl
theorem bX4_firstMove_96 : qB 56 96 = kX4_firstMove_96 := rfl
theorem bX4_firstMove_98 : qB 56 98 = kX4_firstMove_98 := rfl
theorem bX4_play_0 : qB 57 0 = kX4_play_0 := rfl
theorem bX4_play_10 : qB 57 10 = kX4_play_10 := rfl
theorem bX4_play_16 : qB 57 16 = kX4_play_16 := rfl
theorem bX4_play_30 : qB 57 30 = kX4_play_30 := rfl
theorem bX4_play_76 : qB 57 76 = kX4_play_76 := rfl
theorem bX4_play_83 : qB 57 83 = kX4_play_83 := rfl
theorem bX4_play_85 : qB 57 85 = kX4_play_85 := rfl
theorem bX4_play_91 : qB 57 91 = kX4_play_91 := rfl
theorem bX4_playedOn_0 : qB 58 0 = kX4_playedOn_0 := rfl
theorem bX4_playedOn_12 : qB 58 12 = kX4_playedOn_12 := rfl
theorem bX4_playedOn_47 : qB 58 47 = kX4_playedOn_47 := rfl
theorem bX4_playedOn_64 : qB 58 64 = kX4_playedOn_64 := rfl
theorem bX4_nightsWithFew_0 : qB 59 0 = kX4_nightsWithFew_0 := rfl
theorem bX4_nightsWithFew_8 : qB 59 8 = kX4_nightsWithFew_8 := rfl
theorem bX4_nightsWithFew_68 : qB 59 68 = kX4_nightsWithFew_68 := rfl
theorem bX4_power_0 : qB 60 0 = kX4_power_0 := rfl
theorem bX4_power_5 : qB 60 5 = kX4_power_5 := rfl
theorem bX4_power_21 : qB 60 21 = kX4_power_21 := rfl
theorem bX4_commonDivisor_0 : qB 61 0 = kX4_commonDivisor_0 := rfl
theorem bX4_commonDivisor_9 : qB 61 9 = kX4_commonDivisor_9 := rfl
theorem bX4_commonDivisor_45 : qB 61 45 = kX4_commonDivisor_45 := rfl
theorem bX5_init_0 : qB 62 0 = kX5_init_0 := rfl
theorem bX5_init_1 : qB 62 1 = kX5_init_1 := rfl
theorem bX5_init_4 : qB 62 4 = kX5_init_4 := rfl
theorem bX5_init_42 : qB 62 42 = kX5_init_42 := rfl
theorem bX5_init_44 : qB 62 44 = kX5_init_44 := rfl
theorem bX5_init_47 : qB 62 47 = kX5_init_47 := rfl
theorem bX5_run_0 : qB 63 0 = kX5_run_0 := rfl
theorem bX5_run_41 : qB 63 41 = kX5_run_41 := rfl
theorem bX5_run_81 : qB 63 81 = kX5_run_81 := rfl
theorem bX5_run_102 : qB 63 102 = kX5_run_102 := rfl
theorem bX5_run_122 : qB 63 122 = kX5_run_122 := rfl
theorem bX5_run_128 : qB 63 128 = kX5_run_128 := rfl
theorem bX5_behindEnd_0 : qB 64 0 = kX5_behindEnd_0 := rfl
theorem bX5_behindEnd_17 : qB 64 17 = kX5_behindEnd_17 := rfl
theorem bX5_behindEnd_18 : qB 64 18 = kX5_behindEnd_18 := rfl
theorem bX5_behindEnd_38 : qB 64 38 = kX5_behindEnd_38 := rfl
theorem bX5_behindEnd_42 : qB 64 42 = kX5_behindEnd_42 := rfl
theorem bX5_behindEnd_67 : qB 64 67 = kX5_behindEnd_67 := rfl
theorem bX5_behindEnd_70 : qB 64 70 = kX5_behindEnd_70 := rfl
theorem bX5_behindStep_0 : qB 65 0 = kX5_behindStep_0 := rfl
theorem bX5_behindStep_10 : qB 65 10 = kX5_behindStep_10 := rfl
theorem bX5_behindStep_112 : qB 65 112 = kX5_behindStep_112 := rfl
theorem bX5_behindStep_114 : qB 65 114 = kX5_behindStep_114 := rfl
theorem bX5_behindStep_126 : qB 65 126 = kX5_behindStep_126 := rfl
theorem bX5_behindStep_145 : qB 65 145 = kX5_behindStep_145 := rfl
theorem bX5_behindStep_153 : qB 65 153 = kX5_behindStep_153 := rfl
theorem bX5_behindStep_154 : qB 65 154 = kX5_behindStep_154 := rfl
theorem bX5_behindStep_167 : qB 65 167 = kX5_behindStep_167 := rfl
theorem bX5_behindStep_177 : qB 65 177 = kX5_behindStep_177 := rfl
theorem bX5_behindStep_194 : qB 65 194 = kX5_behindStep_194 := rfl
theorem bX5_behindStep_218 : qB 65 218 = kX5_behindStep_218 := rfl
theorem bX5_behindStep_219 : qB 65 219 = kX5_behindStep_219 := rfl
theorem bX5_behindStep_223 : qB 65 223 = kX5_behindStep_223 := rfl
theorem bX5_behindStep_237 : qB 65 237 = kX5_behindStep_237 := rfl
theorem bX5_behindStep_248 : qB 65 248 = kX5_behindStep_248 := rfl
theorem bX5_behind_0 : qB 66 0 = kX5_behind_0 := rfl
theorem bX5_behind_14 : qB 66 14 = kX5_behind_14 := rfl
theorem bX5_holds_0 : qB 67 0 = kX5_holds_0 := rfl
theorem bX5_holds_26 : qB 67 26 = kX5_holds_26 := rfl
theorem bX5_holds_27 : qB 67 27 = kX5_holds_27 := rfl
theorem bX5_holds_28 : qB 67 28 = kX5_holds_28 := rfl
theorem bX5_holds_44 : qB 67 44 = kX5_holds_44 := rfl
theorem bX5_holds_48 : qB 67 48 = kX5_holds_48 := rfl
theorem bX5_holds_66 : qB 67 66 = kX5_holds_66 := rfl
theorem bX5_holds_67 : qB 67 67 = kX5_holds_67 := rfl
theorem bX5_holds_68 : qB 67 68 = kX5_holds_68 := rfl
theorem bX5_holds_84 : qB 67 84 = kX5_holds_84 := rfl
theorem bX5_holds_88 : qB 67 88 = kX5_holds_88 := rfl
theorem bX5_holds_98 : qB 67 98 = kX5_holds_98 := rfl
theorem bX5_holds_99 : qB 67 99 = kX5_holds_99 := rfl
theorem bX5_letPass_0 : qB 68 0 = kX5_letPass_0 := rfl
theorem bX5_letPass_14 : qB 68 14 = kX5_letPass_14 := rfl
theorem bX5_newDay_0 : qB 69 0 = kX5_newDay_0 := rfl
theorem bX5_newDay_16 : qB 69 16 = kX5_newDay_16 := rfl
theorem bX5_newDay_20 : qB 69 20 = kX5_newDay_20 := rfl
theorem bX5_newDay_21 : qB 69 21 = kX5_newDay_21 := rfl
theorem bX5_fallOut_0 : qB 70 0 = kX5_fallOut_0 := rfl
theorem bX5_fallOut_20 : qB 70 20 = kX5_fallOut_20 := rfl
theorem bX5_fallOut_21 : qB 70 21 = kX5_fallOut_21 := rfl
theorem bX5_fallOut_45 : qB 70 45 = kX5_fallOut_45 := rfl
theorem bX5_fallOut_47 : qB 70 47 = kX5_fallOut_47 := rfl
theorem bX5_moveTo_0 : qB 71 0 = kX5_moveTo_0 := rfl
theorem bX5_moveTo_18 : qB 71 18 = kX5_moveTo_18 := rfl
theorem bX5_moveTo_20 : qB 71 20 = kX5_moveTo_20 := rfl
theorem bX5_drawQuarrel_0 : qB 72 0 = kX5_drawQuarrel_0 := rfl
theorem bX5_drawQuarrel_10 : qB 72 10 = kX5_drawQuarrel_10 := rfl
theorem bX5_drawBy_0 : qB 73 0 = kX5_drawBy_0 := rfl
theorem bX5_drawBy_28 : qB 73 28 = kX5_drawBy_28 := rfl
theorem bX5_drawBy_37 : qB 73 37 = kX5_drawBy_37 := rfl
theorem bX6_init_0 : qB 74 0 = kX6_init_0 := rfl
theorem bX6_init_1 : qB 74 1 = kX6_init_1 := rfl
theorem bX6_init_4 : qB 74 4 = kX6_init_4 := rfl
theorem bX6_init_11 : qB 74 11 = kX6_init_11 := rfl
theorem bX6_init_14 : qB 74 14 = kX6_init_14 := rfl
theorem bX6_init_16 : qB 74 16 = kX6_init_16 := rfl
theorem bX6_init_19 : qB 74 19 = kX6_init_19 := rfl
theorem bX6_quickestSet_0 : qB 75 0 = kX6_quickestSet_0 := rfl
theorem bX6_quickestSet_11 : qB 75 11 = kX6_quickestSet_11 := rfl
theorem bX6_quickestSet_58 : qB 75 58 = kX6_quickestSet_58 := rfl
theorem bX6_quickestSet_64 : qB 75 64 = kX6_quickestSet_64 := rfl
theorem bX6_breakfastIfYield_0 : qB 76 0 = kX6_breakfastIfYield_0 := rfl
theorem bX6_breakfastIfYield_10 : qB 76 10 = kX6_breakfastIfYield_10 := rfl
theorem bX6_breakfastIfYield_35 : qB 76 35 = kX6_breakfastIfYield_35 := rfl
theorem bX6_breakfastIfYield_41 : qB 76 41 = kX6_breakfastIfYield_41 := rfl
theorem bX6_quickestCell_0 : qB 77 0 = kX6_quickestCell_0 := rfl
theorem bX6_quickestCell_30 : qB 77 30 = kX6_quickestCell_30 := rfl
theorem bX6_quickestCell_78 : qB 77 78 = kX6_quickestCell_78 := rfl
theorem bX6_quickestCell_84 : qB 77 84 = kX6_quickestCell_84 := rfl
theorem bX6_fewestEnders_0 : qB 78 0 = kX6_fewestEnders_0 := rfl
theorem bX6_fewestEnders_13 : qB 78 13 = kX6_fewestEnders_13 := rfl
theorem bX6_fewestEnders_39 : qB 78 39 = kX6_fewestEnders_39 := rfl
theorem bX6_fewestEnders_45 : qB 78 45 = kX6_fewestEnders_45 := rfl
theorem bX6_endsAll_0 : qB 79 0 = kX6_endsAll_0 := rfl
theorem bX6_endsAll_2 : qB 79 2 = kX6_endsAll_2 := rfl
theorem bX6_endsAll_31 : qB 79 31 = kX6_endsAll_31 := rfl
theorem bX6_endsAll_37 : qB 79 37 = kX6_endsAll_37 := rfl
theorem bX6_pairOf_0 : qB 80 0 = kX6_pairOf_0 := rfl
theorem bX6_pairOf_28 : qB 80 28 = kX6_pairOf_28 := rfl
theorem bX6_pairOf_29 : qB 80 29 = kX6_pairOf_29 := rfl
theorem bX6_mostApart_0 : qB 81 0 = kX6_mostApart_0 := rfl
theorem bX6_mostApart_9 : qB 81 9 = kX6_mostApart_9 := rfl
theorem bX6_mostApart_34 : qB 81 34 = kX6_mostApart_34 := rfl
theorem bX6_mostApart_35 : qB 81 35 = kX6_mostApart_35 := rfl
theorem bX6_mostApart_60 : qB 81 60 = kX6_mostApart_60 := rfl
theorem bX6_mostApart_66 : qB 81 66 = kX6_mostApart_66 := rfl
theorem bX6_isApart_0 : qB 82 0 = kX6_isApart_0 := rfl
theorem bX6_isApart_4 : qB 82 4 = kX6_isApart_4 := rfl
theorem bX6_isApart_36 : qB 82 36 = kX6_isApart_36 := rfl
theorem bX6_isApart_41 : qB 82 41 = kX6_isApart_41 := rfl
theorem bX6_isApart_47 : qB 82 47 = kX6_isApart_47 := rfl
theorem bX6_circleOf_0 : qB 83 0 = kX6_circleOf_0 := rfl
theorem bX6_circleOf_6 : qB 83 6 = kX6_circleOf_6 := rfl
theorem bX6_circleOf_15 : qB 83 15 = kX6_circleOf_15 := rfl
theorem bX6_circleOf_54 : qB 83 54 = kX6_circleOf_54 := rfl
theorem bX6_circleOf_60 : qB 83 60 = kX6_circleOf_60 := rfl
theorem bX6_circleOf_66 : qB 83 66 = kX6_circleOf_66 := rfl
theorem bX6_howManyCircles_0 : qB 84 0 = kX6_howManyCircles_0 := rfl
theorem bX6_howManyCircles_4 : qB 84 4 = kX6_howManyCircles_4 := rfl
theorem bX6_howManyCircles_31 : qB 84 31 = kX6_howManyCircles_31 := rfl
theorem bX6_howManyCircles_37 : qB 84 37 = kX6_howManyCircles_37 := rfl
theorem bX6_leastSide_0 : qB 85 0 = kX6_leastSide_0 := rfl
theorem bX6_leastSide_2 : qB 85 2 = kX6_leastSide_2 := rfl
theorem bX6_leastSide_22 : qB 85 22 = kX6_leastSide_22 := rfl
theorem bX6_leastSide_28 : qB 85 28 = kX6_leastSide_28 := rfl
theorem bX6_isSide_0 : qB 86 0 = kX6_isSide_0 := rfl
theorem bX6_isSide_2 : qB 86 2 = kX6_isSide_2 := rfl
theorem bX6_isSide_35 : qB 86 35 = kX6_isSide_35 := rfl
theorem bX6_isSide_41 : qB 86 41 = kX6_isSide_41 := rfl
theorem bX7_init_0 : qB 87 0 = kX7_init_0 := rfl
theorem bX7_init_1 : qB 87 1 = kX7_init_1 := rfl
theorem bX7_init_4 : qB 87 4 = kX7_init_4 := rfl
theorem bX7_init_8 : qB 87 8 = kX7_init_8 := rfl
theorem bX7_init_10 : qB 87 10 = kX7_init_10 := rfl
theorem bX7_init_13 : qB 87 13 = kX7_init_13 := rfl
theorem bX7_init_76 : qB 87 76 = kX7_init_76 := rfl
theorem bX7_init_78 : qB 87 78 = kX7_init_78 := rfl
theorem bX7_init_81 : qB 87 81 = kX7_init_81 := rfl
theorem bX7_init_85 : qB 87 85 = kX7_init_85 := rfl
theorem bX7_init_119 : qB 87 119 = kX7_init_119 := rfl
theorem bX7_init_135 : qB 87 135 = kX7_init_135 := rfl
theorem bX7_init_141 : qB 87 141 = kX7_init_141 := rfl
theorem bX7_withLetter_0 : qB 88 0 = kX7_withLetter_0 := rfl
theorem bX7_hasRoom_0 : qB 89 0 = kX7_hasRoom_0 := rfl
theorem bX7_hasRoom_24 : qB 89 24 = kX7_hasRoom_24 := rfl
theorem bX7_hasRoom_25 : qB 89 25 = kX7_hasRoom_25 := rfl
theorem bX7_addFour_0 : qB 90 0 = kX7_addFour_0 := rfl
theorem bX7_addFour_19 : qB 90 19 = kX7_addFour_19 := rfl
theorem bX7_addFour_20 : qB 90 20 = kX7_addFour_20 := rfl
theorem bX7_open_0 : qB 91 0 = kX7_open_0 := rfl
theorem bX7_signAt_0 : qB 92 0 = kX7_signAt_0 := rfl
theorem bX7_signAt_25 : qB 92 25 = kX7_signAt_25 := rfl
theorem bX7_signAt_26 : qB 92 26 = kX7_signAt_26 := rfl
theorem bX7_step_0 : qB 93 0 = kX7_step_0 := rfl
theorem bX7_step_37 : qB 93 37 = kX7_step_37 := rfl
theorem bX7_step_50 : qB 93 50 = kX7_step_50 := rfl
theorem bX7_step_91 : qB 93 91 = kX7_step_91 := rfl
theorem bX7_step_105 : qB 93 105 = kX7_step_105 := rfl
theorem bX7_step_119 : qB 93 119 = kX7_step_119 := rfl
theorem bX7_step_144 : qB 93 144 = kX7_step_144 := rfl
theorem bX7_step_148 : qB 93 148 = kX7_step_148 := rfl
theorem bX7_step_149 : qB 93 149 = kX7_step_149 := rfl
theorem bX7_step_167 : qB 93 167 = kX7_step_167 := rfl
theorem bX7_wordToken_0 : qB 94 0 = kX7_wordToken_0 := rfl
theorem bX7_wordToken_10 : qB 94 10 = kX7_wordToken_10 := rfl
theorem bX7_wordToken_68 : qB 94 68 = kX7_wordToken_68 := rfl
theorem bX7_wordToken_71 : qB 94 71 = kX7_wordToken_71 := rfl
theorem bX7_wordToken_87 : qB 94 87 = kX7_wordToken_87 := rfl
theorem bX7_numberToken_0 : qB 95 0 = kX7_numberToken_0 := rfl
theorem bX7_numberToken_5 : qB 95 5 = kX7_numberToken_5 := rfl
theorem bX7_numberToken_66 : qB 95 66 = kX7_numberToken_66 := rfl
theorem bX7_numberToken_67 : qB 95 67 = kX7_numberToken_67 := rfl
theorem bX7_numberToken_83 : qB 95 83 = kX7_numberToken_83 := rfl
theorem bX7_numberToken_101 : qB 95 101 = kX7_numberToken_101 := rfl
theorem bX7_numberToken_102 : qB 95 102 = kX7_numberToken_102 := rfl
theorem bX7_isLetter_0 : qB 96 0 = kX7_isLetter_0 := rfl
theorem bX7_isLetter_16 : qB 96 16 = kX7_isLetter_16 := rfl
theorem bX7_isLetter_17 : qB 96 17 = kX7_isLetter_17 := rfl
theorem bX7_isDigit_0 : qB 97 0 = kX7_isDigit_0 := rfl
theorem bX7_isDigit_16 : qB 97 16 = kX7_isDigit_16 := rfl
theorem bX7_isDigit_17 : qB 97 17 = kX7_isDigit_17 := rfl
theorem bX7_reservedNumber_0 : qB 98 0 = kX7_reservedNumber_0 := rfl
theorem bX7_reservedNumber_2 : qB 98 2 = kX7_reservedNumber_2 := rfl
theorem bX7_reservedNumber_21 : qB 98 21 = kX7_reservedNumber_21 := rfl
theorem bX7_reservedNumber_27 : qB 98 27 = kX7_reservedNumber_27 := rfl
theorem bX7_atEnd_0 : qB 99 0 = kX7_atEnd_0 := rfl
theorem bX7_atEnd_11 : qB 99 11 = kX7_atEnd_11 := rfl
theorem bX7_atEnd_12 : qB 99 12 = kX7_atEnd_12 := rfl
theorem bX7_fail_0 : qB 100 0 = kX7_fail_0 := rfl
theorem bX7_cannotStand_0 : qB 101 0 = kX7_cannotStand_0 := rfl
theorem bX7_cannotStand_13 : qB 101 13 = kX7_cannotStand_13 := rfl
theorem bX7_cannotStand_14 : qB 101 14 = kX7_cannotStand_14 := rfl
theorem bX7_isName_0 : qB 102 0 = kX7_isName_0 := rfl
theorem bX7_isName_31 : qB 102 31 = kX7_isName_31 := rfl
theorem bX7_isName_32 : qB 102 32 = kX7_isName_32 := rfl
theorem bX7_takeWord_0 : qB 103 0 = kX7_takeWord_0 := rfl
theorem bX7_takeWord_13 : qB 103 13 = kX7_takeWord_13 := rfl
theorem bX7_takeNumber_0 : qB 104 0 = kX7_takeNumber_0 := rfl
theorem bX7_takeNumber_13 : qB 104 13 = kX7_takeNumber_13 := rfl
theorem bX7_takeNumber_29 : qB 104 29 = kX7_takeNumber_29 := rfl
theorem bX7_takeNumber_35 : qB 104 35 = kX7_takeNumber_35 := rfl
theorem bX7_takeStop_0 : qB 105 0 = kX7_takeStop_0 := rfl
theorem bX7_takeStop_17 : qB 105 17 = kX7_takeStop_17 := rfl
theorem bX7_takeStop_22 : qB 105 22 = kX7_takeStop_22 := rfl
theorem bX7_takeCompares_0 : qB 106 0 = kX7_takeCompares_0 := rfl
theorem bX7_takeCompares_17 : qB 106 17 = kX7_takeCompares_17 := rfl
theorem bX7_takeCompares_22 : qB 106 22 = kX7_takeCompares_22 := rfl
theorem bX7_boyHere_0 : qB 107 0 = kX7_boyHere_0 := rfl
theorem bX7_boyHere_14 : qB 107 14 = kX7_boyHere_14 := rfl
theorem bX7_boyHere_34 : qB 107 34 = kX7_boyHere_34 := rfl
theorem bX8_init_0 : qB 108 0 = kX8_init_0 := rfl
theorem bX8_init_1 : qB 108 1 = kX8_init_1 := rfl
theorem bX8_init_4 : qB 108 4 = kX8_init_4 := rfl
theorem bX8_init_6 : qB 108 6 = kX8_init_6 := rfl
theorem bX8_init_8 : qB 108 8 = kX8_init_8 := rfl
theorem bX8_init_11 : qB 108 11 = kX8_init_11 := rfl
theorem bX8_init_13 : qB 108 13 = kX8_init_13 := rfl
theorem bX8_init_15 : qB 108 15 = kX8_init_15 := rfl
theorem bX8_init_18 : qB 108 18 = kX8_init_18 := rfl
theorem bX8_init_22 : qB 108 22 = kX8_init_22 := rfl
theorem bX8_init_24 : qB 108 24 = kX8_init_24 := rfl
theorem bX8_init_27 : qB 108 27 = kX8_init_27 := rfl
theorem bX8_init_29 : qB 108 29 = kX8_init_29 := rfl
theorem bX8_init_47 : qB 108 47 = kX8_init_47 := rfl
theorem bX8_known_0 : qB 109 0 = kX8_known_0 := rfl
theorem bX8_known_13 : qB 109 13 = kX8_known_13 := rfl
theorem bX8_known_14 : qB 109 14 = kX8_known_14 := rfl
theorem bX8_laid_0 : qB 110 0 = kX8_laid_0 := rfl
theorem bX8_laid_22 : qB 110 22 = kX8_laid_22 := rfl
theorem bX8_laid_23 : qB 110 23 = kX8_laid_23 := rfl
theorem bX8_alike_0 : qB 111 0 = kX8_alike_0 := rfl
theorem bX8_alike_35 : qB 111 35 = kX8_alike_35 := rfl
theorem bX8_alike_36 : qB 111 36 = kX8_alike_36 := rfl
theorem bX8_has_0 : qB 112 0 = kX8_has_0 := rfl
theorem bX8_has_26 : qB 112 26 = kX8_has_26 := rfl
theorem bX8_has_27 : qB 112 27 = kX8_has_27 := rfl
theorem bX8_holds_0 : qB 113 0 = kX8_holds_0 := rfl
theorem bX8_holds_42 : qB 113 42 = kX8_holds_42 := rfl
theorem bX8_holds_43 : qB 113 43 = kX8_holds_43 := rfl
theorem bX8_lay_0 : qB 114 0 = kX8_lay_0 := rfl
theorem bX8_lay_18 : qB 114 18 = kX8_lay_18 := rfl
theorem bX8_lay_19 : qB 114 19 = kX8_lay_19 := rfl
theorem bX8_lay_36 : qB 114 36 = kX8_lay_36 := rfl
theorem bX8_lay_61 : qB 114 61 = kX8_lay_61 := rfl
theorem bX8_put_0 : qB 115 0 = kX8_put_0 := rfl
theorem bX8_put_30 : qB 115 30 = kX8_put_30 := rfl
theorem bX8_get_0 : qB 116 0 = kX8_get_0 := rfl
theorem bX8_get_23 : qB 116 23 = kX8_get_23 := rfl
theorem bX8_get_26 : qB 116 26 = kX8_get_26 := rfl
theorem bX8_move_0 : qB 117 0 = kX8_move_0 := rfl
theorem bX8_move_49 : qB 117 49 = kX8_move_49 := rfl
theorem bX8_cut_0 : qB 118 0 = kX8_cut_0 := rfl
theorem bX8_cut_28 : qB 118 28 = kX8_cut_28 := rfl
theorem bX8_cut_33 : qB 118 33 = kX8_cut_33 := rfl
theorem bX8_cut_38 : qB 118 38 = kX8_cut_38 := rfl
theorem bX8_cut_42 : qB 118 42 = kX8_cut_42 := rfl
theorem bX9_init_0 : qB 119 0 = kX9_init_0 := rfl
theorem bX9_init_1 : qB 119 1 = kX9_init_1 := rfl
theorem bX9_init_4 : qB 119 4 = kX9_init_4 := rfl
theorem bX9_init_22 : qB 119 22 = kX9_init_22 := rfl
theorem bX9_init_24 : qB 119 24 = kX9_init_24 := rfl
theorem bX9_init_27 : qB 119 27 = kX9_init_27 := rfl
theorem bX9_init_30 : qB 119 30 = kX9_init_30 := rfl
theorem bX9_init_32 : qB 119 32 = kX9_init_32 := rfl
theorem bX9_init_35 : qB 119 35 = kX9_init_35 := rfl
theorem bX9_init_38 : qB 119 38 = kX9_init_38 := rfl
theorem bX9_init_40 : qB 119 40 = kX9_init_40 := rfl
theorem bX9_init_43 : qB 119 43 = kX9_init_43 := rfl
theorem bX9_init_46 : qB 119 46 = kX9_init_46 := rfl
theorem bX9_init_48 : qB 119 48 = kX9_init_48 := rfl
theorem bX9_init_51 : qB 119 51 = kX9_init_51 := rfl
theorem bX9_init_54 : qB 119 54 = kX9_init_54 := rfl
theorem bX9_init_56 : qB 119 56 = kX9_init_56 := rfl
theorem bX9_init_59 : qB 119 59 = kX9_init_59 := rfl
theorem bX9_drop_0 : qB 120 0 = kX9_drop_0 := rfl
theorem bX9_copy_0 : qB 121 0 = kX9_copy_0 := rfl
theorem bX9_copy_5 : qB 121 5 = kX9_copy_5 := rfl
theorem bX9_hasLine_0 : qB 122 0 = kX9_hasLine_0 := rfl
theorem bX9_hasLine_25 : qB 122 25 = kX9_hasLine_25 := rfl
theorem bX9_hasLine_26 : qB 122 26 = kX9_hasLine_26 := rfl
theorem bX9_addLine_0 : qB 123 0 = kX9_addLine_0 := rfl
theorem bX9_addLine_79 : qB 123 79 = kX9_addLine_79 := rfl
theorem bX9_fill_0 : qB 124 0 = kX9_fill_0 := rfl
theorem bX9_fill_41 : qB 124 41 = kX9_fill_41 := rfl
theorem bX9_join_0 : qB 125 0 = kX9_join_0 := rfl
theorem bX9_join_30 : qB 125 30 = kX9_join_30 := rfl
theorem bX10_init_0 : qB 126 0 = kX10_init_0 := rfl
theorem bX10_init_1 : qB 126 1 = kX10_init_1 := rfl
theorem bX10_init_4 : qB 126 4 = kX10_init_4 := rfl
theorem bX10_init_5 : qB 126 5 = kX10_init_5 := rfl
theorem bX10_init_8 : qB 126 8 = kX10_init_8 := rfl
theorem bX10_init_9 : qB 126 9 = kX10_init_9 := rfl
theorem bX10_init_12 : qB 126 12 = kX10_init_12 := rfl
theorem bX10_init_15 : qB 126 15 = kX10_init_15 := rfl
theorem bX10_init_17 : qB 126 17 = kX10_init_17 := rfl
theorem bX10_init_19 : qB 126 19 = kX10_init_19 := rfl
theorem bX10_init_22 : qB 126 22 = kX10_init_22 := rfl
theorem bX10_init_29 : qB 126 29 = kX10_init_29 := rfl
theorem bX10_init_32 : qB 126 32 = kX10_init_32 := rfl
theorem bX10_takeIn_0 : qB 127 0 = kX10_takeIn_0 := rfl
theorem bX10_takeIn_33 : qB 127 33 = kX10_takeIn_33 := rfl
theorem bX10_takeIn_79 : qB 127 79 = kX10_takeIn_79 := rfl
theorem bX10_takeIn_112 : qB 127 112 = kX10_takeIn_112 := rfl
theorem bX10_takeIn_113 : qB 127 113 = kX10_takeIn_113 := rfl
theorem bX10_takeIn_114 : qB 127 114 = kX10_takeIn_114 := rfl
theorem bX10_takeIn_120 : qB 127 120 = kX10_takeIn_120 := rfl
theorem bX10_takeIn_141 : qB 127 141 = kX10_takeIn_141 := rfl
theorem bX10_takeIn_145 : qB 127 145 = kX10_takeIn_145 := rfl
theorem bX10_takeIn_146 : qB 127 146 = kX10_takeIn_146 := rfl
theorem bX10_beginStep_0 : qB 128 0 = kX10_beginStep_0 := rfl
theorem bX10_beginStep_12 : qB 128 12 = kX10_beginStep_12 := rfl
theorem bX10_beginStep_16 : qB 128 16 = kX10_beginStep_16 := rfl
theorem bX10_beginStep_17 : qB 128 17 = kX10_beginStep_17 := rfl
theorem bX10_beginStep_33 : qB 128 33 = kX10_beginStep_33 := rfl
theorem bX10_beginStep_55 : qB 128 55 = kX10_beginStep_55 := rfl
theorem bX10_beginStep_77 : qB 128 77 = kX10_beginStep_77 := rfl
theorem bX10_beginStep_152 : qB 128 152 = kX10_beginStep_152 := rfl
theorem bX10_isStep_0 : qB 129 0 = kX10_isStep_0 := rfl
theorem bX10_isStep_30 : qB 129 30 = kX10_isStep_30 := rfl
theorem bX10_isStep_34 : qB 129 34 = kX10_isStep_34 := rfl
theorem bX10_isStep_35 : qB 129 35 = kX10_isStep_35 := rfl
theorem bX10_takeEnd_0 : qB 130 0 = kX10_takeEnd_0 := rfl
theorem bX10_takeEnd_16 : qB 130 16 = kX10_takeEnd_16 := rfl
theorem bX10_takeEnd_24 : qB 130 24 = kX10_takeEnd_24 := rfl
theorem bX10_takeRest_0 : qB 131 0 = kX10_takeRest_0 := rfl
theorem bX10_takeRest_64 : qB 131 64 = kX10_takeRest_64 := rfl
theorem bX10_takeRest_72 : qB 131 72 = kX10_takeRest_72 := rfl
theorem bX10_takeRest_80 : qB 131 80 = kX10_takeRest_80 := rfl
theorem bX10_takeRest_86 : qB 131 86 = kX10_takeRest_86 := rfl
theorem bX10_takeRest_92 : qB 131 92 = kX10_takeRest_92 := rfl
theorem bX10_takeRest_98 : qB 131 98 = kX10_takeRest_98 := rfl
theorem bX10_takeRest_104 : qB 131 104 = kX10_takeRest_104 := rfl
theorem bX10_takeOne_0 : qB 132 0 = kX10_takeOne_0 := rfl
theorem bX10_takeOne_14 : qB 132 14 = kX10_takeOne_14 := rfl
theorem bX10_takePair_0 : qB 133 0 = kX10_takePair_0 := rfl
theorem bX10_takePair_16 : qB 133 16 = kX10_takePair_16 := rfl
theorem bX10_takePair_39 : qB 133 39 = kX10_takePair_39 := rfl
theorem bX10_takePair_61 : qB 133 61 = kX10_takePair_61 := rfl
theorem bX10_takeBoy_0 : qB 134 0 = kX10_takeBoy_0 := rfl
theorem bX10_takeBoy_16 : qB 134 16 = kX10_takeBoy_16 := rfl
theorem bX10_takeBoyAndCell_0 : qB 135 0 = kX10_takeBoyAndCell_0 := rfl
theorem bX10_takeBoyAndCell_16 : qB 135 16 = kX10_takeBoyAndCell_16 := rfl
theorem bX10_takeBoyAndCell_47 : qB 135 47 = kX10_takeBoyAndCell_47 := rfl
theorem bX10_takeTest_0 : qB 136 0 = kX10_takeTest_0 := rfl
theorem bX10_takeTest_34 : qB 136 34 = kX10_takeTest_34 := rfl
theorem bX10_takeTest_63 : qB 136 63 = kX10_takeTest_63 := rfl
theorem bX10_takeTest_82 : qB 136 82 = kX10_takeTest_82 := rfl
theorem bX10_takeTest_94 : qB 136 94 = kX10_takeTest_94 := rfl
theorem bX10_takeTest_118 : qB 136 118 = kX10_takeTest_118 := rfl
theorem bX10_takeTest_121 : qB 136 121 = kX10_takeTest_121 := rfl
theorem bX10_takeTest_129 : qB 136 129 = kX10_takeTest_129 := rfl
theorem bX11_init_0 : qB 137 0 = kX11_init_0 := rfl
theorem bX11_init_1 : qB 137 1 = kX11_init_1 := rfl
theorem bX11_init_4 : qB 137 4 = kX11_init_4 := rfl
theorem bX11_init_5 : qB 137 5 = kX11_init_5 := rfl
theorem bX11_init_8 : qB 137 8 = kX11_init_8 := rfl
theorem bX11_init_9 : qB 137 9 = kX11_init_9 := rfl
theorem bX11_init_12 : qB 137 12 = kX11_init_12 := rfl
theorem bX11_init_15 : qB 137 15 = kX11_init_15 := rfl
theorem bX11_init_16 : qB 137 16 = kX11_init_16 := rfl
theorem bX11_init_19 : qB 137 19 = kX11_init_19 := rfl
theorem bX11_init_20 : qB 137 20 = kX11_init_20 := rfl
theorem bX11_init_23 : qB 137 23 = kX11_init_23 := rfl
theorem bX11_init_26 : qB 137 26 = kX11_init_26 := rfl
theorem bX11_init_27 : qB 137 27 = kX11_init_27 := rfl
theorem bX11_init_30 : qB 137 30 = kX11_init_30 := rfl
theorem bX11_init_31 : qB 137 31 = kX11_init_31 := rfl
theorem bX11_init_34 : qB 137 34 = kX11_init_34 := rfl
theorem bX11_init_37 : qB 137 37 = kX11_init_37 := rfl
theorem bX11_init_38 : qB 137 38 = kX11_init_38 := rfl
theorem bX11_init_41 : qB 137 41 = kX11_init_41 := rfl
theorem bX11_init_50 : qB 137 50 = kX11_init_50 := rfl
theorem bX11_init_53 : qB 137 53 = kX11_init_53 := rfl
theorem bX11_init_56 : qB 137 56 = kX11_init_56 := rfl
theorem bX11_init_57 : qB 137 57 = kX11_init_57 := rfl
theorem bX11_init_60 : qB 137 60 = kX11_init_60 := rfl
theorem bX11_init_69 : qB 137 69 = kX11_init_69 := rfl
theorem bX11_init_72 : qB 137 72 = kX11_init_72 := rfl
theorem bX11_init_75 : qB 137 75 = kX11_init_75 := rfl
theorem bX11_init_76 : qB 137 76 = kX11_init_76 := rfl
theorem bX11_init_79 : qB 137 79 = kX11_init_79 := rfl
theorem bX11_init_88 : qB 137 88 = kX11_init_88 := rfl
theorem bX11_init_91 : qB 137 91 = kX11_init_91 := rfl
theorem bX11_init_94 : qB 137 94 = kX11_init_94 := rfl
theorem bX11_init_95 : qB 137 95 = kX11_init_95 := rfl
theorem bX11_init_98 : qB 137 98 = kX11_init_98 := rfl
theorem bX11_init_99 : qB 137 99 = kX11_init_99 := rfl
theorem bX11_init_102 : qB 137 102 = kX11_init_102 := rfl
theorem bX11_init_105 : qB 137 105 = kX11_init_105 := rfl
theorem bX11_init_106 : qB 137 106 = kX11_init_106 := rfl
theorem bX11_init_109 : qB 137 109 = kX11_init_109 := rfl
theorem bX11_init_110 : qB 137 110 = kX11_init_110 := rfl
theorem bX11_init_113 : qB 137 113 = kX11_init_113 := rfl
theorem bX11_init_116 : qB 137 116 = kX11_init_116 := rfl
theorem bX11_init_117 : qB 137 117 = kX11_init_117 := rfl
theorem bX11_init_120 : qB 137 120 = kX11_init_120 := rfl
theorem bX11_init_125 : qB 137 125 = kX11_init_125 := rfl
theorem bX11_init_128 : qB 137 128 = kX11_init_128 := rfl
theorem bX11_init_131 : qB 137 131 = kX11_init_131 := rfl
theorem bX11_init_132 : qB 137 132 = kX11_init_132 := rfl
theorem bX11_init_135 : qB 137 135 = kX11_init_135 := rfl
theorem bX11_init_140 : qB 137 140 = kX11_init_140 := rfl
theorem bX11_init_143 : qB 137 143 = kX11_init_143 := rfl
theorem bX11_init_146 : qB 137 146 = kX11_init_146 := rfl
theorem bX11_init_147 : qB 137 147 = kX11_init_147 := rfl
theorem bX11_init_150 : qB 137 150 = kX11_init_150 := rfl
theorem bX11_init_151 : qB 137 151 = kX11_init_151 := rfl
theorem bX11_init_154 : qB 137 154 = kX11_init_154 := rfl
theorem bX11_init_157 : qB 137 157 = kX11_init_157 := rfl
theorem bX11_init_158 : qB 137 158 = kX11_init_158 := rfl
theorem bX11_init_161 : qB 137 161 = kX11_init_161 := rfl
theorem bX11_init_162 : qB 137 162 = kX11_init_162 := rfl
theorem bX11_init_165 : qB 137 165 = kX11_init_165 := rfl
theorem bX11_init_168 : qB 137 168 = kX11_init_168 := rfl
theorem bX11_init_170 : qB 137 170 = kX11_init_170 := rfl
theorem bX11_init_172 : qB 137 172 = kX11_init_172 := rfl
theorem bX11_init_175 : qB 137 175 = kX11_init_175 := rfl
theorem bX11_init_182 : qB 137 182 = kX11_init_182 := rfl
theorem bX11_init_185 : qB 137 185 = kX11_init_185 := rfl
theorem bX11_init_188 : qB 137 188 = kX11_init_188 := rfl
theorem bX11_init_190 : qB 137 190 = kX11_init_190 := rfl
theorem bX11_init_193 : qB 137 193 = kX11_init_193 := rfl
theorem bX11_init_196 : qB 137 196 = kX11_init_196 := rfl
theorem bX11_init_218 : qB 137 218 = kX11_init_218 := rfl
theorem bX11_init_228 : qB 137 228 = kX11_init_228 := rfl
theorem bX11_init_231 : qB 137 231 = kX11_init_231 := rfl
theorem bX11_init_232 : qB 137 232 = kX11_init_232 := rfl
theorem bX11_init_235 : qB 137 235 = kX11_init_235 := rfl
theorem bX11_init_236 : qB 137 236 = kX11_init_236 := rfl
theorem bX11_init_241 : qB 137 241 = kX11_init_241 := rfl
theorem bX11_init_244 : qB 137 244 = kX11_init_244 := rfl
theorem bX11_init_245 : qB 137 245 = kX11_init_245 := rfl
theorem bX11_init_248 : qB 137 248 = kX11_init_248 := rfl
theorem bX11_init_249 : qB 137 249 = kX11_init_249 := rfl
theorem bX11_init_255 : qB 137 255 = kX11_init_255 := rfl
theorem bX11_within_0 : qB 138 0 = kX11_within_0 := rfl
theorem bX11_within_17 : qB 138 17 = kX11_within_17 := rfl
theorem bX11_within_18 : qB 138 18 = kX11_within_18 := rfl
theorem bX11_give_0 : qB 139 0 = kX11_give_0 := rfl
theorem bX11_refuse_0 : qB 140 0 = kX11_refuse_0 := rfl
theorem bX11_grant_0 : qB 141 0 = kX11_grant_0 := rfl
theorem bX11_deny_0 : qB 142 0 = kX11_deny_0 := rfl
theorem bX11_tellFraction_0 : qB 143 0 = kX11_tellFraction_0 := rfl
theorem bX11_tellFraction_15 : qB 143 15 = kX11_tellFraction_15 := rfl
theorem bX11_status_0 : qB 144 0 = kX11_status_0 := rfl
theorem bX11_top_0 : qB 145 0 = kX11_top_0 := rfl
theorem bX11_bottom_0 : qB 146 0 = kX11_bottom_0 := rfl
theorem bX11_tray_0 : qB 147 0 = kX11_tray_0 := rfl
theorem bX11_tray_35 : qB 147 35 = kX11_tray_35 := rfl
theorem bX11_tray_41 : qB 147 41 = kX11_tray_41 := rfl
theorem bX11_placeStatus_0 : qB 148 0 = kX11_placeStatus_0 := rfl
theorem bX11_placeStatus_13 : qB 148 13 = kX11_placeStatus_13 := rfl
theorem bX11_placeStatus_26 : qB 148 26 = kX11_placeStatus_26 := rfl
theorem bX11_placeStatus_42 : qB 148 42 = kX11_placeStatus_42 := rfl
theorem bX11_placeStatus_43 : qB 148 43 = kX11_placeStatus_43 := rfl
theorem bX11_write_0 : qB 149 0 = kX11_write_0 := rfl
theorem bX11_write_20 : qB 149 20 = kX11_write_20 := rfl
theorem bX11_read_0 : qB 150 0 = kX11_read_0 := rfl
theorem bX11_read_18 : qB 150 18 = kX11_read_18 := rfl
theorem bX11_pour_0 : qB 151 0 = kX11_pour_0 := rfl
theorem bX11_pour_36 : qB 151 36 = kX11_pour_36 := rfl
theorem bX11_pour_42 : qB 151 42 = kX11_pour_42 := rfl
theorem bX11_pour_64 : qB 151 64 = kX11_pour_64 := rfl
theorem bX11_pour_70 : qB 151 70 = kX11_pour_70 := rfl
theorem bX11_pour_89 : qB 151 89 = kX11_pour_89 := rfl
theorem bX11_pour_118 : qB 151 118 = kX11_pour_118 := rfl
theorem bX11_pour_124 : qB 151 124 = kX11_pour_124 := rfl
theorem bX11_feed_0 : qB 152 0 = kX11_feed_0 := rfl
theorem bX11_feed_12 : qB 152 12 = kX11_feed_12 := rfl
theorem bX11_camp_0 : qB 153 0 = kX11_camp_0 := rfl
theorem bX11_camp_23 : qB 153 23 = kX11_camp_23 := rfl
theorem bX11_camp_51 : qB 153 51 = kX11_camp_51 := rfl
theorem bX11_weeks_0 : qB 154 0 = kX11_weeks_0 := rfl
theorem bX11_weeks_24 : qB 154 24 = kX11_weeks_24 := rfl
theorem bX11_weeks_30 : qB 154 30 = kX11_weeks_30 := rfl
theorem bX11_weeks_62 : qB 154 62 = kX11_weeks_62 := rfl
theorem bX11_fault_0 : qB 155 0 = kX11_fault_0 := rfl
theorem bX11_fault_12 : qB 155 12 = kX11_fault_12 := rfl
theorem bX11_fault_27 : qB 155 27 = kX11_fault_27 := rfl
theorem bX11_fault_28 : qB 155 28 = kX11_fault_28 := rfl
theorem bX11_told_0 : qB 156 0 = kX11_told_0 := rfl
theorem bX11_told_52 : qB 156 52 = kX11_told_52 := rfl
theorem bX11_told_64 : qB 156 64 = kX11_told_64 := rfl
theorem bX11_told_76 : qB 156 76 = kX11_told_76 := rfl
theorem bX11_told_88 : qB 156 88 = kX11_told_88 := rfl
theorem bX11_told_100 : qB 156 100 = kX11_told_100 := rfl
theorem bX11_told_112 : qB 156 112 = kX11_told_112 := rfl
theorem bX11_told_124 : qB 156 124 = kX11_told_124 := rfl
theorem bX11_told_136 : qB 156 136 = kX11_told_136 := rfl
theorem bX11_told_148 : qB 156 148 = kX11_told_148 := rfl
theorem bX11_told_160 : qB 156 160 = kX11_told_160 := rfl
theorem bX11_boy_0 : qB 157 0 = kX11_boy_0 := rfl
theorem bX11_boy_17 : qB 157 17 = kX11_boy_17 := rfl
theorem bX11_boy_60 : qB 157 60 = kX11_boy_60 := rfl
theorem bX11_boy_74 : qB 157 74 = kX11_boy_74 := rfl
theorem bX11_boy_88 : qB 157 88 = kX11_boy_88 := rfl
theorem bX11_boy_102 : qB 157 102 = kX11_boy_102 := rfl
theorem bX11_boy_116 : qB 157 116 = kX11_boy_116 := rfl
theorem bX11_boy_132 : qB 157 132 = kX11_boy_132 := rfl
theorem bX11_boy_133 : qB 157 133 = kX11_boy_133 := rfl
theorem bX11_boy_137 : qB 157 137 = kX11_boy_137 := rfl
theorem bX11_boy_150 : qB 157 150 = kX11_boy_150 := rfl
theorem bX11_boy_164 : qB 157 164 = kX11_boy_164 := rfl
theorem bX11_quarrel_0 : qB 158 0 = kX11_quarrel_0 := rfl
theorem bX11_quarrel_17 : qB 158 17 = kX11_quarrel_17 := rfl
theorem bX11_quarrel_48 : qB 158 48 = kX11_quarrel_48 := rfl
theorem bX11_quarrel_62 : qB 158 62 = kX11_quarrel_62 := rfl
theorem bX11_quarrel_76 : qB 158 76 = kX11_quarrel_76 := rfl
theorem bX11_quarrel_90 : qB 158 90 = kX11_quarrel_90 := rfl
theorem bX11_quarrel_104 : qB 158 104 = kX11_quarrel_104 := rfl
theorem bX11_minute_0 : qB 159 0 = kX11_minute_0 := rfl
theorem bX11_minute_18 : qB 159 18 = kX11_minute_18 := rfl
theorem bX11_minute_39 : qB 159 39 = kX11_minute_39 := rfl
theorem bX11_dawn_0 : qB 160 0 = kX11_dawn_0 := rfl
theorem bX11_boot_0 : qB 161 0 = kX11_boot_0 := rfl
theorem bX11_boot_39 : qB 161 39 = kX11_boot_39 := rfl
theorem bX11_boot_45 : qB 161 45 = kX11_boot_45 := rfl
theorem bX11_boot_63 : qB 161 63 = kX11_boot_63 := rfl
theorem bX11_forgive_0 : qB 162 0 = kX11_forgive_0 := rfl
theorem bX11_forgive_17 : qB 162 17 = kX11_forgive_17 := rfl
theorem bX11_forgive_35 : qB 162 35 = kX11_forgive_35 := rfl
theorem bX11_pitch_0 : qB 163 0 = kX11_pitch_0 := rfl
theorem bX11_pitch_22 : qB 163 22 = kX11_pitch_22 := rfl
theorem bX11_pitch_28 : qB 163 28 = kX11_pitch_28 := rfl
theorem bX11_pitch_50 : qB 163 50 = kX11_pitch_50 := rfl
theorem bX11_teach_0 : qB 164 0 = kX11_teach_0 := rfl
theorem bX11_teach_17 : qB 164 17 = kX11_teach_17 := rfl
theorem bX11_teach_49 : qB 164 49 = kX11_teach_49 := rfl
theorem bX11_teach_81 : qB 164 81 = kX11_teach_81 := rfl
theorem bX11_teach_112 : qB 164 112 = kX11_teach_112 := rfl
theorem bX11_stir_0 : qB 165 0 = kX11_stir_0 := rfl
theorem bX11_stir_23 : qB 165 23 = kX11_stir_23 := rfl
theorem bX11_stir_29 : qB 165 29 = kX11_stir_29 := rfl
theorem bX11_stir_47 : qB 165 47 = kX11_stir_47 := rfl
theorem bX11_come_0 : qB 166 0 = kX11_come_0 := rfl
theorem bX11_come_23 : qB 166 23 = kX11_come_23 := rfl
theorem bX11_come_29 : qB 166 29 = kX11_come_29 := rfl
theorem bX11_come_47 : qB 166 47 = kX11_come_47 := rfl
theorem bX11_rule_0 : qB 167 0 = kX11_rule_0 := rfl
theorem bX11_rule_18 : qB 167 18 = kX11_rule_18 := rfl
theorem bX11_far_0 : qB 168 0 = kX11_far_0 := rfl
theorem bX11_far_22 : qB 168 22 = kX11_far_22 := rfl
theorem bX11_far_28 : qB 168 28 = kX11_far_28 := rfl
theorem bX11_hears_0 : qB 169 0 = kX11_hears_0 := rfl
theorem bX11_hears_17 : qB 169 17 = kX11_hears_17 := rfl
theorem bX11_near_0 : qB 170 0 = kX11_near_0 := rfl
theorem bX11_near_17 : qB 170 17 = kX11_near_17 := rfl
theorem bX11_due_0 : qB 171 0 = kX11_due_0 := rfl
theorem bX11_due_22 : qB 171 22 = kX11_due_22 := rfl
theorem bX11_due_28 : qB 171 28 = kX11_due_28 := rfl
theorem bX11_due_61 : qB 171 61 = kX11_due_61 := rfl
theorem bX11_due_79 : qB 171 79 = kX11_due_79 := rfl
theorem bX11_upIn_0 : qB 172 0 = kX11_upIn_0 := rfl
theorem bX11_upIn_17 : qB 172 17 = kX11_upIn_17 := rfl
theorem bX11_upBy_0 : qB 173 0 = kX11_upBy_0 := rfl
theorem bX11_upBy_18 : qB 173 18 = kX11_upBy_18 := rfl
theorem bX11_breakfast_0 : qB 174 0 = kX11_breakfast_0 := rfl
theorem bX11_overIn_0 : qB 175 0 = kX11_overIn_0 := rfl
theorem bX11_overIn_17 : qB 175 17 = kX11_overIn_17 := rfl
theorem bX11_yielder_0 : qB 176 0 = kX11_yielder_0 := rfl
theorem bX11_yielder_17 : qB 176 17 = kX11_yielder_17 := rfl
theorem bX11_reveille_0 : qB 177 0 = kX11_reveille_0 := rfl
theorem bX11_reveille_30 : qB 177 30 = kX11_reveille_30 := rfl
theorem bX11_last_0 : qB 178 0 = kX11_last_0 := rfl
theorem bX11_last_17 : qB 178 17 = kX11_last_17 := rfl
theorem bX11_soonestStatus_0 : qB 179 0 = kX11_soonestStatus_0 := rfl
theorem bX11_soonestStatus_14 : qB 179 14 = kX11_soonestStatus_14 := rfl
theorem bX11_soonestStatus_30 : qB 179 30 = kX11_soonestStatus_30 := rfl
theorem bX11_soonestStatus_31 : qB 179 31 = kX11_soonestStatus_31 := rfl
theorem bX11_soonest_0 : qB 180 0 = kX11_soonest_0 := rfl
theorem bX11_soonest_18 : qB 180 18 = kX11_soonest_18 := rfl
theorem bX11_soonest_34 : qB 180 34 = kX11_soonest_34 := rfl
theorem bX11_soonestIn_0 : qB 181 0 = kX11_soonestIn_0 := rfl
theorem bX11_soonestIn_16 : qB 181 16 = kX11_soonestIn_16 := rfl
theorem bX11_best_0 : qB 182 0 = kX11_best_0 := rfl
theorem bX11_best_17 : qB 182 17 = kX11_best_17 := rfl
theorem bX11_bestIn_0 : qB 183 0 = kX11_bestIn_0 := rfl
theorem bX11_bestIn_17 : qB 183 17 = kX11_bestIn_17 := rfl
theorem bX11_ending_0 : qB 184 0 = kX11_ending_0 := rfl
theorem bX11_endingSet_0 : qB 185 0 = kX11_endingSet_0 := rfl
theorem bX11_apart_0 : qB 186 0 = kX11_apart_0 := rfl
theorem bX11_apartSet_0 : qB 187 0 = kX11_apartSet_0 := rfl
theorem bX11_circle_0 : qB 188 0 = kX11_circle_0 := rfl
theorem bX11_circle_17 : qB 188 17 = kX11_circle_17 := rfl
theorem bX11_circles_0 : qB 189 0 = kX11_circles_0 := rfl
theorem bX11_sides_0 : qB 190 0 = kX11_sides_0 := rfl
theorem bX11_sides_22 : qB 190 22 = kX11_sides_22 := rfl
theorem bX11_sides_27 : qB 190 27 = kX11_sides_27 := rfl
theorem bX11_clueStatus_0 : qB 191 0 = kX11_clueStatus_0 := rfl
theorem bX11_clueStatus_34 : qB 191 34 = kX11_clueStatus_34 := rfl
theorem bX11_clueStatus_36 : qB 191 36 = kX11_clueStatus_36 := rfl
theorem bX11_clueStatus_49 : qB 191 49 = kX11_clueStatus_49 := rfl
theorem bX11_clueStatus_66 : qB 191 66 = kX11_clueStatus_66 := rfl
theorem bX11_clueStatus_69 : qB 191 69 = kX11_clueStatus_69 := rfl
theorem bX11_clueStatus_132 : qB 191 132 = kX11_clueStatus_132 := rfl
theorem bX11_clueStatus_134 : qB 191 134 = kX11_clueStatus_134 := rfl
theorem bX11_clueStatus_140 : qB 191 140 = kX11_clueStatus_140 := rfl
theorem bX11_fittingPrides_0 : qB 192 0 = kX11_fittingPrides_0 := rfl
theorem bX11_fittingPrides_10 : qB 192 10 = kX11_fittingPrides_10 := rfl
theorem bX11_fittingPrides_57 : qB 192 57 = kX11_fittingPrides_57 := rfl
theorem bX11_fits_0 : qB 193 0 = kX11_fits_0 := rfl
theorem bX11_fits_21 : qB 193 21 = kX11_fits_21 := rfl
theorem bX11_fitsAt_0 : qB 194 0 = kX11_fitsAt_0 := rfl
theorem bX11_fitsAt_21 : qB 194 21 = kX11_fitsAt_21 := rfl
theorem bX11_fitsAt_22 : qB 194 22 = kX11_fitsAt_22 := rfl
theorem bX11_fitsAt_36 : qB 194 36 = kX11_fitsAt_36 := rfl
theorem bX11_fitsAt_57 : qB 194 57 = kX11_fitsAt_57 := rfl
theorem bX11_fitsAt_71 : qB 194 71 = kX11_fitsAt_71 := rfl
theorem bX11_fitsAt_76 : qB 194 76 = kX11_fitsAt_76 := rfl
theorem bX11_ask_0 : qB 195 0 = kX11_ask_0 := rfl
theorem bX11_ask_21 : qB 195 21 = kX11_ask_21 := rfl
theorem bX11_ask_46 : qB 195 46 = kX11_ask_46 := rfl
theorem bX11_rests_0 : qB 196 0 = kX11_rests_0 := rfl
theorem bX11_rests_23 : qB 196 23 = kX11_rests_23 := rfl
theorem bX11_rests_29 : qB 196 29 = kX11_rests_29 := rfl
theorem bX11_restAt_0 : qB 197 0 = kX11_restAt_0 := rfl
theorem bX11_restAt_38 : qB 197 38 = kX11_restAt_38 := rfl
theorem bX11_restAt_44 : qB 197 44 = kX11_restAt_44 := rfl
theorem bX11_restAt_73 : qB 197 73 = kX11_restAt_73 := rfl
theorem bX11_restAt_88 : qB 197 88 = kX11_restAt_88 := rfl
theorem bX11_restAt_94 : qB 197 94 = kX11_restAt_94 := rfl
theorem bX11_game_0 : qB 198 0 = kX11_game_0 := rfl
theorem bX11_game_18 : qB 198 18 = kX11_game_18 := rfl
theorem bX11_moveOf_0 : qB 199 0 = kX11_moveOf_0 := rfl
theorem bX11_moveOf_18 : qB 199 18 = kX11_moveOf_18 := rfl
theorem bX11_moveOf_45 : qB 199 45 = kX11_moveOf_45 := rfl
theorem bX11_moveOf_50 : qB 199 50 = kX11_moveOf_50 := rfl
theorem bX11_night_0 : qB 200 0 = kX11_night_0 := rfl
theorem bX11_night_18 : qB 200 18 = kX11_night_18 := rfl
theorem bX11_wakes_0 : qB 201 0 = kX11_wakes_0 := rfl
theorem bX11_wakes_17 : qB 201 17 = kX11_wakes_17 := rfl
theorem bX11_copyYields_0 : qB 202 0 = kX11_copyYields_0 := rfl
theorem bX11_copyYields_17 : qB 202 17 = kX11_copyYields_17 := rfl
theorem bX11_copyYields_34 : qB 202 34 = kX11_copyYields_34 := rfl
theorem bX11_copyYields_59 : qB 202 59 = kX11_copyYields_59 := rfl
theorem bX11_copyYields_61 : qB 202 61 = kX11_copyYields_61 := rfl
theorem bX11_copyYields_97 : qB 202 97 = kX11_copyYields_97 := rfl
theorem bX11_live_0 : qB 203 0 = kX11_live_0 := rfl
theorem bX11_live_18 : qB 203 18 = kX11_live_18 := rfl
theorem bX11_live_35 : qB 203 35 = kX11_live_35 := rfl
theorem bX11_live_122 : qB 203 122 = kX11_live_122 := rfl
theorem bX11_live_123 : qB 203 123 = kX11_live_123 := rfl
theorem bX11_lived_0 : qB 204 0 = kX11_lived_0 := rfl
theorem bX11_lived_18 : qB 204 18 = kX11_lived_18 := rfl
theorem bX11_lived_38 : qB 204 38 = kX11_lived_38 := rfl
theorem bX11_lived_44 : qB 204 44 = kX11_lived_44 := rfl
theorem bX11_mean_0 : qB 205 0 = kX11_mean_0 := rfl
theorem bX11_mean_35 : qB 205 35 = kX11_mean_35 := rfl
theorem bX11_mean_41 : qB 205 41 = kX11_mean_41 := rfl
theorem bX11_mean_58 : qB 205 58 = kX11_mean_58 := rfl
theorem bX11_mean_63 : qB 205 63 = kX11_mean_63 := rfl
theorem bX11_mean_118 : qB 205 118 = kX11_mean_118 := rfl
theorem bX11_mark_0 : qB 206 0 = kX11_mark_0 := rfl
theorem bX11_mark_15 : qB 206 15 = kX11_mark_15 := rfl
theorem bX11_mark_21 : qB 206 21 = kX11_mark_21 := rfl
theorem bX11_mark_49 : qB 206 49 = kX11_mark_49 := rfl
theorem bX11_mark_55 : qB 206 55 = kX11_mark_55 := rfl
theorem bX11_undo_0 : qB 207 0 = kX11_undo_0 := rfl
theorem bX11_undo_16 : qB 207 16 = kX11_undo_16 := rfl
theorem bX11_undo_23 : qB 207 23 = kX11_undo_23 := rfl
theorem bX11_undo_55 : qB 207 55 = kX11_undo_55 := rfl
theorem bX11_undo_62 : qB 207 62 = kX11_undo_62 := rfl
theorem bX12_init_0 : qB 208 0 = kX12_init_0 := rfl
theorem bX12_init_1 : qB 208 1 = kX12_init_1 := rfl
theorem bX12_init_4 : qB 208 4 = kX12_init_4 := rfl
theorem bX12_init_8 : qB 208 8 = kX12_init_8 := rfl
theorem bX12_init_10 : qB 208 10 = kX12_init_10 := rfl
theorem bX12_init_13 : qB 208 13 = kX12_init_13 := rfl
theorem bX12_init_16 : qB 208 16 = kX12_init_16 := rfl
theorem bX12_init_18 : qB 208 18 = kX12_init_18 := rfl
theorem bX12_init_21 : qB 208 21 = kX12_init_21 := rfl
theorem bX12_init_28 : qB 208 28 = kX12_init_28 := rfl
theorem bX12_init_30 : qB 208 30 = kX12_init_30 := rfl
theorem bX12_init_33 : qB 208 33 = kX12_init_33 := rfl
theorem bX12_init_35 : qB 208 35 = kX12_init_35 := rfl
theorem bX12_init_37 : qB 208 37 = kX12_init_37 := rfl
theorem bX12_init_53 : qB 208 53 = kX12_init_53 := rfl
theorem bX12_init_56 : qB 208 56 = kX12_init_56 := rfl
theorem bX12_init_60 : qB 208 60 = kX12_init_60 := rfl
theorem bX12_init_62 : qB 208 62 = kX12_init_62 := rfl
theorem bX12_init_65 : qB 208 65 = kX12_init_65 := rfl
theorem bX12_init_69 : qB 208 69 = kX12_init_69 := rfl
theorem bX12_init_71 : qB 208 71 = kX12_init_71 := rfl
theorem bX12_init_74 : qB 208 74 = kX12_init_74 := rfl
theorem bX12_init_78 : qB 208 78 = kX12_init_78 := rfl
theorem bX12_init_80 : qB 208 80 = kX12_init_80 := rfl
theorem bX12_init_83 : qB 208 83 = kX12_init_83 := rfl
theorem bX12_init_95 : qB 208 95 = kX12_init_95 := rfl
theorem bX12_init_97 : qB 208 97 = kX12_init_97 := rfl
theorem bX12_init_100 : qB 208 100 = kX12_init_100 := rfl
theorem bX12_init_103 : qB 208 103 = kX12_init_103 := rfl
theorem bX12_init_105 : qB 208 105 = kX12_init_105 := rfl
theorem bX12_init_108 : qB 208 108 = kX12_init_108 := rfl
theorem bX12_init_112 : qB 208 112 = kX12_init_112 := rfl
theorem bX12_init_114 : qB 208 114 = kX12_init_114 := rfl
theorem bX12_init_117 : qB 208 117 = kX12_init_117 := rfl
theorem bX12_init_120 : qB 208 120 = kX12_init_120 := rfl
theorem bX12_init_122 : qB 208 122 = kX12_init_122 := rfl
theorem bX12_init_125 : qB 208 125 = kX12_init_125 := rfl
theorem bX12_init_127 : qB 208 127 = kX12_init_127 := rfl
theorem bX12_init_129 : qB 208 129 = kX12_init_129 := rfl
theorem bX12_init_132 : qB 208 132 = kX12_init_132 := rfl
theorem bX12_init_134 : qB 208 134 = kX12_init_134 := rfl
theorem bX12_init_136 : qB 208 136 = kX12_init_136 := rfl
theorem bX12_init_139 : qB 208 139 = kX12_init_139 := rfl
theorem bX12_init_141 : qB 208 141 = kX12_init_141 := rfl
theorem bX12_init_143 : qB 208 143 = kX12_init_143 := rfl
theorem bX12_init_146 : qB 208 146 = kX12_init_146 := rfl
theorem bX12_init_149 : qB 208 149 = kX12_init_149 := rfl
theorem bX12_init_151 : qB 208 151 = kX12_init_151 := rfl
theorem bX12_init_154 : qB 208 154 = kX12_init_154 := rfl
theorem bX12_init_157 : qB 208 157 = kX12_init_157 := rfl
theorem bX12_init_159 : qB 208 159 = kX12_init_159 := rfl
theorem bX12_init_162 : qB 208 162 = kX12_init_162 := rfl
theorem bX12_init_164 : qB 208 164 = kX12_init_164 := rfl
theorem bX12_init_166 : qB 208 166 = kX12_init_166 := rfl
theorem bX12_init_169 : qB 208 169 = kX12_init_169 := rfl
theorem bX12_init_171 : qB 208 171 = kX12_init_171 := rfl
theorem bX12_init_173 : qB 208 173 = kX12_init_173 := rfl
theorem bX12_init_176 : qB 208 176 = kX12_init_176 := rfl
theorem bX12_plain_0 : qB 209 0 = kX12_plain_0 := rfl
theorem bX12_plain_2 : qB 209 2 = kX12_plain_2 := rfl
theorem bX12_plain_24 : qB 209 24 = kX12_plain_24 := rfl
theorem bX12_status_0 : qB 210 0 = kX12_status_0 := rfl
theorem bX12_top_0 : qB 211 0 = kX12_top_0 := rfl
theorem bX12_bottom_0 : qB 212 0 = kX12_bottom_0 := rfl
theorem bX12_is_0 : qB 213 0 = kX12_is_0 := rfl
theorem bX12_is_13 : qB 213 13 = kX12_is_13 := rfl
theorem bX12_is_14 : qB 213 14 = kX12_is_14 := rfl
theorem bX12_refuse_0 : qB 214 0 = kX12_refuse_0 := rfl
theorem bX12_gives_0 : qB 215 0 = kX12_gives_0 := rfl
theorem bX12_orNone_0 : qB 216 0 = kX12_orNone_0 := rfl
theorem bX12_orNone_12 : qB 216 12 = kX12_orNone_12 := rfl
theorem bX12_tellsBy_0 : qB 217 0 = kX12_tellsBy_0 := rfl
theorem bX12_tellsBy_6 : qB 217 6 = kX12_tellsBy_6 := rfl
theorem bX12_tellsBy_31 : qB 217 31 = kX12_tellsBy_31 := rfl
theorem bX12_isTray_0 : qB 218 0 = kX12_isTray_0 := rfl
theorem bX12_isTray_13 : qB 218 13 = kX12_isTray_13 := rfl
theorem bX12_isTray_14 : qB 218 14 = kX12_isTray_14 := rfl
theorem bX12_cut_0 : qB 219 0 = kX12_cut_0 := rfl
theorem bX12_cut_11 : qB 219 11 = kX12_cut_11 := rfl
theorem bX12_cut_23 : qB 219 23 = kX12_cut_23 := rfl
theorem bX12_cut_34 : qB 219 34 = kX12_cut_34 := rfl
theorem bX12_cut_35 : qB 219 35 = kX12_cut_35 := rfl
theorem bX12_tray_0 : qB 220 0 = kX12_tray_0 := rfl
theorem bX12_tray_26 : qB 220 26 = kX12_tray_26 := rfl
theorem bX12_tray_32 : qB 220 32 = kX12_tray_32 := rfl
theorem bX12_tray_49 : qB 220 49 = kX12_tray_49 := rfl
theorem bX12_tray_74 : qB 220 74 = kX12_tray_74 := rfl
theorem bX12_wrongPlace_0 : qB 221 0 = kX12_wrongPlace_0 := rfl
theorem bX12_wrongPlace_11 : qB 221 11 = kX12_wrongPlace_11 := rfl
theorem bX12_wrongPlace_25 : qB 221 25 = kX12_wrongPlace_25 := rfl
theorem bX12_wrongPlace_39 : qB 221 39 = kX12_wrongPlace_39 := rfl
theorem bX12_wrongPlace_43 : qB 221 43 = kX12_wrongPlace_43 := rfl
theorem bX12_wrongPlace_44 : qB 221 44 = kX12_wrongPlace_44 := rfl
theorem bX12_write_0 : qB 222 0 = kX12_write_0 := rfl
theorem bX12_write_34 : qB 222 34 = kX12_write_34 := rfl
theorem bX12_read_0 : qB 223 0 = kX12_read_0 := rfl
theorem bX12_read_23 : qB 223 23 = kX12_read_23 := rfl
theorem bX12_read_34 : qB 223 34 = kX12_read_34 := rfl
theorem bX12_pour_0 : qB 224 0 = kX12_pour_0 := rfl
theorem bX12_pour_28 : qB 224 28 = kX12_pour_28 := rfl
theorem bX12_pour_34 : qB 224 34 = kX12_pour_34 := rfl
theorem bX12_pour_54 : qB 224 54 = kX12_pour_54 := rfl
theorem bX12_pour_60 : qB 224 60 = kX12_pour_60 := rfl
theorem bX12_pour_82 : qB 224 82 = kX12_pour_82 := rfl
theorem bX12_pour_109 : qB 224 109 = kX12_pour_109 := rfl
theorem bX12_pour_115 : qB 224 115 = kX12_pour_115 := rfl
theorem bX12_pour_118 : qB 224 118 = kX12_pour_118 := rfl
theorem bX12_pour_141 : qB 224 141 = kX12_pour_141 := rfl
theorem bX12_pour_143 : qB 224 143 = kX12_pour_143 := rfl
theorem bX12_pour_180 : qB 224 180 = kX12_pour_180 := rfl
theorem bX12_isFrom_0 : qB 225 0 = kX12_isFrom_0 := rfl
theorem bX12_isFrom_17 : qB 225 17 = kX12_isFrom_17 := rfl
theorem bX12_isFrom_18 : qB 225 18 = kX12_isFrom_18 := rfl
theorem bX12_feed_0 : qB 226 0 = kX12_feed_0 := rfl
theorem bX12_feed_15 : qB 226 15 = kX12_feed_15 := rfl
theorem bX12_four_0 : qB 227 0 = kX12_four_0 := rfl
theorem bX12_four_3 : qB 227 3 = kX12_four_3 := rfl
theorem bX12_four_36 : qB 227 36 = kX12_four_36 := rfl
theorem bX12_byteAt_0 : qB 228 0 = kX12_byteAt_0 := rfl
theorem bX12_byteAt_21 : qB 228 21 = kX12_byteAt_21 := rfl
theorem bX12_byteAt_22 : qB 228 22 = kX12_byteAt_22 := rfl
theorem bX12_isSmall_0 : qB 229 0 = kX12_isSmall_0 := rfl
theorem bX12_isSmall_16 : qB 229 16 = kX12_isSmall_16 := rfl
theorem bX12_isSmall_17 : qB 229 17 = kX12_isSmall_17 := rfl
theorem bX12_isDigit_0 : qB 230 0 = kX12_isDigit_0 := rfl
theorem bX12_isDigit_16 : qB 230 16 = kX12_isDigit_16 := rfl
theorem bX12_isDigit_17 : qB 230 17 = kX12_isDigit_17 := rfl
theorem bX12_ahead_0 : qB 231 0 = kX12_ahead_0 := rfl
theorem bX12_ahead_26 : qB 231 26 = kX12_ahead_26 := rfl
theorem bX12_ahead_39 : qB 231 39 = kX12_ahead_39 := rfl
theorem bX12_ahead_74 : qB 231 74 = kX12_ahead_74 := rfl
theorem bX12_ahead_81 : qB 231 81 = kX12_ahead_81 := rfl
theorem bX12_ahead_108 : qB 231 108 = kX12_ahead_108 := rfl
theorem bX12_ahead_116 : qB 231 116 = kX12_ahead_116 := rfl
theorem bX12_ahead_128 : qB 231 128 = kX12_ahead_128 := rfl
theorem bX12_ahead_183 : qB 231 183 = kX12_ahead_183 := rfl
theorem bX12_ahead_201 : qB 231 201 = kX12_ahead_201 := rfl
theorem bX12_ahead_202 : qB 231 202 = kX12_ahead_202 := rfl
theorem bX12_ahead_208 : qB 231 208 = kX12_ahead_208 := rfl
theorem bX12_ahead_243 : qB 231 243 = kX12_ahead_243 := rfl
theorem bX12_ahead_247 : qB 231 247 = kX12_ahead_247 := rfl
theorem bX12_ahead_248 : qB 231 248 = kX12_ahead_248 := rfl
theorem bX12_ahead_251 : qB 231 251 = kX12_ahead_251 := rfl
theorem bX12_isSign_0 : qB 232 0 = kX12_isSign_0 := rfl
theorem bX12_isSign_20 : qB 232 20 = kX12_isSign_20 := rfl
theorem bX12_isSign_21 : qB 232 21 = kX12_isSign_21 := rfl
theorem bX12_inWords_0 : qB 233 0 = kX12_inWords_0 := rfl
theorem bX12_inWords_10 : qB 233 10 = kX12_inWords_10 := rfl
theorem bX12_inWords_14 : qB 233 14 = kX12_inWords_14 := rfl
theorem bX12_inWords_25 : qB 233 25 = kX12_inWords_25 := rfl
theorem bX12_inWords_42 : qB 233 42 = kX12_inWords_42 := rfl
theorem bX12_inWords_62 : qB 233 62 = kX12_inWords_62 := rfl
theorem bX12_inWords_63 : qB 233 63 = kX12_inWords_63 := rfl
theorem bX12_inWords_68 : qB 233 68 = kX12_inWords_68 := rfl
theorem bX12_inWords_106 : qB 233 106 = kX12_inWords_106 := rfl
theorem bX12_inWords_107 : qB 233 107 = kX12_inWords_107 := rfl
theorem bX12_inWords_115 : qB 233 115 = kX12_inWords_115 := rfl
theorem bX12_inWords_122 : qB 233 122 = kX12_inWords_122 := rfl
theorem bX12_inWords_133 : qB 233 133 = kX12_inWords_133 := rfl
theorem bX12_fails_0 : qB 234 0 = kX12_fails_0 := rfl
theorem bX12_fails_20 : qB 234 20 = kX12_fails_20 := rfl
theorem bX12_fails_21 : qB 234 21 = kX12_fails_21 := rfl
theorem bX12_fails_32 : qB 234 32 = kX12_fails_32 := rfl
theorem bX12_begins_0 : qB 235 0 = kX12_begins_0 := rfl
theorem bX12_begins_17 : qB 235 17 = kX12_begins_17 := rfl
theorem bX12_begins_19 : qB 235 19 = kX12_begins_19 := rfl
theorem bX12_begins_26 : qB 235 26 = kX12_begins_26 := rfl
theorem bX12_begins_49 : qB 235 49 = kX12_begins_49 := rfl
theorem bX12_wantSign_0 : qB 236 0 = kX12_wantSign_0 := rfl
theorem bX12_wantSign_14 : qB 236 14 = kX12_wantSign_14 := rfl
theorem bX12_wantWord_0 : qB 237 0 = kX12_wantWord_0 := rfl
theorem bX12_wantWord_15 : qB 237 15 = kX12_wantWord_15 := rfl
theorem bX12_number_0 : qB 238 0 = kX12_number_0 := rfl
theorem bX12_number_14 : qB 238 14 = kX12_number_14 := rfl
theorem bX12_number_30 : qB 238 30 = kX12_number_30 := rfl
theorem bX12_number_36 : qB 238 36 = kX12_number_36 := rfl
theorem bX12_isName_0 : qB 239 0 = kX12_isName_0 := rfl
theorem bX12_isName_35 : qB 239 35 = kX12_isName_35 := rfl
theorem bX12_isName_36 : qB 239 36 = kX12_isName_36 := rfl
theorem bX12_nameHere_0 : qB 240 0 = kX12_nameHere_0 := rfl
theorem bX12_nameHere_7 : qB 240 7 = kX12_nameHere_7 := rfl
theorem bX12_nameHere_33 : qB 240 33 = kX12_nameHere_33 := rfl
theorem bX12_findHere_0 : qB 241 0 = kX12_findHere_0 := rfl
theorem bX12_findHere_2 : qB 241 2 = kX12_findHere_2 := rfl
theorem bX12_findHere_25 : qB 241 25 = kX12_findHere_25 := rfl
theorem bX12_findHere_31 : qB 241 31 = kX12_findHere_31 := rfl
theorem bX12_fault_0 : qB 242 0 = kX12_fault_0 := rfl
theorem bX12_fault_11 : qB 242 11 = kX12_fault_11 := rfl
theorem bX12_fault_23 : qB 242 23 = kX12_fault_23 := rfl
theorem bX12_fault_24 : qB 242 24 = kX12_fault_24 := rfl
theorem bX12_taken_0 : qB 243 0 = kX12_taken_0 := rfl
theorem bX12_taken_24 : qB 243 24 = kX12_taken_24 := rfl
theorem bX12_taken_29 : qB 243 29 = kX12_taken_29 := rfl
theorem bX12_boyRow_0 : qB 244 0 = kX12_boyRow_0 := rfl
theorem bX12_quarrelRow_0 : qB 245 0 = kX12_quarrelRow_0 := rfl
theorem bX12_isThere_0 : qB 246 0 = kX12_isThere_0 := rfl
theorem bX12_isThere_12 : qB 246 12 = kX12_isThere_12 := rfl
theorem bX12_oldBoy_0 : qB 247 0 = kX12_oldBoy_0 := rfl
theorem bX12_oldBoy_15 : qB 247 15 = kX12_oldBoy_15 := rfl
theorem bX12_oldBoy_43 : qB 247 43 = kX12_oldBoy_43 := rfl
theorem bX12_aField_0 : qB 248 0 = kX12_aField_0 := rfl
theorem bX12_aField_40 : qB 248 40 = kX12_aField_40 := rfl
theorem bX12_aField_41 : qB 248 41 = kX12_aField_41 := rfl
theorem bX12_aBoy_0 : qB 249 0 = kX12_aBoy_0 := rfl
theorem bX12_aBoy_31 : qB 249 31 = kX12_aBoy_31 := rfl
theorem bX12_aBoy_50 : qB 249 50 = kX12_aBoy_50 := rfl
theorem bX12_aBoy_67 : qB 249 67 = kX12_aBoy_67 := rfl
theorem bX12_aBoy_146 : qB 249 146 = kX12_aBoy_146 := rfl
theorem bX12_aBoy_148 : qB 249 148 = kX12_aBoy_148 := rfl
theorem bX12_aBoy_190 : qB 249 190 = kX12_aBoy_190 := rfl
theorem bX12_aBoy_214 : qB 249 214 = kX12_aBoy_214 := rfl
theorem bX12_aQuarrel_0 : qB 250 0 = kX12_aQuarrel_0 := rfl
theorem bX12_aQuarrel_45 : qB 250 45 = kX12_aQuarrel_45 := rfl
theorem bX12_aQuarrel_62 : qB 250 62 = kX12_aQuarrel_62 := rfl
theorem bX12_aQuarrel_93 : qB 250 93 = kX12_aQuarrel_93 := rfl
theorem bX12_aQuarrel_130 : qB 250 130 = kX12_aQuarrel_130 := rfl
theorem bX12_aQuarrel_132 : qB 250 132 = kX12_aQuarrel_132 := rfl
theorem bX12_campPart_0 : qB 251 0 = kX12_campPart_0 := rfl
theorem bX12_campPart_16 : qB 251 16 = kX12_campPart_16 := rfl
theorem bX12_campPart_22 : qB 251 22 = kX12_campPart_22 := rfl
theorem bX12_campPart_45 : qB 251 45 = kX12_campPart_45 := rfl
theorem bX12_campPart_62 : qB 251 62 = kX12_campPart_62 := rfl
theorem bX12_campPart_63 : qB 251 63 = kX12_campPart_63 := rfl
theorem bX12_campPart_77 : qB 251 77 = kX12_campPart_77 := rfl
theorem bX12_campPart_104 : qB 251 104 = kX12_campPart_104 := rfl
theorem bX12_campPart_112 : qB 251 112 = kX12_campPart_112 := rfl
theorem bX12_campPart_126 : qB 251 126 = kX12_campPart_126 := rfl
theorem bX12_campPart_134 : qB 251 134 = kX12_campPart_134 := rfl
theorem bX12_campPart_139 : qB 251 139 = kX12_campPart_139 := rfl
theorem bX12_campPart_156 : qB 251 156 = kX12_campPart_156 := rfl
theorem bX12_campPart_157 : qB 251 157 = kX12_campPart_157 := rfl
theorem bX12_camp_0 : qB 252 0 = kX12_camp_0 := rfl
theorem bX12_camp_17 : qB 252 17 = kX12_camp_17 := rfl
theorem bX12_camp_31 : qB 252 31 = kX12_camp_31 := rfl
theorem bX12_camp_50 : qB 252 50 = kX12_camp_50 := rfl
theorem bX12_camp_59 : qB 252 59 = kX12_camp_59 := rfl
theorem bX12_camp_88 : qB 252 88 = kX12_camp_88 := rfl
theorem bX12_camp_90 : qB 252 90 = kX12_camp_90 := rfl
theorem bX12_camp_117 : qB 252 117 = kX12_camp_117 := rfl
theorem bX12_cells_0 : qB 253 0 = kX12_cells_0 := rfl
theorem bX12_boyTo_0 : qB 254 0 = kX12_boyTo_0 := rfl
theorem bX12_test_0 : qB 255 0 = kX12_test_0 := rfl
theorem bX12_test_19 : qB 255 19 = kX12_test_19 := rfl
theorem bX12_test_48 : qB 255 48 = kX12_test_48 := rfl
theorem bX12_test_81 : qB 255 81 = kX12_test_81 := rfl
theorem bX12_test_113 : qB 255 113 = kX12_test_113 := rfl
theorem bX12_test_116 : qB 255 116 = kX12_test_116 := rfl
theorem bX12_weekOrder_0 : qB 256 0 = kX12_weekOrder_0 := rfl
theorem bX12_weekOrder_72 : qB 256 72 = kX12_weekOrder_72 := rfl
theorem bX12_weekOrder_83 : qB 256 83 = kX12_weekOrder_83 := rfl
theorem bX12_weekOrder_120 : qB 256 120 = kX12_weekOrder_120 := rfl
theorem bX12_weekOrder_121 : qB 256 121 = kX12_weekOrder_121 := rfl
theorem bX12_weekOrder_122 : qB 256 122 = kX12_weekOrder_122 := rfl
theorem bX12_weekOrder_130 : qB 256 130 = kX12_weekOrder_130 := rfl
theorem bX12_weekOrder_161 : qB 256 161 = kX12_weekOrder_161 := rfl
theorem bX12_weekOrder_162 : qB 256 162 = kX12_weekOrder_162 := rfl
theorem bX12_weekOrder_163 : qB 256 163 = kX12_weekOrder_163 := rfl
theorem bX12_weekOrder_174 : qB 256 174 = kX12_weekOrder_174 := rfl
theorem bX12_weekOrder_180 : qB 256 180 = kX12_weekOrder_180 := rfl
theorem bX12_weekStep_0 : qB 257 0 = kX12_weekStep_0 := rfl
theorem bX12_weekStep_37 : qB 257 37 = kX12_weekStep_37 := rfl
theorem bX12_weekStep_41 : qB 257 41 = kX12_weekStep_41 := rfl
theorem bX12_weekStep_42 : qB 257 42 = kX12_weekStep_42 := rfl
theorem bX12_weekStep_61 : qB 257 61 = kX12_weekStep_61 := rfl
theorem bX12_weekStep_74 : qB 257 74 = kX12_weekStep_74 := rfl
theorem bX12_weekStep_80 : qB 257 80 = kX12_weekStep_80 := rfl
theorem bX12_weekStep_102 : qB 257 102 = kX12_weekStep_102 := rfl
theorem bX12_weekStep_122 : qB 257 122 = kX12_weekStep_122 := rfl
theorem bX12_weekStep_137 : qB 257 137 = kX12_weekStep_137 := rfl
theorem bX12_weekStep_138 : qB 257 138 = kX12_weekStep_138 := rfl
theorem bX12_weekStep_152 : qB 257 152 = kX12_weekStep_152 := rfl
theorem bX12_weekStep_175 : qB 257 175 = kX12_weekStep_175 := rfl
theorem bX12_weekStep_202 : qB 257 202 = kX12_weekStep_202 := rfl
theorem bX12_weekStep_227 : qB 257 227 = kX12_weekStep_227 := rfl
theorem bX12_weekStep_284 : qB 257 284 = kX12_weekStep_284 := rfl
theorem bX12_weeks_0 : qB 258 0 = kX12_weeks_0 := rfl
theorem bX12_weeks_17 : qB 258 17 = kX12_weeks_17 := rfl
theorem bX12_weeks_38 : qB 258 38 = kX12_weeks_38 := rfl
theorem bX12_weeks_57 : qB 258 57 = kX12_weeks_57 := rfl
theorem bX12_weeks_77 : qB 258 77 = kX12_weeks_77 := rfl
theorem bX12_weeks_102 : qB 258 102 = kX12_weeks_102 := rfl
theorem bX12_weeks_131 : qB 258 131 = kX12_weeks_131 := rfl
theorem bX12_isBoy_0 : qB 259 0 = kX12_isBoy_0 := rfl
theorem bX12_isBoy_22 : qB 259 22 = kX12_isBoy_22 := rfl
theorem bX12_isBoy_23 : qB 259 23 = kX12_isBoy_23 := rfl
theorem bX12_isQuarrel_0 : qB 260 0 = kX12_isQuarrel_0 := rfl
theorem bX12_isQuarrel_18 : qB 260 18 = kX12_isQuarrel_18 := rfl
theorem bX12_isQuarrel_19 : qB 260 19 = kX12_isQuarrel_19 := rfl
theorem bX12_isCell_0 : qB 261 0 = kX12_isCell_0 := rfl
theorem bX12_isCell_16 : qB 261 16 = kX12_isCell_16 := rfl
theorem bX12_isCell_17 : qB 261 17 = kX12_isCell_17 := rfl
theorem bX12_isIn_0 : qB 262 0 = kX12_isIn_0 := rfl
theorem bX12_isIn_13 : qB 262 13 = kX12_isIn_13 := rfl
theorem bX12_isIn_14 : qB 262 14 = kX12_isIn_14 := rfl
theorem bX12_bits_0 : qB 263 0 = kX12_bits_0 := rfl
theorem bX12_bits_4 : qB 263 4 = kX12_bits_4 := rfl
theorem bX12_bits_20 : qB 263 20 = kX12_bits_20 := rfl
theorem bX12_boyOf_0 : qB 264 0 = kX12_boyOf_0 := rfl
theorem bX12_quarrelOf_0 : qB 265 0 = kX12_quarrelOf_0 := rfl
theorem bX12_isOpen_0 : qB 266 0 = kX12_isOpen_0 := rfl
theorem bX12_isOpen_13 : qB 266 13 = kX12_isOpen_13 := rfl
theorem bX12_isOpen_14 : qB 266 14 = kX12_isOpen_14 := rfl
theorem bX12_both_0 : qB 267 0 = kX12_both_0 := rfl
theorem bX12_openOnes_0 : qB 268 0 = kX12_openOnes_0 := rfl
theorem bX12_openOnes_4 : qB 268 4 = kX12_openOnes_4 := rfl
theorem bX12_openOnes_28 : qB 268 28 = kX12_openOnes_28 := rfl
theorem bX12_openOnes_34 : qB 268 34 = kX12_openOnes_34 := rfl
theorem bX12_openOf_0 : qB 269 0 = kX12_openOf_0 := rfl
theorem bX12_openOf_4 : qB 269 4 = kX12_openOf_4 := rfl
theorem bX12_openOf_41 : qB 269 41 = kX12_openOf_41 := rfl
theorem bX12_openOf_47 : qB 269 47 = kX12_openOf_47 := rfl
theorem bX12_areUp_0 : qB 270 0 = kX12_areUp_0 := rfl
theorem bX12_areUp_4 : qB 270 4 = kX12_areUp_4 := rfl
theorem bX12_areUp_28 : qB 270 28 = kX12_areUp_28 := rfl
theorem bX12_areUp_34 : qB 270 34 = kX12_areUp_34 := rfl
theorem bX12_off_0 : qB 271 0 = kX12_off_0 := rfl
theorem bX12_off_9 : qB 271 9 = kX12_off_9 := rfl
theorem bX12_off_10 : qB 271 10 = kX12_off_10 := rfl
theorem bX12_apartOf_0 : qB 272 0 = kX12_apartOf_0 := rfl
theorem bX12_nearOf_0 : qB 273 0 = kX12_nearOf_0 := rfl
theorem bX12_nearOf_4 : qB 273 4 = kX12_nearOf_4 := rfl
theorem bX12_nearOf_40 : qB 273 40 = kX12_nearOf_40 := rfl
theorem bX12_nearOf_46 : qB 273 46 = kX12_nearOf_46 := rfl
theorem bX12_dueOf_0 : qB 274 0 = kX12_dueOf_0 := rfl
theorem bX12_allGrudges_0 : qB 275 0 = kX12_allGrudges_0 := rfl
theorem bX12_allGrudges_4 : qB 275 4 = kX12_allGrudges_4 := rfl
theorem bX12_allGrudges_32 : qB 275 32 = kX12_allGrudges_32 := rfl
theorem bX12_allGrudges_33 : qB 275 33 = kX12_allGrudges_33 := rfl
theorem bX12_allGrudges_41 : qB 275 41 = kX12_allGrudges_41 := rfl
theorem bX12_told_0 : qB 276 0 = kX12_told_0 := rfl
theorem bX12_told_10 : qB 276 10 = kX12_told_10 := rfl
theorem bX12_told_16 : qB 276 16 = kX12_told_16 := rfl
theorem bX12_told_44 : qB 276 44 = kX12_told_44 := rfl
theorem bX12_told_53 : qB 276 53 = kX12_told_53 := rfl
theorem bX12_told_62 : qB 276 62 = kX12_told_62 := rfl
theorem bX12_told_71 : qB 276 71 = kX12_told_71 := rfl
theorem bX12_boy_0 : qB 277 0 = kX12_boy_0 := rfl
theorem bX12_boy_19 : qB 277 19 = kX12_boy_19 := rfl
theorem bX12_boy_25 : qB 277 25 = kX12_boy_25 := rfl
theorem bX12_boy_52 : qB 277 52 = kX12_boy_52 := rfl
theorem bX12_boy_65 : qB 277 65 = kX12_boy_65 := rfl
theorem bX12_boy_66 : qB 277 66 = kX12_boy_66 := rfl
theorem bX12_boy_70 : qB 277 70 = kX12_boy_70 := rfl
theorem bX12_boy_83 : qB 277 83 = kX12_boy_83 := rfl
theorem bX12_boy_94 : qB 277 94 = kX12_boy_94 := rfl
theorem bX12_quarrel_0 : qB 278 0 = kX12_quarrel_0 := rfl
theorem bX12_quarrel_17 : qB 278 17 = kX12_quarrel_17 := rfl
theorem bX12_quarrel_23 : qB 278 23 = kX12_quarrel_23 := rfl
theorem bX12_ends_0 : qB 279 0 = kX12_ends_0 := rfl
theorem bX12_ends_39 : qB 279 39 = kX12_ends_39 := rfl
theorem bX12_ends_66 : qB 279 66 = kX12_ends_66 := rfl
theorem bX12_minuteGoes_0 : qB 280 0 = kX12_minuteGoes_0 := rfl
theorem bX12_minuteGoes_14 : qB 280 14 = kX12_minuteGoes_14 := rfl
theorem bX12_minuteGoes_35 : qB 280 35 = kX12_minuteGoes_35 := rfl
theorem bX12_minuteGoes_72 : qB 280 72 = kX12_minuteGoes_72 := rfl
theorem bX12_minuteGoes_73 : qB 280 73 = kX12_minuteGoes_73 := rfl
theorem bX12_minuteGoes_95 : qB 280 95 = kX12_minuteGoes_95 := rfl
theorem bX12_minuteGoes_103 : qB 280 103 = kX12_minuteGoes_103 := rfl
theorem bX12_minuteGoes_122 : qB 280 122 = kX12_minuteGoes_122 := rfl
theorem bX12_minuteGoes_141 : qB 280 141 = kX12_minuteGoes_141 := rfl
theorem bX12_minuteGoes_151 : qB 280 151 = kX12_minuteGoes_151 := rfl
theorem bX12_minuteGoes_157 : qB 280 157 = kX12_minuteGoes_157 := rfl
theorem bX12_minutesGo_0 : qB 281 0 = kX12_minutesGo_0 := rfl
theorem bX12_minutesGo_4 : qB 281 4 = kX12_minutesGo_4 := rfl
theorem bX12_minutesGo_22 : qB 281 22 = kX12_minutesGo_22 := rfl
theorem bX12_minute_0 : qB 282 0 = kX12_minute_0 := rfl
theorem bX12_minute_18 : qB 282 18 = kX12_minute_18 := rfl
theorem bX12_minute_40 : qB 282 40 = kX12_minute_40 := rfl
theorem bX12_minute_49 : qB 282 49 = kX12_minute_49 := rfl
theorem bX12_dawns_0 : qB 283 0 = kX12_dawns_0 := rfl
theorem bX12_dawns_11 : qB 283 11 = kX12_dawns_11 := rfl
theorem bX12_dawns_27 : qB 283 27 = kX12_dawns_27 := rfl
theorem bX12_dawns_30 : qB 283 30 = kX12_dawns_30 := rfl
theorem bX12_dawns_66 : qB 283 66 = kX12_dawns_66 := rfl
theorem bX12_dawns_69 : qB 283 69 = kX12_dawns_69 := rfl
theorem bX12_dawns_75 : qB 283 75 = kX12_dawns_75 := rfl
theorem bX12_dawn_0 : qB 284 0 = kX12_dawn_0 := rfl
theorem bX12_boots_0 : qB 285 0 = kX12_boots_0 := rfl
theorem bX12_boots_20 : qB 285 20 = kX12_boots_20 := rfl
theorem bX12_boots_22 : qB 285 22 = kX12_boots_22 := rfl
theorem bX12_boot_0 : qB 286 0 = kX12_boot_0 := rfl
theorem bX12_boot_35 : qB 286 35 = kX12_boot_35 := rfl
theorem bX12_boot_41 : qB 286 41 = kX12_boot_41 := rfl
theorem bX12_boot_66 : qB 286 66 = kX12_boot_66 := rfl
theorem bX12_boot_71 : qB 286 71 = kX12_boot_71 := rfl
theorem bX12_forgives_0 : qB 287 0 = kX12_forgives_0 := rfl
theorem bX12_forgives_8 : qB 287 8 = kX12_forgives_8 := rfl
theorem bX12_forgives_43 : qB 287 43 = kX12_forgives_43 := rfl
theorem bX12_forgives_44 : qB 287 44 = kX12_forgives_44 := rfl
theorem bX12_forgives_47 : qB 287 47 = kX12_forgives_47 := rfl
theorem bX12_forgives_53 : qB 287 53 = kX12_forgives_53 := rfl
theorem bX12_forgive_0 : qB 288 0 = kX12_forgive_0 := rfl
theorem bX12_forgive_15 : qB 288 15 = kX12_forgive_15 := rfl
theorem bX12_forgive_34 : qB 288 34 = kX12_forgive_34 := rfl
theorem bX12_forgive_39 : qB 288 39 = kX12_forgive_39 := rfl
theorem bX12_pitches_0 : qB 289 0 = kX12_pitches_0 := rfl
theorem bX12_pitches_14 : qB 289 14 = kX12_pitches_14 := rfl
theorem bX12_pitches_15 : qB 289 15 = kX12_pitches_15 := rfl
theorem bX12_pitch_0 : qB 290 0 = kX12_pitch_0 := rfl
theorem bX12_pitch_17 : qB 290 17 = kX12_pitch_17 := rfl
theorem bX12_pitch_23 : qB 290 23 = kX12_pitch_23 := rfl
theorem bX12_pitch_47 : qB 290 47 = kX12_pitch_47 := rfl
theorem bX12_pitch_53 : qB 290 53 = kX12_pitch_53 := rfl
theorem bX12_teach_0 : qB 291 0 = kX12_teach_0 := rfl
theorem bX12_teach_19 : qB 291 19 = kX12_teach_19 := rfl
theorem bX12_teach_25 : qB 291 25 = kX12_teach_25 := rfl
theorem bX12_teach_36 : qB 291 36 = kX12_teach_36 := rfl
theorem bX12_teach_37 : qB 291 37 = kX12_teach_37 := rfl
theorem bX12_teach_48 : qB 291 48 = kX12_teach_48 := rfl
theorem bX12_teach_51 : qB 291 51 = kX12_teach_51 := rfl
theorem bX12_teach_63 : qB 291 63 = kX12_teach_63 := rfl
theorem bX12_stir_0 : qB 292 0 = kX12_stir_0 := rfl
theorem bX12_stir_20 : qB 292 20 = kX12_stir_20 := rfl
theorem bX12_stir_26 : qB 292 26 = kX12_stir_26 := rfl
theorem bX12_stir_41 : qB 292 41 = kX12_stir_41 := rfl
theorem bX12_come_0 : qB 293 0 = kX12_come_0 := rfl
theorem bX12_come_20 : qB 293 20 = kX12_come_20 := rfl
theorem bX12_come_26 : qB 293 26 = kX12_come_26 := rfl
theorem bX12_come_45 : qB 293 45 = kX12_come_45 := rfl
theorem bX12_rule_0 : qB 294 0 = kX12_rule_0 := rfl
theorem bX12_rule_18 : qB 294 18 = kX12_rule_18 := rfl
theorem bX12_far_0 : qB 295 0 = kX12_far_0 := rfl
theorem bX12_far_31 : qB 295 31 = kX12_far_31 := rfl
theorem bX12_far_36 : qB 295 36 = kX12_far_36 := rfl
theorem bX12_hears_0 : qB 296 0 = kX12_hears_0 := rfl
theorem bX12_hears_26 : qB 296 26 = kX12_hears_26 := rfl
theorem bX12_hears_31 : qB 296 31 = kX12_hears_31 := rfl
theorem bX12_near_0 : qB 297 0 = kX12_near_0 := rfl
theorem bX12_near_21 : qB 297 21 = kX12_near_21 := rfl
theorem bX12_near_26 : qB 297 26 = kX12_near_26 := rfl
theorem bX12_due_0 : qB 298 0 = kX12_due_0 := rfl
theorem bX12_due_17 : qB 298 17 = kX12_due_17 := rfl
theorem bX12_due_23 : qB 298 23 = kX12_due_23 := rfl
theorem bX12_due_43 : qB 298 43 = kX12_due_43 := rfl
theorem bX12_due_68 : qB 298 68 = kX12_due_68 := rfl
theorem bX12_due_74 : qB 298 74 = kX12_due_74 := rfl
theorem bX12_levelAt_0 : qB 299 0 = kX12_levelAt_0 := rfl
theorem bX12_keeps_0 : qB 300 0 = kX12_keeps_0 := rfl
theorem bX12_keeps_2 : qB 300 2 = kX12_keeps_2 := rfl
theorem bX12_keeps_28 : qB 300 28 = kX12_keeps_28 := rfl
theorem bX12_restores_0 : qB 301 0 = kX12_restores_0 := rfl
theorem bX12_restores_2 : qB 301 2 = kX12_restores_2 := rfl
theorem bX12_restores_28 : qB 301 28 = kX12_restores_28 := rfl
theorem bX12_everybody_0 : qB 302 0 = kX12_everybody_0 := rfl
theorem bX12_upOf_0 : qB 303 0 = kX12_upOf_0 := rfl
theorem bX12_upOf_2 : qB 303 2 = kX12_upOf_2 := rfl
theorem bX12_upOf_24 : qB 303 24 = kX12_upOf_24 := rfl
theorem bX12_breakfastNow_0 : qB 304 0 = kX12_breakfastNow_0 := rfl
theorem bX12_upIn_0 : qB 305 0 = kX12_upIn_0 := rfl
theorem bX12_upIn_15 : qB 305 15 = kX12_upIn_15 := rfl
theorem bX12_upBy_0 : qB 306 0 = kX12_upBy_0 := rfl
theorem bX12_upBy_18 : qB 306 18 = kX12_upBy_18 := rfl
theorem bX12_breakfast_0 : qB 307 0 = kX12_breakfast_0 := rfl
theorem bX12_overOf_0 : qB 308 0 = kX12_overOf_0 := rfl
theorem bX12_overOf_2 : qB 308 2 = kX12_overOf_2 := rfl
theorem bX12_overOf_21 : qB 308 21 = kX12_overOf_21 := rfl
theorem bX12_overIn_0 : qB 309 0 = kX12_overIn_0 := rfl
theorem bX12_overIn_14 : qB 309 14 = kX12_overIn_14 := rfl
theorem bX12_yielder_0 : qB 310 0 = kX12_yielder_0 := rfl
theorem bX12_yielder_14 : qB 310 14 = kX12_yielder_14 := rfl
theorem bX12_firstOf_0 : qB 311 0 = kX12_firstOf_0 := rfl
theorem bX12_firstOf_2 : qB 311 2 = kX12_firstOf_2 := rfl
theorem bX12_firstOf_16 : qB 311 16 = kX12_firstOf_16 := rfl
theorem bX12_reveille_0 : qB 312 0 = kX12_reveille_0 := rfl
theorem bX12_reveille_14 : qB 312 14 = kX12_reveille_14 := rfl
theorem bX12_reveille_26 : qB 312 26 = kX12_reveille_26 := rfl
theorem bX12_reveille_41 : qB 312 41 = kX12_reveille_41 := rfl
theorem bX12_laysUp_0 : qB 313 0 = kX12_laysUp_0 := rfl
theorem bX12_laysUp_11 : qB 313 11 = kX12_laysUp_11 := rfl
theorem bX12_laysUp_27 : qB 313 27 = kX12_laysUp_27 := rfl
theorem bX12_laysUp_60 : qB 313 60 = kX12_laysUp_60 := rfl
theorem bX12_laysUp_66 : qB 313 66 = kX12_laysUp_66 := rfl
theorem bX12_laysUp_81 : qB 313 81 = kX12_laysUp_81 := rfl
theorem bX12_last_0 : qB 314 0 = kX12_last_0 := rfl
theorem bX12_last_8 : qB 314 8 = kX12_last_8 := rfl
theorem bX12_last_38 : qB 314 38 = kX12_last_38 := rfl
theorem bX12_last_40 : qB 314 40 = kX12_last_40 := rfl
theorem bX12_last_46 : qB 314 46 = kX12_last_46 := rfl
theorem bX12_laysSoonest_0 : qB 315 0 = kX12_laysSoonest_0 := rfl
theorem bX12_laysSoonest_21 : qB 315 21 = kX12_laysSoonest_21 := rfl
theorem bX12_laysSoonest_40 : qB 315 40 = kX12_laysSoonest_40 := rfl
theorem bX12_laysSoonest_42 : qB 315 42 = kX12_laysSoonest_42 := rfl
theorem bX12_laysSoonest_67 : qB 315 67 = kX12_laysSoonest_67 := rfl
theorem bX12_laysSoonest_73 : qB 315 73 = kX12_laysSoonest_73 := rfl
theorem bX12_laysSoonest_96 : qB 315 96 = kX12_laysSoonest_96 := rfl
theorem bX12_laysSoonest_106 : qB 315 106 = kX12_laysSoonest_106 := rfl
theorem bX12_laysSoonest_112 : qB 315 112 = kX12_laysSoonest_112 := rfl
theorem bX12_soonest_0 : qB 316 0 = kX12_soonest_0 := rfl
theorem bX12_soonest_18 : qB 316 18 = kX12_soonest_18 := rfl
theorem bX12_soonestIn_0 : qB 317 0 = kX12_soonestIn_0 := rfl
theorem bX12_soonestIn_18 : qB 317 18 = kX12_soonestIn_18 := rfl
theorem bX12_soonestIn_40 : qB 317 40 = kX12_soonestIn_40 := rfl
theorem bX12_soonestIn_48 : qB 317 48 = kX12_soonestIn_48 := rfl
theorem bX12_laysBest_0 : qB 318 0 = kX12_laysBest_0 := rfl
theorem bX12_laysBest_16 : qB 318 16 = kX12_laysBest_16 := rfl
theorem bX12_laysBest_52 : qB 318 52 = kX12_laysBest_52 := rfl
theorem bX12_laysBest_63 : qB 318 63 = kX12_laysBest_63 := rfl
theorem bX12_laysBest_69 : qB 318 69 = kX12_laysBest_69 := rfl
theorem bX12_best_0 : qB 319 0 = kX12_best_0 := rfl
theorem bX12_best_15 : qB 319 15 = kX12_best_15 := rfl
theorem bX12_bestIn_0 : qB 320 0 = kX12_bestIn_0 := rfl
theorem bX12_bestIn_15 : qB 320 15 = kX12_bestIn_15 := rfl
theorem bX12_endsAll_0 : qB 321 0 = kX12_endsAll_0 := rfl
theorem bX12_endsAll_2 : qB 321 2 = kX12_endsAll_2 := rfl
theorem bX12_endsAll_32 : qB 321 32 = kX12_endsAll_32 := rfl
theorem bX12_endsAll_38 : qB 321 38 = kX12_endsAll_38 := rfl
theorem bX12_endingOf_0 : qB 322 0 = kX12_endingOf_0 := rfl
theorem bX12_endingOf_7 : qB 322 7 = kX12_endingOf_7 := rfl
theorem bX12_endingOf_36 : qB 322 36 = kX12_endingOf_36 := rfl
theorem bX12_endingOf_42 : qB 322 42 = kX12_endingOf_42 := rfl
theorem bX12_ending_0 : qB 323 0 = kX12_ending_0 := rfl
theorem bX12_ending_12 : qB 323 12 = kX12_ending_12 := rfl
theorem bX12_ending_19 : qB 323 19 = kX12_ending_19 := rfl
theorem bX12_endingSet_0 : qB 324 0 = kX12_endingSet_0 := rfl
theorem bX12_endingSet_12 : qB 324 12 = kX12_endingSet_12 := rfl
theorem bX12_endingSet_16 : qB 324 16 = kX12_endingSet_16 := rfl
theorem bX12_apartOnes_0 : qB 325 0 = kX12_apartOnes_0 := rfl
theorem bX12_apartOnes_4 : qB 325 4 = kX12_apartOnes_4 := rfl
theorem bX12_apartOnes_41 : qB 325 41 = kX12_apartOnes_41 := rfl
theorem bX12_apartOnes_46 : qB 325 46 = kX12_apartOnes_46 := rfl
theorem bX12_apartOnes_76 : qB 325 76 = kX12_apartOnes_76 := rfl
theorem bX12_apartOnes_82 : qB 325 82 = kX12_apartOnes_82 := rfl
theorem bX12_apartOnes_97 : qB 325 97 = kX12_apartOnes_97 := rfl
theorem bX12_apartOnes_103 : qB 325 103 = kX12_apartOnes_103 := rfl
theorem bX12_apart_0 : qB 326 0 = kX12_apart_0 := rfl
theorem bX12_apartSet_0 : qB 327 0 = kX12_apartSet_0 := rfl
theorem bX12_circleOf_0 : qB 328 0 = kX12_circleOf_0 := rfl
theorem bX12_circleOf_6 : qB 328 6 = kX12_circleOf_6 := rfl
theorem bX12_circleOf_15 : qB 328 15 = kX12_circleOf_15 := rfl
theorem bX12_circleOf_55 : qB 328 55 = kX12_circleOf_55 := rfl
theorem bX12_circleOf_61 : qB 328 61 = kX12_circleOf_61 := rfl
theorem bX12_circleOf_67 : qB 328 67 = kX12_circleOf_67 := rfl
theorem bX12_circle_0 : qB 329 0 = kX12_circle_0 := rfl
theorem bX12_circle_21 : qB 329 21 = kX12_circle_21 := rfl
theorem bX12_circle_26 : qB 329 26 = kX12_circle_26 := rfl
theorem bX12_circles_0 : qB 330 0 = kX12_circles_0 := rfl
theorem bX12_circles_4 : qB 330 4 = kX12_circles_4 := rfl
theorem bX12_circles_31 : qB 330 31 = kX12_circles_31 := rfl
theorem bX12_circles_32 : qB 330 32 = kX12_circles_32 := rfl
theorem bX12_circles_40 : qB 330 40 = kX12_circles_40 := rfl
theorem bX12_isSide_0 : qB 331 0 = kX12_isSide_0 := rfl
theorem bX12_isSide_2 : qB 331 2 = kX12_isSide_2 := rfl
theorem bX12_isSide_36 : qB 331 36 = kX12_isSide_36 := rfl
theorem bX12_isSide_42 : qB 331 42 = kX12_isSide_42 := rfl
theorem bX12_sides_0 : qB 332 0 = kX12_sides_0 := rfl
theorem bX12_sides_2 : qB 332 2 = kX12_sides_2 := rfl
theorem bX12_sides_24 : qB 332 24 = kX12_sides_24 := rfl
theorem bX12_sides_30 : qB 332 30 = kX12_sides_30 := rfl
theorem bX12_wrongSeen_0 : qB 333 0 = kX12_wrongSeen_0 := rfl
theorem bX12_wrongSeen_28 : qB 333 28 = kX12_wrongSeen_28 := rfl
theorem bX12_wrongSeen_30 : qB 333 30 = kX12_wrongSeen_30 := rfl
theorem bX12_wrongSeen_42 : qB 333 42 = kX12_wrongSeen_42 := rfl
theorem bX12_wrongSeen_56 : qB 333 56 = kX12_wrongSeen_56 := rfl
theorem bX12_wrongSeen_59 : qB 333 59 = kX12_wrongSeen_59 := rfl
theorem bX12_wrongSeen_109 : qB 333 109 = kX12_wrongSeen_109 := rfl
theorem bX12_wrongSeen_111 : qB 333 111 = kX12_wrongSeen_111 := rfl
theorem bX12_wrongSeen_117 : qB 333 117 = kX12_wrongSeen_117 := rfl
theorem bX12_isSeen_0 : qB 334 0 = kX12_isSeen_0 := rfl
theorem bX12_isSeen_3 : qB 334 3 = kX12_isSeen_3 := rfl
theorem bX12_isSeen_54 : qB 334 54 = kX12_isSeen_54 := rfl
theorem bX12_isSeen_60 : qB 334 60 = kX12_isSeen_60 := rfl
theorem bX12_laysFits_0 : qB 335 0 = kX12_laysFits_0 := rfl
theorem bX12_laysFits_16 : qB 335 16 = kX12_laysFits_16 := rfl
theorem bX12_laysFits_43 : qB 335 43 = kX12_laysFits_43 := rfl
theorem bX12_laysFits_80 : qB 335 80 = kX12_laysFits_80 := rfl
theorem bX12_laysFits_114 : qB 335 114 = kX12_laysFits_114 := rfl
theorem bX12_laysFits_115 : qB 335 115 = kX12_laysFits_115 := rfl
theorem bX12_laysFits_125 : qB 335 125 = kX12_laysFits_125 := rfl
theorem bX12_fits_0 : qB 336 0 = kX12_fits_0 := rfl
theorem bX12_fits_21 : qB 336 21 = kX12_fits_21 := rfl
theorem bX12_fitsAt_0 : qB 337 0 = kX12_fitsAt_0 := rfl
theorem bX12_fitsAt_11 : qB 337 11 = kX12_fitsAt_11 := rfl
theorem bX12_fitsAt_15 : qB 337 15 = kX12_fitsAt_15 := rfl
theorem bX12_fitsAt_22 : qB 337 22 = kX12_fitsAt_22 := rfl
theorem bX12_fitsAt_36 : qB 337 36 = kX12_fitsAt_36 := rfl
theorem bX12_fitsAt_57 : qB 337 57 = kX12_fitsAt_57 := rfl
theorem bX12_fitsAt_66 : qB 337 66 = kX12_fitsAt_66 := rfl
theorem bX12_fitsAt_68 : qB 337 68 = kX12_fitsAt_68 := rfl
theorem bX12_fitsAt_70 : qB 337 70 = kX12_fitsAt_70 := rfl
theorem bX12_fitsAt_91 : qB 337 91 = kX12_fitsAt_91 := rfl
theorem bX12_fitsAt_92 : qB 337 92 = kX12_fitsAt_92 := rfl
theorem bX12_fitsAt_98 : qB 337 98 = kX12_fitsAt_98 := rfl
theorem bX12_mostAlike_0 : qB 338 0 = kX12_mostAlike_0 := rfl
theorem bX12_mostAlike_4 : qB 338 4 = kX12_mostAlike_4 := rfl
theorem bX12_mostAlike_16 : qB 338 16 = kX12_mostAlike_16 := rfl
theorem bX12_mostAlike_74 : qB 338 74 = kX12_mostAlike_74 := rfl
theorem bX12_mostAlike_75 : qB 338 75 = kX12_mostAlike_75 := rfl
theorem bX12_mostAlike_84 : qB 338 84 = kX12_mostAlike_84 := rfl
theorem bX12_mostAlike_97 : qB 338 97 = kX12_mostAlike_97 := rfl
theorem bX12_ask_0 : qB 339 0 = kX12_ask_0 := rfl
theorem bX12_ask_21 : qB 339 21 = kX12_ask_21 := rfl
theorem bX12_ask_43 : qB 339 43 = kX12_ask_43 := rfl
theorem bX12_ask_49 : qB 339 49 = kX12_ask_49 := rfl
theorem bX12_ask_79 : qB 339 79 = kX12_ask_79 := rfl
theorem bX12_ask_85 : qB 339 85 = kX12_ask_85 := rfl
theorem bX12_haveOf_0 : qB 340 0 = kX12_haveOf_0 := rfl
theorem bX12_haveOf_11 : qB 340 11 = kX12_haveOf_11 := rfl
theorem bX12_haveOf_13 : qB 340 13 = kX12_haveOf_13 := rfl
theorem bX12_isRest_0 : qB 341 0 = kX12_isRest_0 := rfl
theorem bX12_isRest_3 : qB 341 3 = kX12_isRest_3 := rfl
theorem bX12_isRest_41 : qB 341 41 = kX12_isRest_41 := rfl
theorem bX12_isRest_43 : qB 341 43 = kX12_isRest_43 := rfl
theorem bX12_isRest_49 : qB 341 49 = kX12_isRest_49 := rfl
theorem bX12_restOf_0 : qB 342 0 = kX12_restOf_0 := rfl
theorem bX12_restOf_6 : qB 342 6 = kX12_restOf_6 := rfl
theorem bX12_restOf_15 : qB 342 15 = kX12_restOf_15 := rfl
theorem bX12_restOf_41 : qB 342 41 = kX12_restOf_41 := rfl
theorem bX12_restOf_55 : qB 342 55 = kX12_restOf_55 := rfl
theorem bX12_restOf_58 : qB 342 58 = kX12_restOf_58 := rfl
theorem bX12_restOf_64 : qB 342 64 = kX12_restOf_64 := rfl
theorem bX12_restOf_70 : qB 342 70 = kX12_restOf_70 := rfl
theorem bX12_rests_0 : qB 343 0 = kX12_rests_0 := rfl
theorem bX12_rests_20 : qB 343 20 = kX12_rests_20 := rfl
theorem bX12_rests_26 : qB 343 26 = kX12_rests_26 := rfl
theorem bX12_rests_31 : qB 343 31 = kX12_rests_31 := rfl
theorem bX12_rests_40 : qB 343 40 = kX12_rests_40 := rfl
theorem bX12_rests_68 : qB 343 68 = kX12_rests_68 := rfl
theorem bX12_rests_69 : qB 343 69 = kX12_rests_69 := rfl
theorem bX12_rests_77 : qB 343 77 = kX12_rests_77 := rfl
theorem bX12_rests_83 : qB 343 83 = kX12_rests_83 := rfl
theorem bX12_restAt_0 : qB 344 0 = kX12_restAt_0 := rfl
theorem bX12_restAt_35 : qB 344 35 = kX12_restAt_35 := rfl
theorem bX12_restAt_41 : qB 344 41 = kX12_restAt_41 := rfl
theorem bX12_restAt_63 : qB 344 63 = kX12_restAt_63 := rfl
theorem bX12_restAt_77 : qB 344 77 = kX12_restAt_77 := rfl
theorem bX12_restAt_82 : qB 344 82 = kX12_restAt_82 := rfl
theorem bX12_settles_0 : qB 345 0 = kX12_settles_0 := rfl
theorem bX12_settles_14 : qB 345 14 = kX12_settles_14 := rfl
theorem bX12_settles_15 : qB 345 15 = kX12_settles_15 := rfl
theorem bX12_settles_39 : qB 345 39 = kX12_settles_39 := rfl
theorem bX12_settles_49 : qB 345 49 = kX12_settles_49 := rfl
theorem bX12_settles_50 : qB 345 50 = kX12_settles_50 := rfl
theorem bX12_doesDeed_0 : qB 346 0 = kX12_doesDeed_0 := rfl
theorem bX12_doesDeed_12 : qB 346 12 = kX12_doesDeed_12 := rfl
theorem bX12_doesDeed_22 : qB 346 22 = kX12_doesDeed_22 := rfl
theorem bX12_doesDeed_41 : qB 346 41 = kX12_doesDeed_41 := rfl
theorem bX12_doesDeed_66 : qB 346 66 = kX12_doesDeed_66 := rfl
theorem bX12_playing_0 : qB 347 0 = kX12_playing_0 := rfl
theorem bX12_playing_9 : qB 347 9 = kX12_playing_9 := rfl
theorem bX12_playing_33 : qB 347 33 = kX12_playing_33 := rfl
theorem bX12_playing_73 : qB 347 73 = kX12_playing_73 := rfl
theorem bX12_playing_92 : qB 347 92 = kX12_playing_92 := rfl
theorem bX12_playing_109 : qB 347 109 = kX12_playing_109 := rfl
theorem bX12_playing_110 : qB 347 110 = kX12_playing_110 := rfl
theorem bX12_playing_119 : qB 347 119 = kX12_playing_119 := rfl
theorem bX12_playing_138 : qB 347 138 = kX12_playing_138 := rfl
theorem bX12_playing_166 : qB 347 166 = kX12_playing_166 := rfl
theorem bX12_game_0 : qB 348 0 = kX12_game_0 := rfl
theorem bX12_game_24 : qB 348 24 = kX12_game_24 := rfl
theorem bX12_game_29 : qB 348 29 = kX12_game_29 := rfl
theorem bX12_moveOf_0 : qB 349 0 = kX12_moveOf_0 := rfl
theorem bX12_moveOf_18 : qB 349 18 = kX12_moveOf_18 := rfl
theorem bX12_moveOf_48 : qB 349 48 = kX12_moveOf_48 := rfl
theorem bX12_moveOf_58 : qB 349 58 = kX12_moveOf_58 := rfl
theorem bX12_night_0 : qB 350 0 = kX12_night_0 := rfl
theorem bX12_night_18 : qB 350 18 = kX12_night_18 := rfl
theorem bX12_night_23 : qB 350 23 = kX12_night_23 := rfl
theorem bX12_night_45 : qB 350 45 = kX12_night_45 := rfl
theorem bX12_night_46 : qB 350 46 = kX12_night_46 := rfl
theorem bX12_night_53 : qB 350 53 = kX12_night_53 := rfl
theorem bX12_night_56 : qB 350 56 = kX12_night_56 := rfl
theorem bX12_night_79 : qB 350 79 = kX12_night_79 := rfl
theorem bX12_night_83 : qB 350 83 = kX12_night_83 := rfl
theorem bX12_night_118 : qB 350 118 = kX12_night_118 := rfl
theorem bX12_night_138 : qB 350 138 = kX12_night_138 := rfl
theorem bX12_night_146 : qB 350 146 = kX12_night_146 := rfl
theorem bX12_night_152 : qB 350 152 = kX12_night_152 := rfl
theorem bX12_night_158 : qB 350 158 = kX12_night_158 := rfl
theorem bX12_night_164 : qB 350 164 = kX12_night_164 := rfl
theorem bX12_night_188 : qB 350 188 = kX12_night_188 := rfl
theorem bX12_wakes_0 : qB 351 0 = kX12_wakes_0 := rfl
theorem bX12_wakes_15 : qB 351 15 = kX12_wakes_15 := rfl
theorem bX12_wakes_30 : qB 351 30 = kX12_wakes_30 := rfl
theorem bX12_wakes_59 : qB 351 59 = kX12_wakes_59 := rfl
theorem bX12_copyYields_0 : qB 352 0 = kX12_copyYields_0 := rfl
theorem bX12_copyYields_13 : qB 352 13 = kX12_copyYields_13 := rfl
theorem bX12_copyYields_29 : qB 352 29 = kX12_copyYields_29 := rfl
theorem bX12_copyYields_50 : qB 352 50 = kX12_copyYields_50 := rfl
theorem bX12_copyYields_52 : qB 352 52 = kX12_copyYields_52 := rfl
theorem bX12_copyYields_95 : qB 352 95 = kX12_copyYields_95 := rfl
theorem bX12_draw_0 : qB 353 0 = kX12_draw_0 := rfl
theorem bX12_minutesBy_0 : qB 354 0 = kX12_minutesBy_0 := rfl
theorem bX12_minutesBy_16 : qB 354 16 = kX12_minutesBy_16 := rfl
theorem bX12_dawnsBy_0 : qB 355 0 = kX12_dawnsBy_0 := rfl
theorem bX12_dawnsBy_25 : qB 355 25 = kX12_dawnsBy_25 := rfl
theorem bX12_dawnsBy_29 : qB 355 29 = kX12_dawnsBy_29 := rfl
theorem bX12_dawnsBy_30 : qB 355 30 = kX12_dawnsBy_30 := rfl
theorem bX12_bootsBy_0 : qB 356 0 = kX12_bootsBy_0 := rfl
theorem bX12_bootsBy_12 : qB 356 12 = kX12_bootsBy_12 := rfl
theorem bX12_bootsAny_0 : qB 357 0 = kX12_bootsAny_0 := rfl
theorem bX12_bootsAny_11 : qB 357 11 = kX12_bootsAny_11 := rfl
theorem bX12_does_0 : qB 358 0 = kX12_does_0 := rfl
theorem bX12_does_88 : qB 358 88 = kX12_does_88 := rfl
theorem bX12_does_94 : qB 358 94 = kX12_does_94 := rfl
theorem bX12_does_99 : qB 358 99 = kX12_does_99 := rfl
theorem bX12_does_114 : qB 358 114 = kX12_does_114 := rfl
theorem bX12_does_126 : qB 358 126 = kX12_does_126 := rfl
theorem bX12_does_127 : qB 358 127 = kX12_does_127 := rfl
theorem bX12_does_128 : qB 358 128 = kX12_does_128 := rfl
theorem bX12_does_135 : qB 358 135 = kX12_does_135 := rfl
theorem bX12_does_140 : qB 358 140 = kX12_does_140 := rfl
theorem bX12_holds_0 : qB 359 0 = kX12_holds_0 := rfl
theorem bX12_holds_36 : qB 359 36 = kX12_holds_36 := rfl
theorem bX12_holds_37 : qB 359 37 = kX12_holds_37 := rfl
theorem bX12_holds_38 : qB 359 38 = kX12_holds_38 := rfl
theorem bX12_holds_54 : qB 359 54 = kX12_holds_54 := rfl
theorem bX12_holds_60 : qB 359 60 = kX12_holds_60 := rfl
theorem bX12_holds_90 : qB 359 90 = kX12_holds_90 := rfl
theorem bX12_holds_94 : qB 359 94 = kX12_holds_94 := rfl
theorem bX12_holds_123 : qB 359 123 = kX12_holds_123 := rfl
theorem bX12_holds_127 : qB 359 127 = kX12_holds_127 := rfl
theorem bX12_holds_143 : qB 359 143 = kX12_holds_143 := rfl
theorem bX12_holds_144 : qB 359 144 = kX12_holds_144 := rfl
theorem bX12_behindEnds_0 : qB 360 0 = kX12_behindEnds_0 := rfl
theorem bX12_behindEnds_2 : qB 360 2 = kX12_behindEnds_2 := rfl
theorem bX12_behindEnds_75 : qB 360 75 = kX12_behindEnds_75 := rfl
theorem bX12_behindEnds_76 : qB 360 76 = kX12_behindEnds_76 := rfl
theorem bX12_behindEnds_94 : qB 360 94 = kX12_behindEnds_94 := rfl
theorem bX12_behindEnds_95 : qB 360 95 = kX12_behindEnds_95 := rfl
theorem bX12_behindEnds_108 : qB 360 108 = kX12_behindEnds_108 := rfl
theorem bX12_behindEnds_111 : qB 360 111 = kX12_behindEnds_111 := rfl
theorem bX12_behindEnds_115 : qB 360 115 = kX12_behindEnds_115 := rfl
theorem bX12_lives_0 : qB 361 0 = kX12_lives_0 := rfl
theorem bX12_lives_12 : qB 361 12 = kX12_lives_12 := rfl
theorem bX12_lives_30 : qB 361 30 = kX12_lives_30 := rfl
theorem bX12_lives_32 : qB 361 32 = kX12_lives_32 := rfl
theorem bX12_lives_61 : qB 361 61 = kX12_lives_61 := rfl
theorem bX12_lives_91 : qB 361 91 = kX12_lives_91 := rfl
theorem bX12_lives_110 : qB 361 110 = kX12_lives_110 := rfl
theorem bX12_lives_111 : qB 361 111 = kX12_lives_111 := rfl
theorem bX12_lives_140 : qB 361 140 = kX12_lives_140 := rfl
theorem bX12_lives_174 : qB 361 174 = kX12_lives_174 := rfl
theorem bX12_lives_177 : qB 361 177 = kX12_lives_177 := rfl
theorem bX12_lives_184 : qB 361 184 = kX12_lives_184 := rfl
theorem bX12_live_0 : qB 362 0 = kX12_live_0 := rfl
theorem bX12_live_18 : qB 362 18 = kX12_live_18 := rfl
theorem bX12_live_36 : qB 362 36 = kX12_live_36 := rfl
theorem bX12_live_43 : qB 362 43 = kX12_live_43 := rfl
theorem bX12_live_66 : qB 362 66 = kX12_live_66 := rfl
theorem bX12_lived_0 : qB 363 0 = kX12_lived_0 := rfl
theorem bX12_lived_9 : qB 363 9 = kX12_lived_9 := rfl
theorem bX12_lived_17 : qB 363 17 = kX12_lived_17 := rfl
theorem bX12_lived_37 : qB 363 37 = kX12_lived_37 := rfl
theorem bX12_lived_43 : qB 363 43 = kX12_lived_43 := rfl
theorem bX12_mean_0 : qB 364 0 = kX12_mean_0 := rfl
theorem bX12_mean_35 : qB 364 35 = kX12_mean_35 := rfl
theorem bX12_mean_41 : qB 364 41 = kX12_mean_41 := rfl
theorem bX12_mean_59 : qB 364 59 = kX12_mean_59 := rfl
theorem bX12_mean_71 : qB 364 71 = kX12_mean_71 := rfl
theorem bX12_mean_109 : qB 364 109 = kX12_mean_109 := rfl
theorem bX12_copies_0 : qB 365 0 = kX12_copies_0 := rfl
theorem bX12_copies_2 : qB 365 2 = kX12_copies_2 := rfl
theorem bX12_copies_39 : qB 365 39 = kX12_copies_39 := rfl
theorem bX12_copies_41 : qB 365 41 = kX12_copies_41 := rfl
theorem bX12_copies_75 : qB 365 75 = kX12_copies_75 := rfl
theorem bX12_mark_0 : qB 366 0 = kX12_mark_0 := rfl
theorem bX12_mark_14 : qB 366 14 = kX12_mark_14 := rfl
theorem bX12_undo_0 : qB 367 0 = kX12_undo_0 := rfl
theorem bX12_undo_14 : qB 367 14 = kX12_undo_14 := rfl
theorem bJ6_bitCount_0f7a4_0 : qB 368 0 = kJ6_bitCount_0f7a4_0 := rfl
end
section
/-! the cells, in the order in which the two constructors make them: kind (0 int, 1 long, 2 byte, 3 boolean, 4 and 5 arrays of objects; 10 and more: an object of class k - 10) and length; where references lead -/
def qKL : List (Nat × Nat) := [(21, 20), (11, 17), (1, 8), (0, 8), (0, 8), (0, 8), (0, 8), (0, 8), (0, 8), (0, 10), (0, 10), (0, 10), (0, 10), (11, 17), (1, 8), (0, 8), (0, 8), (0, 8), (0, 8), (0, 8), (0, 8), (0, 10), (0, 10), (0, 10), (0, 10), (10, 4), (11, 17), (1, 8), (0, 8), (0, 8), (0, 8), (0, 8), (0, 8), (0, 8), (0, 10), (0, 10), (0, 10), (0, 10), (0, 8), (0, 10), (16, 3), (13, 6), (0, 20), (0, 20), (0, 248), (14, 2), (18, 3), (0, 4), (0, 4), (1, 240), (17, 14), (2, 900), (1, 22), (12, 4), (11, 17), (1, 8), (0, 8), (0, 8), (0, 8), (0, 8), (0, 8), (0, 8), (0, 10), (0, 10), (0, 10), (0, 10), (20, 4), (19, 8), (0, 60), (0, 60), (0, 60), (0, 60), (0, 60), (0, 3), (19, 8), (0, 60), (0, 60), (0, 60), (0, 60), (0, 60), (15, 8), (0, 60), (0, 5), (4, 3), (5, 3), (11, 17), (1, 8), (0, 8), (0, 8), (0, 8), (0, 8), (0, 8), (0, 8), (0, 10), (0, 10), (0, 10), (0, 10), (19, 8), (0, 60), (0, 60), (0, 60), (0, 60), (0, 60), (11, 17), (1, 8), (0, 8), (0, 8), (0, 8), (0, 8), (0, 8), (0, 8), (0, 10), (0, 10), (0, 10), (0, 10), (19, 8), (0, 60), (0, 60), (0, 60), (0, 60), (0, 60), (11, 17), (1, 8), (0, 8), (0, 8), (0, 8), (0, 8), (0, 8), (0, 8), (0, 10), (0, 10), (0, 10), (0, 10), (19, 8), (0, 60), (0, 60), (0, 60), (0, 60), (0, 60), (22, 44), (0, 3088), (1, 48), (0, 4), (0, 4), (1, 240), (2, 900), (2, 900), (0, 3), (0, 8), (0, 248), (3, 31), (0, 4), (0, 4), (0, 4), (1, 11), (0, 80), (0, 5), (0, 5)]
def qKd (k : Nat) : Nat × Nat := qKL.getD k (0, 0)
def qRL : List (List (Option Nat)) := [[some 1, some 13, some 25, some 40, some 41, some 45, some 46, some 50, some 53, some 66, some 74, some 80, some 82, none, some 83, some 84, none, none, none, none], [none, none, none, none, none, none, some 2, some 3, some 4, some 5, some 6, some 7, some 8, some 9, some 10, some 11, some 12], [], [], [], [], [], [], [], [], [], [], [], [none, none, none, none, none, none, some 14, some 15, some 16, some 17, some 18, some 19, some 20, some 21, some 22, some 23, some 24], [], [], [], [], [], [], [], [], [], [], [], [some 26, some 38, some 39, none], [none, none, none, none, none, none, some 27, some 28, some 29, some 30, some 31, some 32, some 33, some 34, some 35, some 36, some 37], [], [], [], [], [], [], [], [], [], [], [], [], [], [some 13, some 25, none], [some 13, some 25, some 42, some 43, none, some 44], [], [], [], [some 13, some 25], [some 47, some 48, some 49], [], [], [], [some 51, none, none, none, none, none, none, none, none, none, none, none, none, some 52], [], [], [some 50, some 54, none, none], [none, none, none, none, none, none, some 55, some 56, some 57, some 58, some 59, some 60, some 61, some 62, some 63, some 64, some 65], [], [], [], [], [], [], [], [], [], [], [], [some 50, some 67, some 73, none], [none, none, none, some 68, some 69, some 70, some 71, some 72], [], [], [], [], [], [], [none, none, none, some 75, some 76, some 77, some 78, some 79], [], [], [], [], [], [none, none, none, none, none, none, none, some 81], [], [], [some 85, some 103, some 121], [some 97, some 115, some 133], [none, none, none, none, none, none, some 86, some 87, some 88, some 89, some 90, some 91, some 92, some 93, some 94, some 95, some 96], [], [], [], [], [], [], [], [], [], [], [], [none, none, none, some 98, some 99, some 100, some 101, some 102], [], [], [], [], [], [none, none, none, none, none, none, some 104, some 105, some 106, some 107, some 108, some 109, some 110, some 111, some 112, some 113, some 114], [], [], [], [], [], [], [], [], [], [], [], [none, none, none, some 116, some 117, some 118, some 119, some 120], [], [], [], [], [], [none, none, none, none, none, none, some 122, some 123, some 124, some 125, some 126, some 127, some 128, some 129, some 130, some 131, some 132], [], [], [], [], [], [], [], [], [], [], [], [none, none, none, some 134, some 135, some 136, some 137, some 138], [], [], [], [], [], [some 140, some 141, none, none, none, some 142, some 143, some 144, some 145, some 146, none, none, none, none, none, none, none, none, none, none, none, some 147, none, none, none, some 148, none, none, none, none, some 149, some 150, none, some 151, some 152, some 153, some 154, none, none, some 155, some 156, some 157, none, none], [], [], [], [], [], [], [], [], [], [], [], [], [], [], [], [], [], []]
def qRf (k j : Nat) : Option Nat := ((qRL.getD k []).getD j none)
theorem qK_0 : qKd 0 = (21, 20) := rfl
theorem qK_1 : qKd 1 = (11, 17) := rfl
theorem qK_2 : qKd 2 = (1, 8) := rfl
theorem qK_3 : qKd 3 = (0, 8) := rfl
theorem qK_4 : qKd 4 = (0, 8) := rfl
theorem qK_5 : qKd 5 = (0, 8) := rfl
theorem qK_6 : qKd 6 = (0, 8) := rfl
theorem qK_7 : qKd 7 = (0, 8) := rfl
theorem qK_8 : qKd 8 = (0, 8) := rfl
theorem qK_9 : qKd 9 = (0, 10) := rfl
theorem qK_10 : qKd 10 = (0, 10) := rfl
theorem qK_11 : qKd 11 = (0, 10) := rfl
theorem qK_12 : qKd 12 = (0, 10) := rfl
theorem qK_13 : qKd 13 = (11, 17) := rfl
theorem qK_14 : qKd 14 = (1, 8) := rfl
theorem qK_15 : qKd 15 = (0, 8) := rfl
theorem qK_16 : qKd 16 = (0, 8) := rfl
theorem qK_17 : qKd 17 = (0, 8) := rfl
theorem qK_18 : qKd 18 = (0, 8) := rfl
theorem qK_19 : qKd 19 = (0, 8) := rfl
theorem qK_20 : qKd 20 = (0, 8) := rfl
theorem qK_21 : qKd 21 = (0, 10) := rfl
theorem qK_22 : qKd 22 = (0, 10) := rfl
theorem qK_23 : qKd 23 = (0, 10) := rfl
theorem qK_24 : qKd 24 = (0, 10) := rfl
theorem qK_25 : qKd 25 = (10, 4) := rfl
theorem qK_26 : qKd 26 = (11, 17) := rfl
theorem qK_27 : qKd 27 = (1, 8) := rfl
theorem qK_28 : qKd 28 = (0, 8) := rfl
theorem qK_29 : qKd 29 = (0, 8) := rfl
theorem qK_30 : qKd 30 = (0, 8) := rfl
theorem qK_31 : qKd 31 = (0, 8) := rfl
theorem qK_32 : qKd 32 = (0, 8) := rfl
theorem qK_33 : qKd 33 = (0, 8) := rfl
theorem qK_34 : qKd 34 = (0, 10) := rfl
theorem qK_35 : qKd 35 = (0, 10) := rfl
theorem qK_36 : qKd 36 = (0, 10) := rfl
theorem qK_37 : qKd 37 = (0, 10) := rfl
theorem qK_38 : qKd 38 = (0, 8) := rfl
theorem qK_39 : qKd 39 = (0, 10) := rfl
theorem qK_40 : qKd 40 = (16, 3) := rfl
theorem qK_41 : qKd 41 = (13, 6) := rfl
theorem qK_42 : qKd 42 = (0, 20) := rfl
theorem qK_43 : qKd 43 = (0, 20) := rfl
theorem qK_44 : qKd 44 = (0, 248) := rfl
theorem qK_45 : qKd 45 = (14, 2) := rfl
theorem qK_46 : qKd 46 = (18, 3) := rfl
theorem qK_47 : qKd 47 = (0, 4) := rfl
theorem qK_48 : qKd 48 = (0, 4) := rfl
theorem qK_49 : qKd 49 = (1, 240) := rfl
theorem qK_50 : qKd 50 = (17, 14) := rfl
theorem qK_51 : qKd 51 = (2, 900) := rfl
theorem qK_52 : qKd 52 = (1, 22) := rfl
theorem qK_53 : qKd 53 = (12, 4) := rfl
theorem qK_54 : qKd 54 = (11, 17) := rfl
theorem qK_55 : qKd 55 = (1, 8) := rfl
theorem qK_56 : qKd 56 = (0, 8) := rfl
theorem qK_57 : qKd 57 = (0, 8) := rfl
theorem qK_58 : qKd 58 = (0, 8) := rfl
theorem qK_59 : qKd 59 = (0, 8) := rfl
theorem qK_60 : qKd 60 = (0, 8) := rfl
theorem qK_61 : qKd 61 = (0, 8) := rfl
theorem qK_62 : qKd 62 = (0, 10) := rfl
theorem qK_63 : qKd 63 = (0, 10) := rfl
theorem qK_64 : qKd 64 = (0, 10) := rfl
theorem qK_65 : qKd 65 = (0, 10) := rfl
theorem qK_66 : qKd 66 = (20, 4) := rfl
theorem qK_67 : qKd 67 = (19, 8) := rfl
theorem qK_68 : qKd 68 = (0, 60) := rfl
theorem qK_69 : qKd 69 = (0, 60) := rfl
theorem qK_70 : qKd 70 = (0, 60) := rfl
theorem qK_71 : qKd 71 = (0, 60) := rfl
theorem qK_72 : qKd 72 = (0, 60) := rfl
theorem qK_73 : qKd 73 = (0, 3) := rfl
theorem qK_74 : qKd 74 = (19, 8) := rfl
theorem qK_75 : qKd 75 = (0, 60) := rfl
theorem qK_76 : qKd 76 = (0, 60) := rfl
theorem qK_77 : qKd 77 = (0, 60) := rfl
theorem qK_78 : qKd 78 = (0, 60) := rfl
theorem qK_79 : qKd 79 = (0, 60) := rfl
theorem qK_80 : qKd 80 = (15, 8) := rfl
theorem qK_81 : qKd 81 = (0, 60) := rfl
theorem qK_82 : qKd 82 = (0, 5) := rfl
theorem qK_83 : qKd 83 = (4, 3) := rfl
theorem qK_84 : qKd 84 = (5, 3) := rfl
theorem qK_85 : qKd 85 = (11, 17) := rfl
theorem qK_86 : qKd 86 = (1, 8) := rfl
theorem qK_87 : qKd 87 = (0, 8) := rfl
theorem qK_88 : qKd 88 = (0, 8) := rfl
theorem qK_89 : qKd 89 = (0, 8) := rfl
theorem qK_90 : qKd 90 = (0, 8) := rfl
theorem qK_91 : qKd 91 = (0, 8) := rfl
theorem qK_92 : qKd 92 = (0, 8) := rfl
theorem qK_93 : qKd 93 = (0, 10) := rfl
theorem qK_94 : qKd 94 = (0, 10) := rfl
theorem qK_95 : qKd 95 = (0, 10) := rfl
theorem qK_96 : qKd 96 = (0, 10) := rfl
theorem qK_97 : qKd 97 = (19, 8) := rfl
theorem qK_98 : qKd 98 = (0, 60) := rfl
theorem qK_99 : qKd 99 = (0, 60) := rfl
theorem qK_100 : qKd 100 = (0, 60) := rfl
theorem qK_101 : qKd 101 = (0, 60) := rfl
theorem qK_102 : qKd 102 = (0, 60) := rfl
theorem qK_103 : qKd 103 = (11, 17) := rfl
theorem qK_104 : qKd 104 = (1, 8) := rfl
theorem qK_105 : qKd 105 = (0, 8) := rfl
theorem qK_106 : qKd 106 = (0, 8) := rfl
theorem qK_107 : qKd 107 = (0, 8) := rfl
theorem qK_108 : qKd 108 = (0, 8) := rfl
theorem qK_109 : qKd 109 = (0, 8) := rfl
theorem qK_110 : qKd 110 = (0, 8) := rfl
theorem qK_111 : qKd 111 = (0, 10) := rfl
theorem qK_112 : qKd 112 = (0, 10) := rfl
theorem qK_113 : qKd 113 = (0, 10) := rfl
theorem qK_114 : qKd 114 = (0, 10) := rfl
theorem qK_115 : qKd 115 = (19, 8) := rfl
theorem qK_116 : qKd 116 = (0, 60) := rfl
theorem qK_117 : qKd 117 = (0, 60) := rfl
theorem qK_118 : qKd 118 = (0, 60) := rfl
theorem qK_119 : qKd 119 = (0, 60) := rfl
theorem qK_120 : qKd 120 = (0, 60) := rfl
theorem qK_121 : qKd 121 = (11, 17) := rfl
theorem qK_122 : qKd 122 = (1, 8) := rfl
theorem qK_123 : qKd 123 = (0, 8) := rfl
theorem qK_124 : qKd 124 = (0, 8) := rfl
theorem qK_125 : qKd 125 = (0, 8) := rfl
theorem qK_126 : qKd 126 = (0, 8) := rfl
theorem qK_127 : qKd 127 = (0, 8) := rfl
theorem qK_128 : qKd 128 = (0, 8) := rfl
theorem qK_129 : qKd 129 = (0, 10) := rfl
theorem qK_130 : qKd 130 = (0, 10) := rfl
theorem qK_131 : qKd 131 = (0, 10) := rfl
theorem qK_132 : qKd 132 = (0, 10) := rfl
theorem qK_133 : qKd 133 = (19, 8) := rfl
theorem qK_134 : qKd 134 = (0, 60) := rfl
theorem qK_135 : qKd 135 = (0, 60) := rfl
theorem qK_136 : qKd 136 = (0, 60) := rfl
theorem qK_137 : qKd 137 = (0, 60) := rfl
theorem qK_138 : qKd 138 = (0, 60) := rfl
theorem qK_139 : qKd 139 = (22, 44) := rfl
theorem qK_140 : qKd 140 = (0, 3088) := rfl
theorem qK_141 : qKd 141 = (1, 48) := rfl
theorem qK_142 : qKd 142 = (0, 4) := rfl
theorem qK_143 : qKd 143 = (0, 4) := rfl
theorem qK_144 : qKd 144 = (1, 240) := rfl
theorem qK_145 : qKd 145 = (2, 900) := rfl
theorem qK_146 : qKd 146 = (2, 900) := rfl
theorem qK_147 : qKd 147 = (0, 3) := rfl
theorem qK_148 : qKd 148 = (0, 8) := rfl
theorem qK_149 : qKd 149 = (0, 248) := rfl
theorem qK_150 : qKd 150 = (3, 31) := rfl
theorem qK_151 : qKd 151 = (0, 4) := rfl
theorem qK_152 : qKd 152 = (0, 4) := rfl
theorem qK_153 : qKd 153 = (0, 4) := rfl
theorem qK_154 : qKd 154 = (1, 11) := rfl
theorem qK_155 : qKd 155 = (0, 80) := rfl
theorem qK_156 : qKd 156 = (0, 5) := rfl
theorem qK_157 : qKd 157 = (0, 5) := rfl
theorem qR_0_0 : qRf 0 0 = some 1 := rfl
theorem qR_0_1 : qRf 0 1 = some 13 := rfl
theorem qR_0_2 : qRf 0 2 = some 25 := rfl
theorem qR_0_3 : qRf 0 3 = some 40 := rfl
theorem qR_0_4 : qRf 0 4 = some 41 := rfl
theorem qR_0_5 : qRf 0 5 = some 45 := rfl
theorem qR_0_6 : qRf 0 6 = some 46 := rfl
theorem qR_0_7 : qRf 0 7 = some 50 := rfl
theorem qR_0_8 : qRf 0 8 = some 53 := rfl
theorem qR_0_9 : qRf 0 9 = some 66 := rfl
theorem qR_0_10 : qRf 0 10 = some 74 := rfl
theorem qR_0_11 : qRf 0 11 = some 80 := rfl
theorem qR_0_12 : qRf 0 12 = some 82 := rfl
theorem qR_0_14 : qRf 0 14 = some 83 := rfl
theorem qR_0_15 : qRf 0 15 = some 84 := rfl
theorem qR_1_6 : qRf 1 6 = some 2 := rfl
theorem qR_1_7 : qRf 1 7 = some 3 := rfl
theorem qR_1_8 : qRf 1 8 = some 4 := rfl
theorem qR_1_9 : qRf 1 9 = some 5 := rfl
theorem qR_1_10 : qRf 1 10 = some 6 := rfl
theorem qR_1_11 : qRf 1 11 = some 7 := rfl
theorem qR_1_12 : qRf 1 12 = some 8 := rfl
theorem qR_1_13 : qRf 1 13 = some 9 := rfl
theorem qR_1_14 : qRf 1 14 = some 10 := rfl
theorem qR_1_15 : qRf 1 15 = some 11 := rfl
theorem qR_1_16 : qRf 1 16 = some 12 := rfl
theorem qR_13_6 : qRf 13 6 = some 14 := rfl
theorem qR_13_7 : qRf 13 7 = some 15 := rfl
theorem qR_13_8 : qRf 13 8 = some 16 := rfl
theorem qR_13_9 : qRf 13 9 = some 17 := rfl
theorem qR_13_10 : qRf 13 10 = some 18 := rfl
theorem qR_13_11 : qRf 13 11 = some 19 := rfl
theorem qR_13_12 : qRf 13 12 = some 20 := rfl
theorem qR_13_13 : qRf 13 13 = some 21 := rfl
theorem qR_13_14 : qRf 13 14 = some 22 := rfl
theorem qR_13_15 : qRf 13 15 = some 23 := rfl
theorem qR_13_16 : qRf 13 16 = some 24 := rfl
theorem qR_25_0 : qRf 25 0 = some 26 := rfl
theorem qR_25_1 : qRf 25 1 = some 38 := rfl
theorem qR_25_2 : qRf 25 2 = some 39 := rfl
theorem qR_26_6 : qRf 26 6 = some 27 := rfl
theorem qR_26_7 : qRf 26 7 = some 28 := rfl
theorem qR_26_8 : qRf 26 8 = some 29 := rfl
theorem qR_26_9 : qRf 26 9 = some 30 := rfl
theorem qR_26_10 : qRf 26 10 = some 31 := rfl
theorem qR_26_11 : qRf 26 11 = some 32 := rfl
theorem qR_26_12 : qRf 26 12 = some 33 := rfl
theorem qR_26_13 : qRf 26 13 = some 34 := rfl
theorem qR_26_14 : qRf 26 14 = some 35 := rfl
theorem qR_26_15 : qRf 26 15 = some 36 := rfl
theorem qR_26_16 : qRf 26 16 = some 37 := rfl
theorem qR_40_0 : qRf 40 0 = some 13 := rfl
theorem qR_40_1 : qRf 40 1 = some 25 := rfl
theorem qR_41_0 : qRf 41 0 = some 13 := rfl
theorem qR_41_1 : qRf 41 1 = some 25 := rfl
theorem qR_41_2 : qRf 41 2 = some 42 := rfl
theorem qR_41_3 : qRf 41 3 = some 43 := rfl
theorem qR_41_5 : qRf 41 5 = some 44 := rfl
theorem qR_45_0 : qRf 45 0 = some 13 := rfl
theorem qR_45_1 : qRf 45 1 = some 25 := rfl
theorem qR_46_0 : qRf 46 0 = some 47 := rfl
theorem qR_46_1 : qRf 46 1 = some 48 := rfl
theorem qR_46_2 : qRf 46 2 = some 49 := rfl
theorem qR_50_0 : qRf 50 0 = some 51 := rfl
theorem qR_50_13 : qRf 50 13 = some 52 := rfl
theorem qR_53_0 : qRf 53 0 = some 50 := rfl
theorem qR_53_1 : qRf 53 1 = some 54 := rfl
theorem qR_54_6 : qRf 54 6 = some 55 := rfl
theorem qR_54_7 : qRf 54 7 = some 56 := rfl
theorem qR_54_8 : qRf 54 8 = some 57 := rfl
theorem qR_54_9 : qRf 54 9 = some 58 := rfl
theorem qR_54_10 : qRf 54 10 = some 59 := rfl
theorem qR_54_11 : qRf 54 11 = some 60 := rfl
theorem qR_54_12 : qRf 54 12 = some 61 := rfl
theorem qR_54_13 : qRf 54 13 = some 62 := rfl
theorem qR_54_14 : qRf 54 14 = some 63 := rfl
theorem qR_54_15 : qRf 54 15 = some 64 := rfl
theorem qR_54_16 : qRf 54 16 = some 65 := rfl
theorem qR_66_0 : qRf 66 0 = some 50 := rfl
theorem qR_66_1 : qRf 66 1 = some 67 := rfl
theorem qR_66_2 : qRf 66 2 = some 73 := rfl
theorem qR_67_3 : qRf 67 3 = some 68 := rfl
theorem qR_67_4 : qRf 67 4 = some 69 := rfl
theorem qR_67_5 : qRf 67 5 = some 70 := rfl
theorem qR_67_6 : qRf 67 6 = some 71 := rfl
theorem qR_67_7 : qRf 67 7 = some 72 := rfl
theorem qR_74_3 : qRf 74 3 = some 75 := rfl
theorem qR_74_4 : qRf 74 4 = some 76 := rfl
theorem qR_74_5 : qRf 74 5 = some 77 := rfl
theorem qR_74_6 : qRf 74 6 = some 78 := rfl
theorem qR_74_7 : qRf 74 7 = some 79 := rfl
theorem qR_80_7 : qRf 80 7 = some 81 := rfl
theorem qR_83_0 : qRf 83 0 = some 85 := rfl
theorem qR_83_1 : qRf 83 1 = some 103 := rfl
theorem qR_83_2 : qRf 83 2 = some 121 := rfl
theorem qR_84_0 : qRf 84 0 = some 97 := rfl
theorem qR_84_1 : qRf 84 1 = some 115 := rfl
theorem qR_84_2 : qRf 84 2 = some 133 := rfl
theorem qR_85_6 : qRf 85 6 = some 86 := rfl
theorem qR_85_7 : qRf 85 7 = some 87 := rfl
theorem qR_85_8 : qRf 85 8 = some 88 := rfl
theorem qR_85_9 : qRf 85 9 = some 89 := rfl
theorem qR_85_10 : qRf 85 10 = some 90 := rfl
theorem qR_85_11 : qRf 85 11 = some 91 := rfl
theorem qR_85_12 : qRf 85 12 = some 92 := rfl
theorem qR_85_13 : qRf 85 13 = some 93 := rfl
theorem qR_85_14 : qRf 85 14 = some 94 := rfl
theorem qR_85_15 : qRf 85 15 = some 95 := rfl
theorem qR_85_16 : qRf 85 16 = some 96 := rfl
theorem qR_97_3 : qRf 97 3 = some 98 := rfl
theorem qR_97_4 : qRf 97 4 = some 99 := rfl
theorem qR_97_5 : qRf 97 5 = some 100 := rfl
theorem qR_97_6 : qRf 97 6 = some 101 := rfl
theorem qR_97_7 : qRf 97 7 = some 102 := rfl
theorem qR_103_6 : qRf 103 6 = some 104 := rfl
theorem qR_103_7 : qRf 103 7 = some 105 := rfl
theorem qR_103_8 : qRf 103 8 = some 106 := rfl
theorem qR_103_9 : qRf 103 9 = some 107 := rfl
theorem qR_103_10 : qRf 103 10 = some 108 := rfl
theorem qR_103_11 : qRf 103 11 = some 109 := rfl
theorem qR_103_12 : qRf 103 12 = some 110 := rfl
theorem qR_103_13 : qRf 103 13 = some 111 := rfl
theorem qR_103_14 : qRf 103 14 = some 112 := rfl
theorem qR_103_15 : qRf 103 15 = some 113 := rfl
theorem qR_103_16 : qRf 103 16 = some 114 := rfl
theorem qR_115_3 : qRf 115 3 = some 116 := rfl
theorem qR_115_4 : qRf 115 4 = some 117 := rfl
theorem qR_115_5 : qRf 115 5 = some 118 := rfl
theorem qR_115_6 : qRf 115 6 = some 119 := rfl
theorem qR_115_7 : qRf 115 7 = some 120 := rfl
theorem qR_121_6 : qRf 121 6 = some 122 := rfl
theorem qR_121_7 : qRf 121 7 = some 123 := rfl
theorem qR_121_8 : qRf 121 8 = some 124 := rfl
theorem qR_121_9 : qRf 121 9 = some 125 := rfl
theorem qR_121_10 : qRf 121 10 = some 126 := rfl
theorem qR_121_11 : qRf 121 11 = some 127 := rfl
theorem qR_121_12 : qRf 121 12 = some 128 := rfl
theorem qR_121_13 : qRf 121 13 = some 129 := rfl
theorem qR_121_14 : qRf 121 14 = some 130 := rfl
theorem qR_121_15 : qRf 121 15 = some 131 := rfl
theorem qR_121_16 : qRf 121 16 = some 132 := rfl
theorem qR_133_3 : qRf 133 3 = some 134 := rfl
theorem qR_133_4 : qRf 133 4 = some 135 := rfl
theorem qR_133_5 : qRf 133 5 = some 136 := rfl
theorem qR_133_6 : qRf 133 6 = some 137 := rfl
theorem qR_133_7 : qRf 133 7 = some 138 := rfl
theorem qR_139_0 : qRf 139 0 = some 140 := rfl
theorem qR_139_1 : qRf 139 1 = some 141 := rfl
theorem qR_139_5 : qRf 139 5 = some 142 := rfl
theorem qR_139_6 : qRf 139 6 = some 143 := rfl
theorem qR_139_7 : qRf 139 7 = some 144 := rfl
theorem qR_139_8 : qRf 139 8 = some 145 := rfl
theorem qR_139_9 : qRf 139 9 = some 146 := rfl
theorem qR_139_21 : qRf 139 21 = some 147 := rfl
theorem qR_139_25 : qRf 139 25 = some 148 := rfl
theorem qR_139_30 : qRf 139 30 = some 149 := rfl
theorem qR_139_31 : qRf 139 31 = some 150 := rfl
theorem qR_139_33 : qRf 139 33 = some 151 := rfl
theorem qR_139_34 : qRf 139 34 = some 152 := rfl
theorem qR_139_35 : qRf 139 35 = some 153 := rfl
theorem qR_139_36 : qRf 139 36 = some 154 := rfl
theorem qR_139_39 : qRf 139 39 = some 155 := rfl
theorem qR_139_40 : qRf 139 40 = some 156 := rfl
theorem qR_139_41 : qRf 139 41 = some 157 := rfl
def qKEYS : String := " field odds boy quarrel by at pride soft ears grudge minute dawn yield pitch any when loop end stop up open now "
def qKEYi : Nat := 181
def qh_sys : Nat := 274
def qh_math : Nat := 275
def qh_cpyS : Nat := 910
def qh_cpyN : Nat := 911
def qh_maxS : Nat := 941
def qh_maxC : Nat := 942
def qh_minS : Nat := 938
def qh_minC : Nat := 939
def qh_absS : Nat := 1054
def qh_absC : Nat := 1055
def qKEYb : List Int32 := [32, 102, 105, 101, 108, 100, 32, 111, 100, 100, 115, 32, 98, 111, 121, 32, 113, 117, 97, 114, 114, 101, 108, 32, 98, 121, 32, 97, 116, 32, 112, 114, 105, 100, 101, 32, 115, 111, 102, 116, 32, 101, 97, 114, 115, 32, 103, 114, 117, 100, 103, 101, 32, 109, 105, 110, 117, 116, 101, 32, 100, 97, 119, 110, 32, 121, 105, 101, 108, 100, 32, 112, 105, 116, 99, 104, 32, 97, 110, 121, 32, 119, 104, 101, 110, 32, 108, 111, 111, 112, 32, 101, 110, 100, 32, 115, 116, 111, 112, 32, 117, 112, 32, 111, 112, 101, 110, 32, 110, 111, 119, 32]
end
section
/-! what the kernel checks of the code tables: each instruction against the bytes, each link against the words of the tables -/
def qft (c k : Nat) : Nat := match qTy c k with
  | .long => 1
  | .object _ => 2
  | .array _ => 2
  | .boolean => 3
  | .int => 0
  | _ => 9
def qAL : List Cond := lw_tbl.filter goodWord
def qIs (h : Nat) (w : Cond) : Bool := decide (qWd h = some w) && goodWord w
theorem qTb_in : ∀ (c : Nat) (w : Cond), w ∈ qTb c → w ∈ lw_tbl := by
  intro c w hw
  unfold qTb at hw
  split at hw <;> first | exact absurd hw List.not_mem_nil | (simp only [lw_tbl, tables_1, List.mem_append]; simp only [hw, true_or, or_true])
theorem qIs_in {h : Nat} {w : Cond} (hq : qIs h w = true) : w ∈ qAL := by
  simp only [qIs, Bool.and_eq_true, decide_eq_true_eq] at hq
  exact List.mem_filter.mpr ⟨qTb_in _ w (List.mem_of_getElem? hq.1), hq.2⟩
def qnf (c : Nat) : Nat := (vwCl.getD c ("", fun _ => ("", "", "", false), 0)).2.2
theorem qcl_at : ∀ c, c < 13 → vwCl[c]? = some (qCN c, qTF c, qnf c)
  | 0, _ => rfl
  | 1, _ => rfl
  | 2, _ => rfl
  | 3, _ => rfl
  | 4, _ => rfl
  | 5, _ => rfl
  | 6, _ => rfl
  | 7, _ => rfl
  | 8, _ => rfl
  | 9, _ => rfl
  | 10, _ => rfl
  | 11, _ => rfl
  | 12, _ => rfl
  | n + 13, h => absurd h (by omega)
def qlen : Instr → Nat
  | .bipush _ | .ldc _ | .iload _ | .lload _ | .aload _ | .istore _ | .lstore _ | .astore _ | .newarray _ => 2
  | .sipush _ | .ldc_w _ | .ldc2_w _ | .iinc _ _ | .ifCond _ _ | .if_icmp _ _ | .goto _ | .ifnull _ | .ifnonnull _ | .getfield _ | .putfield _ | .invokestatic _ | .invokevirtual _ | .invokespecial _ | .new _ | .anewarray _ => 3
  | _ => 1
/-- the words of a method -/
def qmk (k : Nat) : Bool :=
  let m := qMT k
  let y := m.1
  let hs := m.2.2.2.2.2.1
  qIs (hs.getD 1 0) (.initialized y.cls) && decide (y.cls = qCN m.2.2.2.2.1) && decide (y.cls ≠ "java/lang/invoke/MethodHandle" ∧ y.cls ≠ "java/lang/invoke/VarHandle") && plainName y.cls && decide (m.2.2.1 ≤ 40) &&
  decide ((parseMethodDescriptor y.desc).map (fun d => d.parameters.length) = some m.2.2.2.2.2.2.1) &&
  (if m.2.2.2.2.2.2.2.1 then qIs (hs.getD 2 0) (.static y) else (qIs (hs.getD 2 0) (.instanceMethod y) && qIs (hs.getD 3 0) (.selects y.cls y y)))
def qjmp (pc : Nat) (o : Int) (t : Nat) : Bool := decide ((pc : Int) + o = (t : Int))
def qdk (own maxL : Nat) (ret : Option FieldType) (pc : Nat) (i : Instr) (dt : List Nat) : Bool :=
  match i, dt with
  | .iconst n, [v] => decide (Int32.ofInt n = nI v)
  | .bipush n, [v] => decide ((Int8.ofInt n).toInt32 = nI v)
  | .bipush n, [] => decide ((Int8.ofInt n).toInt32 = Int32.ofInt n)
  | .sipush n, [v] => decide ((Int16.ofInt n).toInt32 = nI v)
  | .sipush n, [] => decide ((Int16.ofInt n).toInt32 = Int32.ofInt n)
  | .ldc n, [h, v] => qIs h (.constant (qCN own) n (nI v))
  | .ldc n, [_, k, _] => decide (own = 12) && decide (n = qKEYi) && decide (k = 1000)
  | .ldc_w n, [h, v] => qIs h (.constant (qCN own) n (nI v))
  | .ldc2_w n, [h, v] => qIs h (.constantLong (qCN own) n (lN v))
  | .ldc2_w n, [h, v, _] => qIs h (.constantLong (qCN own) n (-(lN v)))
  | .istore_n n, [] => decide ((n : Nat) < maxL)
  | .astore_n n, [] => decide ((n : Nat) < maxL)
  | .istore n, [] => decide (n < maxL)
  | .astore n, [] => decide (n < maxL)
  | .lstore_n n, [] => decide ((n : Nat) + 1 < maxL)
  | .lstore n, [] => decide (n + 1 < maxL)
  | .iinc n c, [v] => decide (n < maxL) && decide (Int32.ofInt c = nI v)
  | .iinc n _, [] => decide (n < maxL)
  | .ifCond _ o, [t] => qjmp pc o t
  | .if_icmp _ o, [t] => qjmp pc o t
  | .goto o, [t] => qjmp pc o t
  | .ifnull o, [t] => qjmp pc o t
  | .ifnonnull o, [t] => qjmp pc o t
  | .tableswitch e a b os, t :: ts => qjmp pc e t && decide (os.toList.map (fun o => (pc : Int) + o) = ts.map (fun t : Nat => (t : Int))) && decide (b = a + (os.toList.length : Int) - 1)
  | .getfield n, [c, k, h, f] => decide (c < 13) && decide (k < qnf c) && decide (f = qft c k) && decide (f ≠ 9) && qIs h (.fieldLink (qCN own) n (qCN c) (qTF c k).2.1 (qTF c k).2.2.1) && decide ((qTF c k).1 = qCN c)
  | .putfield n, [c, k, h, f] => decide (c < 13) && decide (k < qnf c) && decide (f = qft c k) && decide (f ≠ 9) && qIs h (.fieldLink (qCN own) n (qCN c) (qTF c k).2.1 (qTF c k).2.2.1) && decide ((qTF c k).1 = qCN c) && (decide (f = 2) || decide ((qTF c k).2.2.2 = false))
  | .invokestatic n, [h] => qIs h (.methodLink (qCN own) n arraycopyName)
  | .invokestatic n, [h, j] => if j = 0 then qIs h (.methodLink (qCN own) n Lib.Math.max.name) else if j = 1 then qIs h (.methodLink (qCN own) n Lib.Math.min.name) else if j = 2 then qIs h (.methodLink (qCN own) n Lib.Math.abs.name) else false
  | .invokestatic n, [k, h, np, _, c] => decide (k < qML.length) && decide ((qMT k).1.name ≠ "<init>") && (qMT k).2.2.2.2.2.2.2.1 && qIs h (.methodLink (qCN own) n (qMT k).1) && decide (np = (qMT k).2.2.2.2.2.2.1) && decide (c = 0)
  | .invokevirtual n, [k, h, np, _, c] => decide (k < qML.length) && decide ((qMT k).1.name ≠ "<init>") && !(qMT k).2.2.2.2.2.2.2.1 && qIs h (.methodLink (qCN own) n (qMT k).1) && decide (np = (qMT k).2.2.2.2.2.2.1 + 1) && decide (c = (qMT k).2.2.2.2.1 + 1)
  | .ireturn, [z] => (decide (z = 0) && decide (ret = some .int)) || (decide (z = 1) && decide (ret = some .boolean))
  | .lreturn, _ => decide (ret = some .long)
  | .return_, _ => decide (ret = none)
  | _, _ => true
def qln (i : Instr) (n : Nat) : Bool := match i with
  | .nop => false
  | .tableswitch _ _ _ _ => true
  | i => decide (n = qlen i)
def qik (own maxL : Nat) (ret : Option FieldType) (bytes : ByteArray) (pc : Nat) (x : qIns) : Bool :=
  decide (x = (.nop, 0, [pc])) || (decide (decode bytes pc = .ok (x.1, x.2.1)) && qln x.1 x.2.1 && qdk own maxL ret pc x.1 x.2.2)
def qbk (own maxL : Nat) (ret : Option FieldType) (bytes : ByteArray) : Nat → List qIns → Bool
  | _, [] => true
  | pc, x :: xs => qik own maxL ret bytes pc x && qbk own maxL ret bytes (pc + x.2.1) xs
def qgd (k : Nat) : Bool := (qMT k).2.2.2.2.2.2.2.2.all fun b => qbk (qMT k).2.2.2.2.1 (qMT k).2.2.1 (qMT k).2.2.2.1 (qMT k).2.1 b.1 b.2
def qcw (k : Nat) : Prop := qWd ((qMT k).2.2.2.2.2.1.getD 0 0) = some (.code (qMT k).1 (qMT k).2.1 (qMT k).2.2.1 (qMT k).2.2.2.1)
/-- a method whose tables are right -/
def qgood (k : Nat) : Prop := qmk k = true ∧ qcw k ∧ qgd k = true
theorem qw_sys : Cond.initialized "java/lang/System" ∈ qAL := qIs_in (h := qh_sys) (by decide +kernel)
theorem qw_math : Cond.initialized "java/lang/Math" ∈ qAL := qIs_in (h := qh_math) (by decide +kernel)
theorem qw_cpyS : Cond.static arraycopyName ∈ qAL := qIs_in (h := qh_cpyS) (by decide +kernel)
theorem qw_cpyN : Cond.native arraycopyName ∈ qAL := qIs_in (h := qh_cpyN) (by decide +kernel)
theorem qw_maxS : Cond.static Lib.Math.max.name ∈ qAL := qIs_in (h := qh_maxS) (by decide +kernel)
theorem qw_maxC : Cond.code Lib.Math.max.name Lib.Math.max.code 2 (some .int) ∈ qAL := qIs_in (h := qh_maxC) (by decide +kernel)
theorem qw_minS : Cond.static Lib.Math.min.name ∈ qAL := qIs_in (h := qh_minS) (by decide +kernel)
theorem qw_minC : Cond.code Lib.Math.min.name Lib.Math.min.code 2 (some .int) ∈ qAL := qIs_in (h := qh_minC) (by decide +kernel)
theorem qw_absS : Cond.static Lib.Math.abs.name ∈ qAL := qIs_in (h := qh_absS) (by decide +kernel)
theorem qw_absC : Cond.code Lib.Math.abs.name Lib.Math.abs.code 1 (some .int) ∈ qAL := qIs_in (h := qh_absC) (by decide +kernel)
end
section
set_option maxRecDepth 20000 in
theorem ok_1 : qgood 1 := ⟨by decide +kernel, rfl, by decide +kernel⟩
set_option maxRecDepth 20000 in
theorem ok_2 : qgood 2 := ⟨by decide +kernel, rfl, by decide +kernel⟩
set_option maxRecDepth 20000 in
theorem ok_3 : qgood 3 := ⟨by decide +kernel, rfl, by decide +kernel⟩
set_option maxRecDepth 20000 in
theorem ok_4 : qgood 4 := ⟨by decide +kernel, rfl, by decide +kernel⟩
set_option maxRecDepth 20000 in
theorem ok_5 : qgood 5 := ⟨by decide +kernel, rfl, by decide +kernel⟩
set_option maxRecDepth 20000 in
theorem ok_6 : qgood 6 := ⟨by decide +kernel, rfl, by decide +kernel⟩
set_option maxRecDepth 20000 in
theorem ok_8 : qgood 8 := ⟨by decide +kernel, rfl, by decide +kernel⟩
set_option maxRecDepth 20000 in
theorem ok_9 : qgood 9 := ⟨by decide +kernel, rfl, by decide +kernel⟩
set_option maxRecDepth 20000 in
theorem ok_10 : qgood 10 := ⟨by decide +kernel, rfl, by decide +kernel⟩
set_option maxRecDepth 20000 in
theorem ok_11 : qgood 11 := ⟨by decide +kernel, rfl, by decide +kernel⟩
set_option maxRecDepth 20000 in
theorem ok_12 : qgood 12 := ⟨by decide +kernel, rfl, by decide +kernel⟩
set_option maxRecDepth 20000 in
theorem ok_13 : qgood 13 := ⟨by decide +kernel, rfl, by decide +kernel⟩
set_option maxRecDepth 20000 in
theorem ok_14 : qgood 14 := ⟨by decide +kernel, rfl, by decide +kernel⟩
set_option maxRecDepth 20000 in
theorem ok_15 : qgood 15 := ⟨by decide +kernel, rfl, by decide +kernel⟩
set_option maxRecDepth 20000 in
theorem ok_16 : qgood 16 := ⟨by decide +kernel, rfl, by decide +kernel⟩
set_option maxRecDepth 20000 in
theorem ok_17 : qgood 17 := ⟨by decide +kernel, rfl, by decide +kernel⟩
set_option maxRecDepth 20000 in
theorem ok_18 : qgood 18 := ⟨by decide +kernel, rfl, by decide +kernel⟩
set_option maxRecDepth 20000 in
theorem ok_19 : qgood 19 := ⟨by decide +kernel, rfl, by decide +kernel⟩
set_option maxRecDepth 20000 in
theorem ok_20 : qgood 20 := ⟨by decide +kernel, rfl, by decide +kernel⟩
set_option maxRecDepth 20000 in
theorem ok_21 : qgood 21 := ⟨by decide +kernel, rfl, by decide +kernel⟩
set_option maxRecDepth 20000 in
theorem ok_22 : qgood 22 := ⟨by decide +kernel, rfl, by decide +kernel⟩
set_option maxRecDepth 20000 in
theorem ok_23 : qgood 23 := ⟨by decide +kernel, rfl, by decide +kernel⟩
set_option maxRecDepth 20000 in
theorem ok_24 : qgood 24 := ⟨by decide +kernel, rfl, by decide +kernel⟩
set_option maxRecDepth 20000 in
theorem ok_25 : qgood 25 := ⟨by decide +kernel, rfl, by decide +kernel⟩
set_option maxRecDepth 20000 in
theorem ok_26 : qgood 26 := ⟨by decide +kernel, rfl, by decide +kernel⟩
set_option maxRecDepth 20000 in
theorem ok_27 : qgood 27 := ⟨by decide +kernel, rfl, by decide +kernel⟩
set_option maxRecDepth 20000 in
theorem ok_28 : qgood 28 := ⟨by decide +kernel, rfl, by decide +kernel⟩
set_option maxRecDepth 20000 in
theorem ok_29 : qgood 29 := ⟨by decide +kernel, rfl, by decide +kernel⟩
set_option maxRecDepth 20000 in
theorem ok_30 : qgood 30 := ⟨by decide +kernel, rfl, by decide +kernel⟩
set_option maxRecDepth 20000 in
theorem ok_31 : qgood 31 := ⟨by decide +kernel, rfl, by decide +kernel⟩
set_option maxRecDepth 20000 in
theorem ok_32 : qgood 32 := ⟨by decide +kernel, rfl, by decide +kernel⟩
set_option maxRecDepth 20000 in
theorem ok_34 : qgood 34 := ⟨by decide +kernel, rfl, by decide +kernel⟩
set_option maxRecDepth 20000 in
theorem ok_35 : qgood 35 := ⟨by decide +kernel, rfl, by decide +kernel⟩
set_option maxRecDepth 20000 in
theorem ok_36 : qgood 36 := ⟨by decide +kernel, rfl, by decide +kernel⟩
set_option maxRecDepth 20000 in
theorem ok_37 : qgood 37 := ⟨by decide +kernel, rfl, by decide +kernel⟩
set_option maxRecDepth 20000 in
theorem ok_38 : qgood 38 := ⟨by decide +kernel, rfl, by decide +kernel⟩
set_option maxRecDepth 20000 in
theorem ok_39 : qgood 39 := ⟨by decide +kernel, rfl, by decide +kernel⟩
set_option maxRecDepth 20000 in
theorem ok_41 : qgood 41 := ⟨by decide +kernel, rfl, by decide +kernel⟩
set_option maxRecDepth 20000 in
theorem ok_42 : qgood 42 := ⟨by decide +kernel, rfl, by decide +kernel⟩
set_option maxRecDepth 20000 in
theorem ok_43 : qgood 43 := ⟨by decide +kernel, rfl, by decide +kernel⟩
set_option maxRecDepth 20000 in
theorem ok_44 : qgood 44 := ⟨by decide +kernel, rfl, by decide +kernel⟩
set_option maxRecDepth 20000 in
theorem ok_45 : qgood 45 := ⟨by decide +kernel, rfl, by decide +kernel⟩
set_option maxRecDepth 20000 in
theorem ok_46 : qgood 46 := ⟨by decide +kernel, rfl, by decide +kernel⟩
set_option maxRecDepth 20000 in
theorem ok_47 : qgood 47 := ⟨by decide +kernel, rfl, by decide +kernel⟩
set_option maxRecDepth 20000 in
theorem ok_48 : qgood 48 := ⟨by decide +kernel, rfl, by decide +kernel⟩
set_option maxRecDepth 20000 in
theorem ok_49 : qgood 49 := ⟨by decide +kernel, rfl, by decide +kernel⟩
set_option maxRecDepth 20000 in
theorem ok_51 : qgood 51 := ⟨by decide +kernel, rfl, by decide +kernel⟩
set_option maxRecDepth 20000 in
theorem ok_52 : qgood 52 := ⟨by decide +kernel, rfl, by decide +kernel⟩
set_option maxRecDepth 20000 in
theorem ok_53 : qgood 53 := ⟨by decide +kernel, rfl, by decide +kernel⟩
set_option maxRecDepth 20000 in
theorem ok_54 : qgood 54 := ⟨by decide +kernel, rfl, by decide +kernel⟩
set_option maxRecDepth 20000 in
theorem ok_55 : qgood 55 := ⟨by decide +kernel, rfl, by decide +kernel⟩
set_option maxRecDepth 20000 in
theorem ok_56 : qgood 56 := ⟨by decide +kernel, rfl, by decide +kernel⟩
set_option maxRecDepth 20000 in
theorem ok_57 : qgood 57 := ⟨by decide +kernel, rfl, by decide +kernel⟩
set_option maxRecDepth 20000 in
theorem ok_58 : qgood 58 := ⟨by decide +kernel, rfl, by decide +kernel⟩
set_option maxRecDepth 20000 in
theorem ok_59 : qgood 59 := ⟨by decide +kernel, rfl, by decide +kernel⟩
set_option maxRecDepth 20000 in
theorem ok_60 : qgood 60 := ⟨by decide +kernel, rfl, by decide +kernel⟩
set_option maxRecDepth 20000 in
theorem ok_61 : qgood 61 := ⟨by decide +kernel, rfl, by decide +kernel⟩
set_option maxRecDepth 20000 in
theorem ok_63 : qgood 63 := ⟨by decide +kernel, rfl, by decide +kernel⟩
set_option maxRecDepth 20000 in
theorem ok_64 : qgood 64 := ⟨by decide +kernel, rfl, by decide +kernel⟩
set_option maxRecDepth 20000 in
theorem ok_65 : qgood 65 := ⟨by decide +kernel, rfl, by decide +kernel⟩
set_option maxRecDepth 20000 in
theorem ok_66 : qgood 66 := ⟨by decide +kernel, rfl, by decide +kernel⟩
set_option maxRecDepth 20000 in
theorem ok_67 : qgood 67 := ⟨by decide +kernel, rfl, by decide +kernel⟩
set_option maxRecDepth 20000 in
theorem ok_68 : qgood 68 := ⟨by decide +kernel, rfl, by decide +kernel⟩
set_option maxRecDepth 20000 in
theorem ok_69 : qgood 69 := ⟨by decide +kernel, rfl, by decide +kernel⟩
set_option maxRecDepth 20000 in
theorem ok_70 : qgood 70 := ⟨by decide +kernel, rfl, by decide +kernel⟩
set_option maxRecDepth 20000 in
theorem ok_71 : qgood 71 := ⟨by decide +kernel, rfl, by decide +kernel⟩
set_option maxRecDepth 20000 in
theorem ok_72 : qgood 72 := ⟨by decide +kernel, rfl, by decide +kernel⟩
set_option maxRecDepth 20000 in
theorem ok_73 : qgood 73 := ⟨by decide +kernel, rfl, by decide +kernel⟩
set_option maxRecDepth 20000 in
theorem ok_75 : qgood 75 := ⟨by decide +kernel, rfl, by decide +kernel⟩
set_option maxRecDepth 20000 in
theorem ok_76 : qgood 76 := ⟨by decide +kernel, rfl, by decide +kernel⟩
set_option maxRecDepth 20000 in
theorem ok_77 : qgood 77 := ⟨by decide +kernel, rfl, by decide +kernel⟩
set_option maxRecDepth 20000 in
theorem ok_78 : qgood 78 := ⟨by decide +kernel, rfl, by decide +kernel⟩
set_option maxRecDepth 20000 in
theorem ok_79 : qgood 79 := ⟨by decide +kernel, rfl, by decide +kernel⟩
set_option maxRecDepth 20000 in
theorem ok_80 : qgood 80 := ⟨by decide +kernel, rfl, by decide +kernel⟩
set_option maxRecDepth 20000 in
theorem ok_81 : qgood 81 := ⟨by decide +kernel, rfl, by decide +kernel⟩
set_option maxRecDepth 20000 in
theorem ok_82 : qgood 82 := ⟨by decide +kernel, rfl, by decide +kernel⟩
set_option maxRecDepth 20000 in
theorem ok_83 : qgood 83 := ⟨by decide +kernel, rfl, by decide +kernel⟩
set_option maxRecDepth 20000 in
theorem ok_84 : qgood 84 := ⟨by decide +kernel, rfl, by decide +kernel⟩
set_option maxRecDepth 20000 in
theorem ok_85 : qgood 85 := ⟨by decide +kernel, rfl, by decide +kernel⟩
set_option maxRecDepth 20000 in
theorem ok_86 : qgood 86 := ⟨by decide +kernel, rfl, by decide +kernel⟩
set_option maxRecDepth 20000 in
theorem ok_88 : qgood 88 := ⟨by decide +kernel, rfl, by decide +kernel⟩
set_option maxRecDepth 20000 in
theorem ok_89 : qgood 89 := ⟨by decide +kernel, rfl, by decide +kernel⟩
set_option maxRecDepth 20000 in
theorem ok_90 : qgood 90 := ⟨by decide +kernel, rfl, by decide +kernel⟩
set_option maxRecDepth 20000 in
theorem ok_91 : qgood 91 := ⟨by decide +kernel, rfl, by decide +kernel⟩
set_option maxRecDepth 20000 in
theorem ok_92 : qgood 92 := ⟨by decide +kernel, rfl, by decide +kernel⟩
set_option maxRecDepth 20000 in
theorem ok_93 : qgood 93 := ⟨by decide +kernel, rfl, by decide +kernel⟩
set_option maxRecDepth 20000 in
theorem ok_94 : qgood 94 := ⟨by decide +kernel, rfl, by decide +kernel⟩
set_option maxRecDepth 20000 in
theorem ok_95 : qgood 95 := ⟨by decide +kernel, rfl, by decide +kernel⟩
set_option maxRecDepth 20000 in
theorem ok_96 : qgood 96 := ⟨by decide +kernel, rfl, by decide +kernel⟩
set_option maxRecDepth 20000 in
theorem ok_97 : qgood 97 := ⟨by decide +kernel, rfl, by decide +kernel⟩
end
section
set_option maxRecDepth 20000 in
theorem ok_98 : qgood 98 := ⟨by decide +kernel, rfl, by decide +kernel⟩
set_option maxRecDepth 20000 in
theorem ok_99 : qgood 99 := ⟨by decide +kernel, rfl, by decide +kernel⟩
set_option maxRecDepth 20000 in
theorem ok_100 : qgood 100 := ⟨by decide +kernel, rfl, by decide +kernel⟩
set_option maxRecDepth 20000 in
theorem ok_101 : qgood 101 := ⟨by decide +kernel, rfl, by decide +kernel⟩
set_option maxRecDepth 20000 in
theorem ok_102 : qgood 102 := ⟨by decide +kernel, rfl, by decide +kernel⟩
set_option maxRecDepth 20000 in
theorem ok_103 : qgood 103 := ⟨by decide +kernel, rfl, by decide +kernel⟩
set_option maxRecDepth 20000 in
theorem ok_104 : qgood 104 := ⟨by decide +kernel, rfl, by decide +kernel⟩
set_option maxRecDepth 20000 in
theorem ok_105 : qgood 105 := ⟨by decide +kernel, rfl, by decide +kernel⟩
set_option maxRecDepth 20000 in
theorem ok_106 : qgood 106 := ⟨by decide +kernel, rfl, by decide +kernel⟩
set_option maxRecDepth 20000 in
theorem ok_107 : qgood 107 := ⟨by decide +kernel, rfl, by decide +kernel⟩
set_option maxRecDepth 20000 in
theorem ok_109 : qgood 109 := ⟨by decide +kernel, rfl, by decide +kernel⟩
set_option maxRecDepth 20000 in
theorem ok_110 : qgood 110 := ⟨by decide +kernel, rfl, by decide +kernel⟩
set_option maxRecDepth 20000 in
theorem ok_111 : qgood 111 := ⟨by decide +kernel, rfl, by decide +kernel⟩
set_option maxRecDepth 20000 in
theorem ok_112 : qgood 112 := ⟨by decide +kernel, rfl, by decide +kernel⟩
set_option maxRecDepth 20000 in
theorem ok_113 : qgood 113 := ⟨by decide +kernel, rfl, by decide +kernel⟩
set_option maxRecDepth 20000 in
theorem ok_114 : qgood 114 := ⟨by decide +kernel, rfl, by decide +kernel⟩
set_option maxRecDepth 20000 in
theorem ok_115 : qgood 115 := ⟨by decide +kernel, rfl, by decide +kernel⟩
set_option maxRecDepth 20000 in
theorem ok_116 : qgood 116 := ⟨by decide +kernel, rfl, by decide +kernel⟩
set_option maxRecDepth 20000 in
theorem ok_117 : qgood 117 := ⟨by decide +kernel, rfl, by decide +kernel⟩
set_option maxRecDepth 20000 in
theorem ok_118 : qgood 118 := ⟨by decide +kernel, rfl, by decide +kernel⟩
set_option maxRecDepth 20000 in
theorem ok_120 : qgood 120 := ⟨by decide +kernel, rfl, by decide +kernel⟩
set_option maxRecDepth 20000 in
theorem ok_121 : qgood 121 := ⟨by decide +kernel, rfl, by decide +kernel⟩
set_option maxRecDepth 20000 in
theorem ok_122 : qgood 122 := ⟨by decide +kernel, rfl, by decide +kernel⟩
set_option maxRecDepth 20000 in
theorem ok_123 : qgood 123 := ⟨by decide +kernel, rfl, by decide +kernel⟩
set_option maxRecDepth 20000 in
theorem ok_124 : qgood 124 := ⟨by decide +kernel, rfl, by decide +kernel⟩
set_option maxRecDepth 20000 in
theorem ok_125 : qgood 125 := ⟨by decide +kernel, rfl, by decide +kernel⟩
set_option maxRecDepth 20000 in
theorem ok_127 : qgood 127 := ⟨by decide +kernel, rfl, by decide +kernel⟩
set_option maxRecDepth 20000 in
theorem ok_128 : qgood 128 := ⟨by decide +kernel, rfl, by decide +kernel⟩
set_option maxRecDepth 20000 in
theorem ok_129 : qgood 129 := ⟨by decide +kernel, rfl, by decide +kernel⟩
set_option maxRecDepth 20000 in
theorem ok_130 : qgood 130 := ⟨by decide +kernel, rfl, by decide +kernel⟩
set_option maxRecDepth 20000 in
theorem ok_131 : qgood 131 := ⟨by decide +kernel, rfl, by decide +kernel⟩
set_option maxRecDepth 20000 in
theorem ok_132 : qgood 132 := ⟨by decide +kernel, rfl, by decide +kernel⟩
set_option maxRecDepth 20000 in
theorem ok_133 : qgood 133 := ⟨by decide +kernel, rfl, by decide +kernel⟩
set_option maxRecDepth 20000 in
theorem ok_134 : qgood 134 := ⟨by decide +kernel, rfl, by decide +kernel⟩
set_option maxRecDepth 20000 in
theorem ok_135 : qgood 135 := ⟨by decide +kernel, rfl, by decide +kernel⟩
set_option maxRecDepth 20000 in
theorem ok_136 : qgood 136 := ⟨by decide +kernel, rfl, by decide +kernel⟩
set_option maxRecDepth 20000 in
theorem ok_138 : qgood 138 := ⟨by decide +kernel, rfl, by decide +kernel⟩
set_option maxRecDepth 20000 in
theorem ok_139 : qgood 139 := ⟨by decide +kernel, rfl, by decide +kernel⟩
set_option maxRecDepth 20000 in
theorem ok_140 : qgood 140 := ⟨by decide +kernel, rfl, by decide +kernel⟩
set_option maxRecDepth 20000 in
theorem ok_141 : qgood 141 := ⟨by decide +kernel, rfl, by decide +kernel⟩
set_option maxRecDepth 20000 in
theorem ok_142 : qgood 142 := ⟨by decide +kernel, rfl, by decide +kernel⟩
set_option maxRecDepth 20000 in
theorem ok_143 : qgood 143 := ⟨by decide +kernel, rfl, by decide +kernel⟩
set_option maxRecDepth 20000 in
theorem ok_144 : qgood 144 := ⟨by decide +kernel, rfl, by decide +kernel⟩
set_option maxRecDepth 20000 in
theorem ok_145 : qgood 145 := ⟨by decide +kernel, rfl, by decide +kernel⟩
set_option maxRecDepth 20000 in
theorem ok_146 : qgood 146 := ⟨by decide +kernel, rfl, by decide +kernel⟩
set_option maxRecDepth 20000 in
theorem ok_147 : qgood 147 := ⟨by decide +kernel, rfl, by decide +kernel⟩
set_option maxRecDepth 20000 in
theorem ok_148 : qgood 148 := ⟨by decide +kernel, rfl, by decide +kernel⟩
set_option maxRecDepth 20000 in
theorem ok_149 : qgood 149 := ⟨by decide +kernel, rfl, by decide +kernel⟩
set_option maxRecDepth 20000 in
theorem ok_150 : qgood 150 := ⟨by decide +kernel, rfl, by decide +kernel⟩
set_option maxRecDepth 20000 in
theorem ok_151 : qgood 151 := ⟨by decide +kernel, rfl, by decide +kernel⟩
set_option maxRecDepth 20000 in
theorem ok_152 : qgood 152 := ⟨by decide +kernel, rfl, by decide +kernel⟩
set_option maxRecDepth 20000 in
theorem ok_153 : qgood 153 := ⟨by decide +kernel, rfl, by decide +kernel⟩
set_option maxRecDepth 20000 in
theorem ok_154 : qgood 154 := ⟨by decide +kernel, rfl, by decide +kernel⟩
set_option maxRecDepth 20000 in
theorem ok_155 : qgood 155 := ⟨by decide +kernel, rfl, by decide +kernel⟩
set_option maxRecDepth 20000 in
theorem ok_156 : qgood 156 := ⟨by decide +kernel, rfl, by decide +kernel⟩
set_option maxRecDepth 20000 in
theorem ok_157 : qgood 157 := ⟨by decide +kernel, rfl, by decide +kernel⟩
set_option maxRecDepth 20000 in
theorem ok_158 : qgood 158 := ⟨by decide +kernel, rfl, by decide +kernel⟩
set_option maxRecDepth 20000 in
theorem ok_159 : qgood 159 := ⟨by decide +kernel, rfl, by decide +kernel⟩
set_option maxRecDepth 20000 in
theorem ok_160 : qgood 160 := ⟨by decide +kernel, rfl, by decide +kernel⟩
set_option maxRecDepth 20000 in
theorem ok_161 : qgood 161 := ⟨by decide +kernel, rfl, by decide +kernel⟩
set_option maxRecDepth 20000 in
theorem ok_162 : qgood 162 := ⟨by decide +kernel, rfl, by decide +kernel⟩
set_option maxRecDepth 20000 in
theorem ok_163 : qgood 163 := ⟨by decide +kernel, rfl, by decide +kernel⟩
set_option maxRecDepth 20000 in
theorem ok_164 : qgood 164 := ⟨by decide +kernel, rfl, by decide +kernel⟩
set_option maxRecDepth 20000 in
theorem ok_165 : qgood 165 := ⟨by decide +kernel, rfl, by decide +kernel⟩
set_option maxRecDepth 20000 in
theorem ok_166 : qgood 166 := ⟨by decide +kernel, rfl, by decide +kernel⟩
set_option maxRecDepth 20000 in
theorem ok_167 : qgood 167 := ⟨by decide +kernel, rfl, by decide +kernel⟩
set_option maxRecDepth 20000 in
theorem ok_168 : qgood 168 := ⟨by decide +kernel, rfl, by decide +kernel⟩
set_option maxRecDepth 20000 in
theorem ok_169 : qgood 169 := ⟨by decide +kernel, rfl, by decide +kernel⟩
set_option maxRecDepth 20000 in
theorem ok_170 : qgood 170 := ⟨by decide +kernel, rfl, by decide +kernel⟩
set_option maxRecDepth 20000 in
theorem ok_171 : qgood 171 := ⟨by decide +kernel, rfl, by decide +kernel⟩
set_option maxRecDepth 20000 in
theorem ok_172 : qgood 172 := ⟨by decide +kernel, rfl, by decide +kernel⟩
set_option maxRecDepth 20000 in
theorem ok_173 : qgood 173 := ⟨by decide +kernel, rfl, by decide +kernel⟩
set_option maxRecDepth 20000 in
theorem ok_174 : qgood 174 := ⟨by decide +kernel, rfl, by decide +kernel⟩
set_option maxRecDepth 20000 in
theorem ok_175 : qgood 175 := ⟨by decide +kernel, rfl, by decide +kernel⟩
set_option maxRecDepth 20000 in
theorem ok_176 : qgood 176 := ⟨by decide +kernel, rfl, by decide +kernel⟩
set_option maxRecDepth 20000 in
theorem ok_177 : qgood 177 := ⟨by decide +kernel, rfl, by decide +kernel⟩
set_option maxRecDepth 20000 in
theorem ok_178 : qgood 178 := ⟨by decide +kernel, rfl, by decide +kernel⟩
set_option maxRecDepth 20000 in
theorem ok_179 : qgood 179 := ⟨by decide +kernel, rfl, by decide +kernel⟩
set_option maxRecDepth 20000 in
theorem ok_180 : qgood 180 := ⟨by decide +kernel, rfl, by decide +kernel⟩
set_option maxRecDepth 20000 in
theorem ok_181 : qgood 181 := ⟨by decide +kernel, rfl, by decide +kernel⟩
set_option maxRecDepth 20000 in
theorem ok_182 : qgood 182 := ⟨by decide +kernel, rfl, by decide +kernel⟩
set_option maxRecDepth 20000 in
theorem ok_183 : qgood 183 := ⟨by decide +kernel, rfl, by decide +kernel⟩
set_option maxRecDepth 20000 in
theorem ok_184 : qgood 184 := ⟨by decide +kernel, rfl, by decide +kernel⟩
set_option maxRecDepth 20000 in
theorem ok_185 : qgood 185 := ⟨by decide +kernel, rfl, by decide +kernel⟩
set_option maxRecDepth 20000 in
theorem ok_186 : qgood 186 := ⟨by decide +kernel, rfl, by decide +kernel⟩
set_option maxRecDepth 20000 in
theorem ok_187 : qgood 187 := ⟨by decide +kernel, rfl, by decide +kernel⟩
set_option maxRecDepth 20000 in
theorem ok_188 : qgood 188 := ⟨by decide +kernel, rfl, by decide +kernel⟩
set_option maxRecDepth 20000 in
theorem ok_189 : qgood 189 := ⟨by decide +kernel, rfl, by decide +kernel⟩
set_option maxRecDepth 20000 in
theorem ok_190 : qgood 190 := ⟨by decide +kernel, rfl, by decide +kernel⟩
set_option maxRecDepth 20000 in
theorem ok_191 : qgood 191 := ⟨by decide +kernel, rfl, by decide +kernel⟩
end
section
set_option maxRecDepth 20000 in
theorem ok_192 : qgood 192 := ⟨by decide +kernel, rfl, by decide +kernel⟩
set_option maxRecDepth 20000 in
theorem ok_193 : qgood 193 := ⟨by decide +kernel, rfl, by decide +kernel⟩
set_option maxRecDepth 20000 in
theorem ok_194 : qgood 194 := ⟨by decide +kernel, rfl, by decide +kernel⟩
set_option maxRecDepth 20000 in
theorem ok_195 : qgood 195 := ⟨by decide +kernel, rfl, by decide +kernel⟩
set_option maxRecDepth 20000 in
theorem ok_196 : qgood 196 := ⟨by decide +kernel, rfl, by decide +kernel⟩
set_option maxRecDepth 20000 in
theorem ok_197 : qgood 197 := ⟨by decide +kernel, rfl, by decide +kernel⟩
set_option maxRecDepth 20000 in
theorem ok_198 : qgood 198 := ⟨by decide +kernel, rfl, by decide +kernel⟩
set_option maxRecDepth 20000 in
theorem ok_199 : qgood 199 := ⟨by decide +kernel, rfl, by decide +kernel⟩
set_option maxRecDepth 20000 in
theorem ok_200 : qgood 200 := ⟨by decide +kernel, rfl, by decide +kernel⟩
set_option maxRecDepth 20000 in
theorem ok_201 : qgood 201 := ⟨by decide +kernel, rfl, by decide +kernel⟩
set_option maxRecDepth 20000 in
theorem ok_202 : qgood 202 := ⟨by decide +kernel, rfl, by decide +kernel⟩
set_option maxRecDepth 20000 in
theorem ok_203 : qgood 203 := ⟨by decide +kernel, rfl, by decide +kernel⟩
set_option maxRecDepth 20000 in
theorem ok_204 : qgood 204 := ⟨by decide +kernel, rfl, by decide +kernel⟩
set_option maxRecDepth 20000 in
theorem ok_205 : qgood 205 := ⟨by decide +kernel, rfl, by decide +kernel⟩
set_option maxRecDepth 20000 in
theorem ok_206 : qgood 206 := ⟨by decide +kernel, rfl, by decide +kernel⟩
set_option maxRecDepth 20000 in
theorem ok_207 : qgood 207 := ⟨by decide +kernel, rfl, by decide +kernel⟩
set_option maxRecDepth 20000 in
theorem ok_209 : qgood 209 := ⟨by decide +kernel, rfl, by decide +kernel⟩
set_option maxRecDepth 20000 in
theorem ok_210 : qgood 210 := ⟨by decide +kernel, rfl, by decide +kernel⟩
set_option maxRecDepth 20000 in
theorem ok_211 : qgood 211 := ⟨by decide +kernel, rfl, by decide +kernel⟩
set_option maxRecDepth 20000 in
theorem ok_212 : qgood 212 := ⟨by decide +kernel, rfl, by decide +kernel⟩
set_option maxRecDepth 20000 in
theorem ok_213 : qgood 213 := ⟨by decide +kernel, rfl, by decide +kernel⟩
set_option maxRecDepth 20000 in
theorem ok_214 : qgood 214 := ⟨by decide +kernel, rfl, by decide +kernel⟩
set_option maxRecDepth 20000 in
theorem ok_215 : qgood 215 := ⟨by decide +kernel, rfl, by decide +kernel⟩
set_option maxRecDepth 20000 in
theorem ok_216 : qgood 216 := ⟨by decide +kernel, rfl, by decide +kernel⟩
set_option maxRecDepth 20000 in
theorem ok_217 : qgood 217 := ⟨by decide +kernel, rfl, by decide +kernel⟩
set_option maxRecDepth 20000 in
theorem ok_218 : qgood 218 := ⟨by decide +kernel, rfl, by decide +kernel⟩
set_option maxRecDepth 20000 in
theorem ok_219 : qgood 219 := ⟨by decide +kernel, rfl, by decide +kernel⟩
set_option maxRecDepth 20000 in
theorem ok_220 : qgood 220 := ⟨by decide +kernel, rfl, by decide +kernel⟩
set_option maxRecDepth 20000 in
theorem ok_221 : qgood 221 := ⟨by decide +kernel, rfl, by decide +kernel⟩
set_option maxRecDepth 20000 in
theorem ok_222 : qgood 222 := ⟨by decide +kernel, rfl, by decide +kernel⟩
set_option maxRecDepth 20000 in
theorem ok_223 : qgood 223 := ⟨by decide +kernel, rfl, by decide +kernel⟩
set_option maxRecDepth 20000 in
theorem ok_224 : qgood 224 := ⟨by decide +kernel, rfl, by decide +kernel⟩
set_option maxRecDepth 20000 in
theorem ok_225 : qgood 225 := ⟨by decide +kernel, rfl, by decide +kernel⟩
set_option maxRecDepth 20000 in
theorem ok_226 : qgood 226 := ⟨by decide +kernel, rfl, by decide +kernel⟩
set_option maxRecDepth 20000 in
theorem ok_227 : qgood 227 := ⟨by decide +kernel, rfl, by decide +kernel⟩
set_option maxRecDepth 20000 in
theorem ok_228 : qgood 228 := ⟨by decide +kernel, rfl, by decide +kernel⟩
set_option maxRecDepth 20000 in
theorem ok_229 : qgood 229 := ⟨by decide +kernel, rfl, by decide +kernel⟩
set_option maxRecDepth 20000 in
theorem ok_230 : qgood 230 := ⟨by decide +kernel, rfl, by decide +kernel⟩
set_option maxRecDepth 20000 in
theorem ok_231 : qgood 231 := ⟨by decide +kernel, rfl, by decide +kernel⟩
set_option maxRecDepth 20000 in
theorem ok_232 : qgood 232 := ⟨by decide +kernel, rfl, by decide +kernel⟩
set_option maxRecDepth 20000 in
theorem ok_233 : qgood 233 := ⟨by decide +kernel, rfl, by decide +kernel⟩
set_option maxRecDepth 20000 in
theorem ok_234 : qgood 234 := ⟨by decide +kernel, rfl, by decide +kernel⟩
set_option maxRecDepth 20000 in
theorem ok_235 : qgood 235 := ⟨by decide +kernel, rfl, by decide +kernel⟩
set_option maxRecDepth 20000 in
theorem ok_236 : qgood 236 := ⟨by decide +kernel, rfl, by decide +kernel⟩
set_option maxRecDepth 20000 in
theorem ok_237 : qgood 237 := ⟨by decide +kernel, rfl, by decide +kernel⟩
set_option maxRecDepth 20000 in
theorem ok_238 : qgood 238 := ⟨by decide +kernel, rfl, by decide +kernel⟩
set_option maxRecDepth 20000 in
theorem ok_239 : qgood 239 := ⟨by decide +kernel, rfl, by decide +kernel⟩
set_option maxRecDepth 20000 in
theorem ok_240 : qgood 240 := ⟨by decide +kernel, rfl, by decide +kernel⟩
set_option maxRecDepth 20000 in
theorem ok_241 : qgood 241 := ⟨by decide +kernel, rfl, by decide +kernel⟩
set_option maxRecDepth 20000 in
theorem ok_242 : qgood 242 := ⟨by decide +kernel, rfl, by decide +kernel⟩
set_option maxRecDepth 20000 in
theorem ok_243 : qgood 243 := ⟨by decide +kernel, rfl, by decide +kernel⟩
set_option maxRecDepth 20000 in
theorem ok_244 : qgood 244 := ⟨by decide +kernel, rfl, by decide +kernel⟩
set_option maxRecDepth 20000 in
theorem ok_245 : qgood 245 := ⟨by decide +kernel, rfl, by decide +kernel⟩
set_option maxRecDepth 20000 in
theorem ok_246 : qgood 246 := ⟨by decide +kernel, rfl, by decide +kernel⟩
set_option maxRecDepth 20000 in
theorem ok_247 : qgood 247 := ⟨by decide +kernel, rfl, by decide +kernel⟩
set_option maxRecDepth 20000 in
theorem ok_248 : qgood 248 := ⟨by decide +kernel, rfl, by decide +kernel⟩
set_option maxRecDepth 20000 in
theorem ok_249 : qgood 249 := ⟨by decide +kernel, rfl, by decide +kernel⟩
set_option maxRecDepth 20000 in
theorem ok_250 : qgood 250 := ⟨by decide +kernel, rfl, by decide +kernel⟩
set_option maxRecDepth 20000 in
theorem ok_251 : qgood 251 := ⟨by decide +kernel, rfl, by decide +kernel⟩
set_option maxRecDepth 20000 in
theorem ok_252 : qgood 252 := ⟨by decide +kernel, rfl, by decide +kernel⟩
set_option maxRecDepth 20000 in
theorem ok_253 : qgood 253 := ⟨by decide +kernel, rfl, by decide +kernel⟩
set_option maxRecDepth 20000 in
theorem ok_254 : qgood 254 := ⟨by decide +kernel, rfl, by decide +kernel⟩
set_option maxRecDepth 20000 in
theorem ok_255 : qgood 255 := ⟨by decide +kernel, rfl, by decide +kernel⟩
set_option maxRecDepth 20000 in
theorem ok_256 : qgood 256 := ⟨by decide +kernel, rfl, by decide +kernel⟩
set_option maxRecDepth 20000 in
theorem ok_257 : qgood 257 := ⟨by decide +kernel, rfl, by decide +kernel⟩
set_option maxRecDepth 20000 in
theorem ok_258 : qgood 258 := ⟨by decide +kernel, rfl, by decide +kernel⟩
set_option maxRecDepth 20000 in
theorem ok_259 : qgood 259 := ⟨by decide +kernel, rfl, by decide +kernel⟩
set_option maxRecDepth 20000 in
theorem ok_260 : qgood 260 := ⟨by decide +kernel, rfl, by decide +kernel⟩
set_option maxRecDepth 20000 in
theorem ok_261 : qgood 261 := ⟨by decide +kernel, rfl, by decide +kernel⟩
set_option maxRecDepth 20000 in
theorem ok_262 : qgood 262 := ⟨by decide +kernel, rfl, by decide +kernel⟩
set_option maxRecDepth 20000 in
theorem ok_263 : qgood 263 := ⟨by decide +kernel, rfl, by decide +kernel⟩
set_option maxRecDepth 20000 in
theorem ok_264 : qgood 264 := ⟨by decide +kernel, rfl, by decide +kernel⟩
set_option maxRecDepth 20000 in
theorem ok_265 : qgood 265 := ⟨by decide +kernel, rfl, by decide +kernel⟩
set_option maxRecDepth 20000 in
theorem ok_266 : qgood 266 := ⟨by decide +kernel, rfl, by decide +kernel⟩
set_option maxRecDepth 20000 in
theorem ok_267 : qgood 267 := ⟨by decide +kernel, rfl, by decide +kernel⟩
set_option maxRecDepth 20000 in
theorem ok_268 : qgood 268 := ⟨by decide +kernel, rfl, by decide +kernel⟩
set_option maxRecDepth 20000 in
theorem ok_269 : qgood 269 := ⟨by decide +kernel, rfl, by decide +kernel⟩
set_option maxRecDepth 20000 in
theorem ok_270 : qgood 270 := ⟨by decide +kernel, rfl, by decide +kernel⟩
set_option maxRecDepth 20000 in
theorem ok_271 : qgood 271 := ⟨by decide +kernel, rfl, by decide +kernel⟩
set_option maxRecDepth 20000 in
theorem ok_272 : qgood 272 := ⟨by decide +kernel, rfl, by decide +kernel⟩
set_option maxRecDepth 20000 in
theorem ok_273 : qgood 273 := ⟨by decide +kernel, rfl, by decide +kernel⟩
set_option maxRecDepth 20000 in
theorem ok_274 : qgood 274 := ⟨by decide +kernel, rfl, by decide +kernel⟩
set_option maxRecDepth 20000 in
theorem ok_275 : qgood 275 := ⟨by decide +kernel, rfl, by decide +kernel⟩
set_option maxRecDepth 20000 in
theorem ok_276 : qgood 276 := ⟨by decide +kernel, rfl, by decide +kernel⟩
set_option maxRecDepth 20000 in
theorem ok_277 : qgood 277 := ⟨by decide +kernel, rfl, by decide +kernel⟩
set_option maxRecDepth 20000 in
theorem ok_278 : qgood 278 := ⟨by decide +kernel, rfl, by decide +kernel⟩
set_option maxRecDepth 20000 in
theorem ok_279 : qgood 279 := ⟨by decide +kernel, rfl, by decide +kernel⟩
set_option maxRecDepth 20000 in
theorem ok_280 : qgood 280 := ⟨by decide +kernel, rfl, by decide +kernel⟩
set_option maxRecDepth 20000 in
theorem ok_281 : qgood 281 := ⟨by decide +kernel, rfl, by decide +kernel⟩
set_option maxRecDepth 20000 in
theorem ok_282 : qgood 282 := ⟨by decide +kernel, rfl, by decide +kernel⟩
end
section
set_option maxRecDepth 20000 in
theorem ok_283 : qgood 283 := ⟨by decide +kernel, rfl, by decide +kernel⟩
set_option maxRecDepth 20000 in
theorem ok_284 : qgood 284 := ⟨by decide +kernel, rfl, by decide +kernel⟩
set_option maxRecDepth 20000 in
theorem ok_285 : qgood 285 := ⟨by decide +kernel, rfl, by decide +kernel⟩
set_option maxRecDepth 20000 in
theorem ok_286 : qgood 286 := ⟨by decide +kernel, rfl, by decide +kernel⟩
set_option maxRecDepth 20000 in
theorem ok_287 : qgood 287 := ⟨by decide +kernel, rfl, by decide +kernel⟩
set_option maxRecDepth 20000 in
theorem ok_288 : qgood 288 := ⟨by decide +kernel, rfl, by decide +kernel⟩
set_option maxRecDepth 20000 in
theorem ok_289 : qgood 289 := ⟨by decide +kernel, rfl, by decide +kernel⟩
set_option maxRecDepth 20000 in
theorem ok_290 : qgood 290 := ⟨by decide +kernel, rfl, by decide +kernel⟩
set_option maxRecDepth 20000 in
theorem ok_291 : qgood 291 := ⟨by decide +kernel, rfl, by decide +kernel⟩
set_option maxRecDepth 20000 in
theorem ok_292 : qgood 292 := ⟨by decide +kernel, rfl, by decide +kernel⟩
set_option maxRecDepth 20000 in
theorem ok_293 : qgood 293 := ⟨by decide +kernel, rfl, by decide +kernel⟩
set_option maxRecDepth 20000 in
theorem ok_294 : qgood 294 := ⟨by decide +kernel, rfl, by decide +kernel⟩
set_option maxRecDepth 20000 in
theorem ok_295 : qgood 295 := ⟨by decide +kernel, rfl, by decide +kernel⟩
set_option maxRecDepth 20000 in
theorem ok_296 : qgood 296 := ⟨by decide +kernel, rfl, by decide +kernel⟩
set_option maxRecDepth 20000 in
theorem ok_297 : qgood 297 := ⟨by decide +kernel, rfl, by decide +kernel⟩
set_option maxRecDepth 20000 in
theorem ok_298 : qgood 298 := ⟨by decide +kernel, rfl, by decide +kernel⟩
set_option maxRecDepth 20000 in
theorem ok_299 : qgood 299 := ⟨by decide +kernel, rfl, by decide +kernel⟩
set_option maxRecDepth 20000 in
theorem ok_300 : qgood 300 := ⟨by decide +kernel, rfl, by decide +kernel⟩
set_option maxRecDepth 20000 in
theorem ok_301 : qgood 301 := ⟨by decide +kernel, rfl, by decide +kernel⟩
set_option maxRecDepth 20000 in
theorem ok_302 : qgood 302 := ⟨by decide +kernel, rfl, by decide +kernel⟩
set_option maxRecDepth 20000 in
theorem ok_303 : qgood 303 := ⟨by decide +kernel, rfl, by decide +kernel⟩
set_option maxRecDepth 20000 in
theorem ok_304 : qgood 304 := ⟨by decide +kernel, rfl, by decide +kernel⟩
set_option maxRecDepth 20000 in
theorem ok_305 : qgood 305 := ⟨by decide +kernel, rfl, by decide +kernel⟩
set_option maxRecDepth 20000 in
theorem ok_306 : qgood 306 := ⟨by decide +kernel, rfl, by decide +kernel⟩
set_option maxRecDepth 20000 in
theorem ok_307 : qgood 307 := ⟨by decide +kernel, rfl, by decide +kernel⟩
set_option maxRecDepth 20000 in
theorem ok_308 : qgood 308 := ⟨by decide +kernel, rfl, by decide +kernel⟩
set_option maxRecDepth 20000 in
theorem ok_309 : qgood 309 := ⟨by decide +kernel, rfl, by decide +kernel⟩
set_option maxRecDepth 20000 in
theorem ok_310 : qgood 310 := ⟨by decide +kernel, rfl, by decide +kernel⟩
set_option maxRecDepth 20000 in
theorem ok_311 : qgood 311 := ⟨by decide +kernel, rfl, by decide +kernel⟩
set_option maxRecDepth 20000 in
theorem ok_312 : qgood 312 := ⟨by decide +kernel, rfl, by decide +kernel⟩
set_option maxRecDepth 20000 in
theorem ok_313 : qgood 313 := ⟨by decide +kernel, rfl, by decide +kernel⟩
set_option maxRecDepth 20000 in
theorem ok_314 : qgood 314 := ⟨by decide +kernel, rfl, by decide +kernel⟩
set_option maxRecDepth 20000 in
theorem ok_315 : qgood 315 := ⟨by decide +kernel, rfl, by decide +kernel⟩
set_option maxRecDepth 20000 in
theorem ok_316 : qgood 316 := ⟨by decide +kernel, rfl, by decide +kernel⟩
set_option maxRecDepth 20000 in
theorem ok_317 : qgood 317 := ⟨by decide +kernel, rfl, by decide +kernel⟩
set_option maxRecDepth 20000 in
theorem ok_318 : qgood 318 := ⟨by decide +kernel, rfl, by decide +kernel⟩
set_option maxRecDepth 20000 in
theorem ok_319 : qgood 319 := ⟨by decide +kernel, rfl, by decide +kernel⟩
set_option maxRecDepth 20000 in
theorem ok_320 : qgood 320 := ⟨by decide +kernel, rfl, by decide +kernel⟩
set_option maxRecDepth 20000 in
theorem ok_321 : qgood 321 := ⟨by decide +kernel, rfl, by decide +kernel⟩
set_option maxRecDepth 20000 in
theorem ok_322 : qgood 322 := ⟨by decide +kernel, rfl, by decide +kernel⟩
set_option maxRecDepth 20000 in
theorem ok_323 : qgood 323 := ⟨by decide +kernel, rfl, by decide +kernel⟩
set_option maxRecDepth 20000 in
theorem ok_324 : qgood 324 := ⟨by decide +kernel, rfl, by decide +kernel⟩
set_option maxRecDepth 20000 in
theorem ok_325 : qgood 325 := ⟨by decide +kernel, rfl, by decide +kernel⟩
set_option maxRecDepth 20000 in
theorem ok_326 : qgood 326 := ⟨by decide +kernel, rfl, by decide +kernel⟩
set_option maxRecDepth 20000 in
theorem ok_327 : qgood 327 := ⟨by decide +kernel, rfl, by decide +kernel⟩
set_option maxRecDepth 20000 in
theorem ok_328 : qgood 328 := ⟨by decide +kernel, rfl, by decide +kernel⟩
set_option maxRecDepth 20000 in
theorem ok_329 : qgood 329 := ⟨by decide +kernel, rfl, by decide +kernel⟩
set_option maxRecDepth 20000 in
theorem ok_330 : qgood 330 := ⟨by decide +kernel, rfl, by decide +kernel⟩
set_option maxRecDepth 20000 in
theorem ok_331 : qgood 331 := ⟨by decide +kernel, rfl, by decide +kernel⟩
set_option maxRecDepth 20000 in
theorem ok_332 : qgood 332 := ⟨by decide +kernel, rfl, by decide +kernel⟩
set_option maxRecDepth 20000 in
theorem ok_333 : qgood 333 := ⟨by decide +kernel, rfl, by decide +kernel⟩
set_option maxRecDepth 20000 in
theorem ok_334 : qgood 334 := ⟨by decide +kernel, rfl, by decide +kernel⟩
set_option maxRecDepth 20000 in
theorem ok_335 : qgood 335 := ⟨by decide +kernel, rfl, by decide +kernel⟩
set_option maxRecDepth 20000 in
theorem ok_336 : qgood 336 := ⟨by decide +kernel, rfl, by decide +kernel⟩
set_option maxRecDepth 20000 in
theorem ok_337 : qgood 337 := ⟨by decide +kernel, rfl, by decide +kernel⟩
set_option maxRecDepth 20000 in
theorem ok_338 : qgood 338 := ⟨by decide +kernel, rfl, by decide +kernel⟩
set_option maxRecDepth 20000 in
theorem ok_339 : qgood 339 := ⟨by decide +kernel, rfl, by decide +kernel⟩
set_option maxRecDepth 20000 in
theorem ok_340 : qgood 340 := ⟨by decide +kernel, rfl, by decide +kernel⟩
set_option maxRecDepth 20000 in
theorem ok_341 : qgood 341 := ⟨by decide +kernel, rfl, by decide +kernel⟩
set_option maxRecDepth 20000 in
theorem ok_342 : qgood 342 := ⟨by decide +kernel, rfl, by decide +kernel⟩
set_option maxRecDepth 20000 in
theorem ok_343 : qgood 343 := ⟨by decide +kernel, rfl, by decide +kernel⟩
set_option maxRecDepth 20000 in
theorem ok_344 : qgood 344 := ⟨by decide +kernel, rfl, by decide +kernel⟩
set_option maxRecDepth 20000 in
theorem ok_345 : qgood 345 := ⟨by decide +kernel, rfl, by decide +kernel⟩
set_option maxRecDepth 20000 in
theorem ok_346 : qgood 346 := ⟨by decide +kernel, rfl, by decide +kernel⟩
set_option maxRecDepth 20000 in
theorem ok_347 : qgood 347 := ⟨by decide +kernel, rfl, by decide +kernel⟩
set_option maxRecDepth 20000 in
theorem ok_348 : qgood 348 := ⟨by decide +kernel, rfl, by decide +kernel⟩
set_option maxRecDepth 20000 in
theorem ok_349 : qgood 349 := ⟨by decide +kernel, rfl, by decide +kernel⟩
set_option maxRecDepth 20000 in
theorem ok_350 : qgood 350 := ⟨by decide +kernel, rfl, by decide +kernel⟩
set_option maxRecDepth 20000 in
theorem ok_351 : qgood 351 := ⟨by decide +kernel, rfl, by decide +kernel⟩
set_option maxRecDepth 20000 in
theorem ok_352 : qgood 352 := ⟨by decide +kernel, rfl, by decide +kernel⟩
set_option maxRecDepth 20000 in
theorem ok_353 : qgood 353 := ⟨by decide +kernel, rfl, by decide +kernel⟩
set_option maxRecDepth 20000 in
theorem ok_354 : qgood 354 := ⟨by decide +kernel, rfl, by decide +kernel⟩
set_option maxRecDepth 20000 in
theorem ok_355 : qgood 355 := ⟨by decide +kernel, rfl, by decide +kernel⟩
set_option maxRecDepth 20000 in
theorem ok_356 : qgood 356 := ⟨by decide +kernel, rfl, by decide +kernel⟩
set_option maxRecDepth 20000 in
theorem ok_357 : qgood 357 := ⟨by decide +kernel, rfl, by decide +kernel⟩
set_option maxRecDepth 20000 in
theorem ok_358 : qgood 358 := ⟨by decide +kernel, rfl, by decide +kernel⟩
set_option maxRecDepth 20000 in
theorem ok_359 : qgood 359 := ⟨by decide +kernel, rfl, by decide +kernel⟩
set_option maxRecDepth 20000 in
theorem ok_360 : qgood 360 := ⟨by decide +kernel, rfl, by decide +kernel⟩
set_option maxRecDepth 20000 in
theorem ok_361 : qgood 361 := ⟨by decide +kernel, rfl, by decide +kernel⟩
set_option maxRecDepth 20000 in
theorem ok_362 : qgood 362 := ⟨by decide +kernel, rfl, by decide +kernel⟩
set_option maxRecDepth 20000 in
theorem ok_363 : qgood 363 := ⟨by decide +kernel, rfl, by decide +kernel⟩
set_option maxRecDepth 20000 in
theorem ok_364 : qgood 364 := ⟨by decide +kernel, rfl, by decide +kernel⟩
set_option maxRecDepth 20000 in
theorem ok_365 : qgood 365 := ⟨by decide +kernel, rfl, by decide +kernel⟩
set_option maxRecDepth 20000 in
theorem ok_366 : qgood 366 := ⟨by decide +kernel, rfl, by decide +kernel⟩
set_option maxRecDepth 20000 in
theorem ok_367 : qgood 367 := ⟨by decide +kernel, rfl, by decide +kernel⟩
set_option maxRecDepth 20000 in
theorem ok_368 : qgood 368 := ⟨by decide +kernel, rfl, by decide +kernel⟩
set_option maxRecDepth 20000 in
theorem ok_369 : qgood 369 := ⟨by decide +kernel, rfl, by decide +kernel⟩
set_option maxRecDepth 20000 in
theorem ok_370 : qgood 370 := ⟨by decide +kernel, rfl, by decide +kernel⟩
end
section
/-! THE CORE. A method's state in plain words: locals, stack, and the two tables of numbers that all cells hold (ints, longs). References never change behind the constructors: qRf. qW says what must hold ahead of a row of instructions; qV is what the machine does; qV.go: the one gives the other. -/
abbrev qPV : Type := Int32 ⊕ Int64 ⊕ Option Nat
abbrev qi (x : Int32) : qPV := .inl x
abbrev ql (x : Int64) : qPV := .inr (.inl x)
abbrev qr (k : Nat) : qPV := .inr (.inr (some k))
abbrev qLo : Type := List (Option qPV)
abbrev qSg : Type := (Nat → Nat → Int32) × (Nat → Nat → Int64)
abbrev qE : Type := va_G × (Nat → Nat) × (Nat → ClassId) × Nat
abbrev qQ : Type := (Int32 → qSg → Prop) ⊕ (Int64 → qSg → Prop) ⊕ (qSg → Prop)
def qTV (ad : Nat → Nat) : qPV → Value
  | .inl x => .int x
  | .inr (.inl x) => .long x
  | .inr (.inr none) => .null
  | .inr (.inr (some k)) => .ref (ad k)
def qIsI : qPV → Prop
  | .inl _ => True
  | _ => False
def qIsL : qPV → Prop
  | .inr (.inl _) => True
  | _ => False
def qIsR : qPV → Prop
  | .inr (.inr (some _)) => True
  | _ => False
def qil : qPV → Bool
  | .inr (.inl _) => true
  | _ => false
def qint : qPV → Int32
  | .inl x => x
  | _ => 0
def qlg : qLo → Nat → qPV
  | [], _ => .inr (.inr none)
  | h :: _, 0 => h.getD (.inr (.inr none))
  | _ :: t, n + 1 => qlg t n
def qmax (x y : Int32) : Int32 := if x < y then y else x
def qmin (x y : Int32) : Int32 := if y < x then y else x
def qabs (x : Int32) : Int32 := if 0 ≤ x then x else 0 - x
def qkl : Option qPV → Option qPV
  | some (.inr (.inl _)) => none
  | h => h
def qls0 (t : qLo) (v : qPV) : qLo := some v :: (if qil v then (match t with | [] => [] | _ :: t' => none :: t') else t)
def qls : qLo → Nat → qPV → qLo
  | [], _, _ => []
  | _ :: t, 0, v => qls0 t v
  | h :: t, n + 1, v => (if n = 0 then qkl h else h) :: qls t n v
def qfl (σ : qSg) (a k f : Nat) : qPV := if f = 1 then .inr (.inl (σ.2 a k)) else if f = 2 then .inr (.inr (qRf a k)) else .inl (σ.1 a k)
def qwi (σ : qSg) (a k : Nat) (x : Int32) : qSg := (fun b j => if b = a ∧ j = k then x else σ.1 b j, σ.2)
def qwl (σ : qSg) (a k : Nat) (x : Int64) : qSg := (σ.1, fun b j => if b = a ∧ j = k then x else σ.2 b j)
def qci (σ : qSg) (a i b j n : Nat) : qSg := (fun c k => if c = b then va_cpy (σ.1 a) (σ.1 b) i j n k else σ.1 c k, σ.2)
def qcl (σ : qSg) (a i b j n : Nat) : qSg := (σ.1, fun c k => if c = b then va_cpy (σ.2 a) (σ.2 b) i j n k else σ.2 c k)
def qin (i : Int32) (n : Nat) : Prop := ¬ i < 0 ∧ i.toNatClampNeg < n
def qrg (i z : Int32) (n : Nat) : Prop := ¬ i < 0 ∧ ¬ z < 0 ∧ i.toNatClampNeg + z.toNatClampNeg ≤ n
def qcs : List qPV → Nat
  | [] => 0
  | v :: t => (if qil v then 2 else 1) + qcs t
-- the world of cells
def qfv (E : qE) (σ : qSg) (c k j : Nat) : Value := qTV E.2.1 (qfl σ k j (qft c j))
def qent (E : qE) (σ : qSg) (k : Nat) : va_E :=
  if 10 ≤ (qKd k).1 then .inr ((qKd k).1 - 10, (List.range (qKd k).2).map (fun j => qfv E σ ((qKd k).1 - 10) k j))
  else .inl (E.2.2.1 (qKd k).1, (qKd k).2, if (qKd k).1 = 1 then .inr (.inl (σ.2 k)) else if 4 ≤ (qKd k).1 then .inr (.inr (.inr (.inr fun j => (qRf k j).map E.2.1))) else .inl (σ.1 k))
def qws (E : qE) (σ : qSg) : va_W := (List.range qKL.length).map fun k => (E.2.1 k, qent E σ k)
def qtys (E : qE) : List (ClassId × FieldType) := [(E.2.2.1 0, .int), (E.2.2.1 1, .long), (E.2.2.1 2, .byte), (E.2.2.1 3, .boolean), (E.2.2.1 4, .object "ForgiveCamp$Camp"), (E.2.2.1 5, .object "ForgiveCamp$Weeks")]
def qA (E : qE) : Nat → Prop := fun q => E.2.2.2 ≤ q
def qStr (E : qE) (U : State) (H : Heap) : Prop := vk_R RX12 qKEYi qKEYS (E.2.1 1000) U ∧ vk_S 1 [qKEYb.length] [qKEYb] (fun _ => E.2.1 1000) (fun _ => E.2.1 1001) (qA E) U H ∧ va_Z "java/lang/String" "COMPACT_STRINGS" "Z" (.int 1) (qA E) U H ∧ va_Zq "jdk/internal/util/Preconditions" "SIOOBE_FORMATTER" "Ljava/util/function/BiFunction;" (qA E) U H
def qWU (E : qE) (σ : qSg) (U : State) : Prop := va_P E.1 vwCl (qws E σ) U.heap ∧ va_K E.1 vwCl (qtys E) U ∧ va_D (qA E) (qws E σ) ∧ qStr E U U.heap ∧ E.2.2.2 ≤ U.heap.size
-- contracts
def qAW (mi : qMI) : List Cond := Cond.code mi.1 mi.2.1 mi.2.2.1 mi.2.2.2.1 :: qAL
def qRm (d : Nat) : Room := { frames := d, cells := 0, slots := 0, locals := 64 * d }
def qCI (d k : Nat) (a : List qPV) (σ : qSg) (Q : Int32 → qSg → Prop) : Prop := qgood k ∧ ∀ (l : Launch) (E : qE), Met l (qMT k).1 (qAW (qMT k)) (qRm d) (va_Pc (a.map (qTV E.2.1)) (qWU E σ)) (va_Qi Q (qWU E) (qA E)) 0 0 (qA E)
def qCL (d k : Nat) (a : List qPV) (σ : qSg) (Q : Int64 → qSg → Prop) : Prop := qgood k ∧ ∀ (l : Launch) (E : qE), Met l (qMT k).1 (qAW (qMT k)) (qRm d) (va_Pc (a.map (qTV E.2.1)) (qWU E σ)) (va_Ql Q (qWU E) (qA E)) 0 0 (qA E)
def qCV (d k : Nat) (a : List qPV) (σ : qSg) (Q : qSg → Prop) : Prop := qgood k ∧ ∀ (l : Launch) (E : qE), Met l (qMT k).1 (qAW (qMT k)) (qRm d) (va_Pc (a.map (qTV E.2.1)) (qWU E σ)) (va_Qv Q (qWU E) (qA E)) 0 0 (qA E)
def qBI (d k : Nat) (a : List qPV) (σ : qSg) (Q : Int32 → qSg → Prop) : Prop := ∃ d' P, d' < d ∧ qCI d' k a σ P ∧ ∀ r σ', P r σ' → Q r σ'
def qBL (d k : Nat) (a : List qPV) (σ : qSg) (Q : Int64 → qSg → Prop) : Prop := ∃ d' P, d' < d ∧ qCL d' k a σ P ∧ ∀ r σ', P r σ' → Q r σ'
def qBV (d k : Nat) (a : List qPV) (σ : qSg) (Q : qSg → Prop) : Prop := ∃ d' P, d' < d ∧ qCV d' k a σ P ∧ ∀ σ', P σ' → Q σ'
def qRcv (c : Nat) : List qPV → Prop
  | .inr (.inr (some a)) :: _ => if c = 0 then True else if c = 91 then a = 1000 else (qKd a).1 = 9 + c
  | _ => c = 0
def qcall (d : Nat) (K : qLo → List qPV → qSg → Prop) (lo : qLo) (st : List qPV) (σ : qSg) (k np rk c : Nat) : Prop :=
  np ≤ st.length ∧ qcs (st.drop np) ≤ 8 ∧ qRcv c (st.take np).reverse ∧
    (if rk = 0 then qBI d k (st.take np).reverse σ (fun r σ' => K lo (.inl r :: st.drop np) σ')
     else if rk = 1 then qBL d k (st.take np).reverse σ (fun r σ' => K lo (.inr (.inl r) :: st.drop np) σ')
     else qBV d k (st.take np).reverse σ (fun σ' => K lo (st.drop np) σ'))
def qmath (d : Nat) (K : qLo → List qPV → qSg → Prop) (lo : qLo) (st : List qPV) (σ : qSg) (j : Nat) : Prop :=
  if j = 2 then (match st with
    | .inl x :: st => qcs st ≤ 8 ∧ 0 < d ∧ K lo (.inl (qabs x) :: st) σ
    | _ => False)
  else (match st with
    | .inl y :: .inl x :: st => qcs st ≤ 8 ∧ 0 < d ∧ K lo (.inl (if j = 0 then qmax x y else qmin x y) :: st) σ
    | _ => False)
def qrI : qQ → Int32 → qSg → Prop
  | .inl q => q
  | _ => fun _ _ => False
def qrL : qQ → Int64 → qSg → Prop
  | .inr (.inl q) => q
  | _ => fun _ _ => False
def qrV : qQ → qSg → Prop
  | .inr (.inr q) => q
  | _ => fun _ => False
def qsl (J : Nat → qLo → List qPV → qSg → Prop) (lo : qLo) (st : List qPV) (σ : qSg) (x : Int32) : Int → List Nat → Prop
  | _, [] => True
  | a, t :: ts => (x.toInt = a → J t lo st σ) ∧ qsl J lo st σ x (a + 1) ts
def qsw (J : Nat → qLo → List qPV → qSg → Prop) (lo : qLo) (st : List qPV) (σ : qSg) (x : Int32) (a b : Int) (t : Nat) (ts : List Nat) : Prop := (x.toInt < a ∨ b < x.toInt → J t lo st σ) ∧ qsl J lo st σ x a ts

def qX (d : Nat) (J : Nat → qLo → List qPV → qSg → Prop) (Q : qQ) (i : Instr) (dt : List Nat) (K : qLo → List qPV → qSg → Prop) (lo : qLo) (st : List qPV) (σ : qSg) : Prop :=
  match i, dt, st with
  | .nop, [t], st => J t lo st σ
  | .iconst n, [v], st => K lo (.inl (nI v) :: st) σ
  | .iconst n, [], st => K lo (.inl (Int32.ofInt n) :: st) σ
  | .bipush n, [v], st => K lo (.inl (nI v) :: st) σ
  | .bipush n, [], st => K lo (.inl (Int32.ofInt n) :: st) σ
  | .sipush n, [v], st => K lo (.inl (nI v) :: st) σ
  | .sipush n, [], st => K lo (.inl (Int32.ofInt n) :: st) σ
  | .ldc n, [h, v], st => K lo (.inl (nI v) :: st) σ
  | .ldc n, [h, k, z], st => K lo (.inr (.inr (some k)) :: st) σ
  | .ldc_w n, [h, v], st => K lo (.inl (nI v) :: st) σ
  | .ldc2_w n, [h, v], st => K lo (.inr (.inl (lN v)) :: st) σ
  | .ldc2_w n, [h, v, z], st => K lo (.inr (.inl (-(lN v))) :: st) σ
  | .lconst n, [], st => K lo (.inr (.inl (lN n)) :: st) σ
  | .iload_n n, [], st => qIsI (qlg lo n) ∧ K lo (qlg lo n :: st) σ
  | .iload n, [], st => qIsI (qlg lo n) ∧ K lo (qlg lo n :: st) σ
  | .lload_n n, [], st => qIsL (qlg lo n) ∧ K lo (qlg lo n :: st) σ
  | .lload n, [], st => qIsL (qlg lo n) ∧ K lo (qlg lo n :: st) σ
  | .aload_n n, [], st => qIsR (qlg lo n) ∧ K lo (qlg lo n :: st) σ
  | .aload n, [], st => qIsR (qlg lo n) ∧ K lo (qlg lo n :: st) σ
  | .istore_n n, [], .inl x :: st => K (qls lo n (.inl x)) st σ
  | .istore n, [], .inl x :: st => K (qls lo n (.inl x)) st σ
  | .lstore_n n, [], .inr (.inl x) :: st => K (qls lo n (.inr (.inl x))) st σ
  | .lstore n, [], .inr (.inl x) :: st => K (qls lo n (.inr (.inl x))) st σ
  | .astore_n n, [], .inr (.inr (some x)) :: st => K (qls lo n (.inr (.inr (some x)))) st σ
  | .astore n, [], .inr (.inr (some x)) :: st => K (qls lo n (.inr (.inr (some x)))) st σ
  | .iinc n c, [v], st => qIsI (qlg lo n) ∧ K (qls lo n (.inl (qint (qlg lo n) + nI v))) st σ
  | .iinc n c, [], st => qIsI (qlg lo n) ∧ K (qls lo n (.inl (qint (qlg lo n) + Int32.ofInt c))) st σ
  | .iadd, [], .inl y :: .inl x :: st => K lo (.inl (x + y) :: st) σ
  | .isub, [], .inl y :: .inl x :: st => K lo (.inl (x - y) :: st) σ
  | .imul, [], .inl y :: .inl x :: st => K lo (.inl (x * y) :: st) σ
  | .iand, [], .inl y :: .inl x :: st => K lo (.inl (x &&& y) :: st) σ
  | .ior, [], .inl y :: .inl x :: st => K lo (.inl (x ||| y) :: st) σ
  | .ixor, [], .inl y :: .inl x :: st => K lo (.inl (x ^^^ y) :: st) σ
  | .ishl, [], .inl y :: .inl x :: st => K lo (.inl (x <<< (y &&& 31)) :: st) σ
  | .ishr, [], .inl y :: .inl x :: st => K lo (.inl (x >>> (y &&& 31)) :: st) σ
  | .iushr, [], .inl y :: .inl x :: st => K lo (.inl ((x.toUInt32 >>> (y.toUInt32 &&& Int32.toUInt32 31)).toInt32) :: st) σ
  | .idiv, [], .inl y :: .inl x :: st => ¬ y = 0 ∧ K lo (.inl (x / y) :: st) σ
  | .irem, [], .inl y :: .inl x :: st => ¬ y = 0 ∧ K lo (.inl (x - x / y * y) :: st) σ
  | .ineg, [], .inl x :: st => K lo (.inl (-x) :: st) σ
  | .ladd, [], .inr (.inl y) :: .inr (.inl x) :: st => K lo (.inr (.inl (x + y)) :: st) σ
  | .lsub, [], .inr (.inl y) :: .inr (.inl x) :: st => K lo (.inr (.inl (x - y)) :: st) σ
  | .lmul, [], .inr (.inl y) :: .inr (.inl x) :: st => K lo (.inr (.inl (x * y)) :: st) σ
  | .land, [], .inr (.inl y) :: .inr (.inl x) :: st => K lo (.inr (.inl (x &&& y)) :: st) σ
  | .lor, [], .inr (.inl y) :: .inr (.inl x) :: st => K lo (.inr (.inl (x ||| y)) :: st) σ
  | .ldiv, [], .inr (.inl y) :: .inr (.inl x) :: st => ¬ y = 0 ∧ K lo (.inr (.inl (x / y)) :: st) σ
  | .lrem, [], .inr (.inl y) :: .inr (.inl x) :: st => ¬ y = 0 ∧ K lo (.inr (.inl (x - x / y * y)) :: st) σ
  | .lshl, [], .inl y :: .inr (.inl x) :: st => K lo (.inr (.inl (x <<< (y.toInt64 &&& 63))) :: st) σ
  | .lcmp, [], .inr (.inl y) :: .inr (.inl x) :: st => K lo (.inl (lg_cmp x y) :: st) σ
  | .i2l, [], .inl x :: st => K lo (.inr (.inl x.toInt64) :: st) σ
  | .l2i, [], .inr (.inl x) :: st => K lo (.inl x.toInt32 :: st) σ
  | .i2b, [], .inl x :: st => K lo (.inl x.toInt8.toInt32 :: st) σ
  | .i2s, [], .inl x :: st => K lo (.inl x.toInt16.toInt32 :: st) σ
  | .dup, [], v :: st => qil v = false ∧ K lo (v :: v :: st) σ
  | .pop, [], v :: st => qil v = false ∧ K lo st σ
  | .dup2, [], v :: u :: st => qil v = false ∧ qil u = false ∧ K lo (v :: u :: v :: u :: st) σ
  | .aconst_null, [], st => K lo (.inr (.inr none) :: st) σ
  | .ifCond .eq o, [t], .inl x :: st => (x = 0 → J t lo st σ) ∧ (¬ x = 0 → K lo st σ)
  | .if_icmp .eq o, [t], .inl y :: .inl x :: st => (x = y → J t lo st σ) ∧ (¬ x = y → K lo st σ)
  | .ifCond .ne o, [t], .inl x :: st => (¬ x = 0 → J t lo st σ) ∧ (x = 0 → K lo st σ)
  | .if_icmp .ne o, [t], .inl y :: .inl x :: st => (¬ x = y → J t lo st σ) ∧ (x = y → K lo st σ)
  | .ifCond .lt o, [t], .inl x :: st => (x < 0 → J t lo st σ) ∧ (¬ x < 0 → K lo st σ)
  | .if_icmp .lt o, [t], .inl y :: .inl x :: st => (x < y → J t lo st σ) ∧ (¬ x < y → K lo st σ)
  | .ifCond .ge o, [t], .inl x :: st => (0 ≤ x → J t lo st σ) ∧ (¬ 0 ≤ x → K lo st σ)
  | .if_icmp .ge o, [t], .inl y :: .inl x :: st => (y ≤ x → J t lo st σ) ∧ (¬ y ≤ x → K lo st σ)
  | .ifCond .gt o, [t], .inl x :: st => (0 < x → J t lo st σ) ∧ (¬ 0 < x → K lo st σ)
  | .if_icmp .gt o, [t], .inl y :: .inl x :: st => (y < x → J t lo st σ) ∧ (¬ y < x → K lo st σ)
  | .ifCond .le o, [t], .inl x :: st => (x ≤ 0 → J t lo st σ) ∧ (¬ x ≤ 0 → K lo st σ)
  | .if_icmp .le o, [t], .inl y :: .inl x :: st => (x ≤ y → J t lo st σ) ∧ (¬ x ≤ y → K lo st σ)
  | .goto o, [t], st => J t lo st σ
  | .ifnull o, [t], .inr (.inr (some x)) :: st => K lo st σ
  | .ifnonnull o, [t], .inr (.inr (some x)) :: st => J t lo st σ
  | .tableswitch e a b os, t :: ts, .inl x :: st => qsw J lo st σ x a b t ts
  | .getfield n, [c, k, h, f], .inr (.inr (some a)) :: st => (qKd a).1 = 10 + c ∧ K lo (qfl σ a k f :: st) σ
  | .putfield n, [c, k, h, f], .inl x :: .inr (.inr (some a)) :: st => (f = 0 ∨ (f = 3 ∧ (x = nI 0 ∨ x = nI 1))) ∧ (qKd a).1 = 10 + c ∧ K lo st (qwi σ a k x)
  | .putfield n, [c, k, h, f], .inr (.inl x) :: .inr (.inr (some a)) :: st => f = 1 ∧ (qKd a).1 = 10 + c ∧ K lo st (qwl σ a k x)
  | .iaload, [], .inl i :: .inr (.inr (some a)) :: st => (qKd a).1 = 0 ∧ qin i (qKd a).2 ∧ K lo (.inl (σ.1 a i.toNatClampNeg) :: st) σ
  | .laload, [], .inl i :: .inr (.inr (some a)) :: st => (qKd a).1 = 1 ∧ qin i (qKd a).2 ∧ K lo (.inr (.inl (σ.2 a i.toNatClampNeg)) :: st) σ
  | .baload, [], .inl i :: .inr (.inr (some a)) :: st => ((qKd a).1 = 2 ∨ (qKd a).1 = 3) ∧ qin i (qKd a).2 ∧ K lo (.inl (σ.1 a i.toNatClampNeg) :: st) σ
  | .aaload, [], .inl i :: .inr (.inr (some a)) :: st => ((qKd a).1 = 4 ∨ (qKd a).1 = 5) ∧ qin i (qKd a).2 ∧ K lo (.inr (.inr (qRf a i.toNatClampNeg)) :: st) σ
  | .iastore, [], .inl x :: .inl i :: .inr (.inr (some a)) :: st => (qKd a).1 = 0 ∧ qin i (qKd a).2 ∧ K lo st (qwi σ a i.toNatClampNeg x)
  | .lastore, [], .inr (.inl x) :: .inl i :: .inr (.inr (some a)) :: st => (qKd a).1 = 1 ∧ qin i (qKd a).2 ∧ K lo st (qwl σ a i.toNatClampNeg x)
  | .bastore, [], .inl x :: .inl i :: .inr (.inr (some a)) :: st => ((qKd a).1 = 2 ∧ qin i (qKd a).2 ∧ K lo st (qwi σ a i.toNatClampNeg x.toInt8.toInt32)) ∨ ((qKd a).1 = 3 ∧ qin i (qKd a).2 ∧ (x = nI 0 ∨ x = nI 1) ∧ K lo st (qwi σ a i.toNatClampNeg x))
  | .invokestatic n, [h], .inl z :: .inl j :: .inr (.inr (some b)) :: .inl i :: .inr (.inr (some a)) :: st => ((qKd a).1 = 0 ∧ (qKd b).1 = 0 ∧ (0 < (qKd a).2 ∧ 0 < (qKd b).2) ∧ qrg i z (qKd a).2 ∧ qrg j z (qKd b).2 ∧ qcs st ≤ 8 ∧ 0 < d ∧ K lo st (qci σ a i.toNatClampNeg b j.toNatClampNeg z.toNatClampNeg)) ∨ ((qKd a).1 = 1 ∧ (qKd b).1 = 1 ∧ (0 < (qKd a).2 ∧ 0 < (qKd b).2) ∧ qrg i z (qKd a).2 ∧ qrg j z (qKd b).2 ∧ qcs st ≤ 8 ∧ 0 < d ∧ K lo st (qcl σ a i.toNatClampNeg b j.toNatClampNeg z.toNatClampNeg))
  | .invokestatic n, [h, j], st => qmath d K lo st σ j
  | .invokestatic n, [k, h, np, rk, c], st => qcall d K lo st σ k np rk c
  | .invokevirtual n, [k, h, np, rk, c], st => qcall d K lo st σ k np rk c
  | .ireturn, [z], [.inl x] => (z = 0 ∨ (z = 1 ∧ (x = nI 0 ∨ x = nI 1))) ∧ qrI Q x σ
  | .lreturn, [], [.inr (.inl x)] => qrL Q x σ
  | .return_, [], [] => qrV Q σ
  | _, _, _ => False
def qW (d : Nat) (J : Nat → qLo → List qPV → qSg → Prop) (Q : qQ) : List qIns → qLo → List qPV → qSg → Prop
  | [] => fun _ _ _ => False
  | x :: xs => fun lo st σ => qX d J Q x.1 x.2.2 (qW d J Q xs) lo st σ

theorem qW_nop {d : Nat} {J : Nat → qLo → List qPV → qSg → Prop} {Q : qQ} (is : List qIns) (l : Nat) (lo : qLo) (st : List qPV) (σ : qSg) (t : Nat) : qW d J Q ((.nop, l, [t]) :: is) lo (st) σ = (J t lo st σ) := rfl
theorem qW_iconst {d : Nat} {J : Nat → qLo → List qPV → qSg → Prop} {Q : qQ} (is : List qIns) (l : Nat) (lo : qLo) (st : List qPV) (σ : qSg) (n : Int) (v : Nat) : qW d J Q ((.iconst n, l, [v]) :: is) lo (st) σ = (qW d J Q is lo (.inl (nI v) :: st) σ) := rfl
theorem qW_iconstm {d : Nat} {J : Nat → qLo → List qPV → qSg → Prop} {Q : qQ} (is : List qIns) (l : Nat) (lo : qLo) (st : List qPV) (σ : qSg) (n : Int) : qW d J Q ((.iconst n, l, []) :: is) lo (st) σ = (qW d J Q is lo (.inl (Int32.ofInt n) :: st) σ) := rfl
theorem qW_bipush {d : Nat} {J : Nat → qLo → List qPV → qSg → Prop} {Q : qQ} (is : List qIns) (l : Nat) (lo : qLo) (st : List qPV) (σ : qSg) (n : Int) (v : Nat) : qW d J Q ((.bipush n, l, [v]) :: is) lo (st) σ = (qW d J Q is lo (.inl (nI v) :: st) σ) := rfl
theorem qW_bipushm {d : Nat} {J : Nat → qLo → List qPV → qSg → Prop} {Q : qQ} (is : List qIns) (l : Nat) (lo : qLo) (st : List qPV) (σ : qSg) (n : Int) : qW d J Q ((.bipush n, l, []) :: is) lo (st) σ = (qW d J Q is lo (.inl (Int32.ofInt n) :: st) σ) := rfl
theorem qW_sipush {d : Nat} {J : Nat → qLo → List qPV → qSg → Prop} {Q : qQ} (is : List qIns) (l : Nat) (lo : qLo) (st : List qPV) (σ : qSg) (n : Int) (v : Nat) : qW d J Q ((.sipush n, l, [v]) :: is) lo (st) σ = (qW d J Q is lo (.inl (nI v) :: st) σ) := rfl
theorem qW_sipushm {d : Nat} {J : Nat → qLo → List qPV → qSg → Prop} {Q : qQ} (is : List qIns) (l : Nat) (lo : qLo) (st : List qPV) (σ : qSg) (n : Int) : qW d J Q ((.sipush n, l, []) :: is) lo (st) σ = (qW d J Q is lo (.inl (Int32.ofInt n) :: st) σ) := rfl
theorem qW_ldc {d : Nat} {J : Nat → qLo → List qPV → qSg → Prop} {Q : qQ} (is : List qIns) (l : Nat) (lo : qLo) (st : List qPV) (σ : qSg) (n : Nat) (v : Nat) (h : Nat) : qW d J Q ((.ldc n, l, [h, v]) :: is) lo (st) σ = (qW d J Q is lo (.inl (nI v) :: st) σ) := rfl
theorem qW_ldcs {d : Nat} {J : Nat → qLo → List qPV → qSg → Prop} {Q : qQ} (is : List qIns) (l : Nat) (lo : qLo) (st : List qPV) (σ : qSg) (n : Nat) (h : Nat) (k : Nat) (z : Nat) : qW d J Q ((.ldc n, l, [h, k, z]) :: is) lo (st) σ = (qW d J Q is lo (.inr (.inr (some k)) :: st) σ) := rfl
theorem qW_ldcw {d : Nat} {J : Nat → qLo → List qPV → qSg → Prop} {Q : qQ} (is : List qIns) (l : Nat) (lo : qLo) (st : List qPV) (σ : qSg) (n : Nat) (v : Nat) (h : Nat) : qW d J Q ((.ldc_w n, l, [h, v]) :: is) lo (st) σ = (qW d J Q is lo (.inl (nI v) :: st) σ) := rfl
theorem qW_ldc2 {d : Nat} {J : Nat → qLo → List qPV → qSg → Prop} {Q : qQ} (is : List qIns) (l : Nat) (lo : qLo) (st : List qPV) (σ : qSg) (n : Nat) (v : Nat) (h : Nat) : qW d J Q ((.ldc2_w n, l, [h, v]) :: is) lo (st) σ = (qW d J Q is lo (.inr (.inl (lN v)) :: st) σ) := rfl
theorem qW_ldc2m {d : Nat} {J : Nat → qLo → List qPV → qSg → Prop} {Q : qQ} (is : List qIns) (l : Nat) (lo : qLo) (st : List qPV) (σ : qSg) (n : Nat) (v : Nat) (h : Nat) (z : Nat) : qW d J Q ((.ldc2_w n, l, [h, v, z]) :: is) lo (st) σ = (qW d J Q is lo (.inr (.inl (-(lN v))) :: st) σ) := rfl
theorem qW_lconst {d : Nat} {J : Nat → qLo → List qPV → qSg → Prop} {Q : qQ} (is : List qIns) (l : Nat) (lo : qLo) (st : List qPV) (σ : qSg) (n : Fin 2) : qW d J Q ((.lconst n, l, []) :: is) lo (st) σ = (qW d J Q is lo (.inr (.inl (lN n)) :: st) σ) := rfl
theorem qW_iloadn {d : Nat} {J : Nat → qLo → List qPV → qSg → Prop} {Q : qQ} (is : List qIns) (l : Nat) (lo : qLo) (st : List qPV) (σ : qSg) (n : Fin 4) : qW d J Q ((.iload_n n, l, []) :: is) lo (st) σ = (qIsI (qlg lo n) ∧ qW d J Q is lo (qlg lo n :: st) σ) := rfl
theorem qW_iload {d : Nat} {J : Nat → qLo → List qPV → qSg → Prop} {Q : qQ} (is : List qIns) (l : Nat) (lo : qLo) (st : List qPV) (σ : qSg) (n : Nat) : qW d J Q ((.iload n, l, []) :: is) lo (st) σ = (qIsI (qlg lo n) ∧ qW d J Q is lo (qlg lo n :: st) σ) := rfl
theorem qW_lloadn {d : Nat} {J : Nat → qLo → List qPV → qSg → Prop} {Q : qQ} (is : List qIns) (l : Nat) (lo : qLo) (st : List qPV) (σ : qSg) (n : Fin 4) : qW d J Q ((.lload_n n, l, []) :: is) lo (st) σ = (qIsL (qlg lo n) ∧ qW d J Q is lo (qlg lo n :: st) σ) := rfl
theorem qW_lload {d : Nat} {J : Nat → qLo → List qPV → qSg → Prop} {Q : qQ} (is : List qIns) (l : Nat) (lo : qLo) (st : List qPV) (σ : qSg) (n : Nat) : qW d J Q ((.lload n, l, []) :: is) lo (st) σ = (qIsL (qlg lo n) ∧ qW d J Q is lo (qlg lo n :: st) σ) := rfl
theorem qW_aloadn {d : Nat} {J : Nat → qLo → List qPV → qSg → Prop} {Q : qQ} (is : List qIns) (l : Nat) (lo : qLo) (st : List qPV) (σ : qSg) (n : Fin 4) : qW d J Q ((.aload_n n, l, []) :: is) lo (st) σ = (qIsR (qlg lo n) ∧ qW d J Q is lo (qlg lo n :: st) σ) := rfl
theorem qW_aload {d : Nat} {J : Nat → qLo → List qPV → qSg → Prop} {Q : qQ} (is : List qIns) (l : Nat) (lo : qLo) (st : List qPV) (σ : qSg) (n : Nat) : qW d J Q ((.aload n, l, []) :: is) lo (st) σ = (qIsR (qlg lo n) ∧ qW d J Q is lo (qlg lo n :: st) σ) := rfl
theorem qW_istoren {d : Nat} {J : Nat → qLo → List qPV → qSg → Prop} {Q : qQ} (is : List qIns) (l : Nat) (lo : qLo) (st : List qPV) (σ : qSg) (n : Fin 4) (x : Int32) : qW d J Q ((.istore_n n, l, []) :: is) lo (.inl x :: st) σ = (qW d J Q is (qls lo n (.inl x)) st σ) := rfl
theorem qW_istore {d : Nat} {J : Nat → qLo → List qPV → qSg → Prop} {Q : qQ} (is : List qIns) (l : Nat) (lo : qLo) (st : List qPV) (σ : qSg) (n : Nat) (x : Int32) : qW d J Q ((.istore n, l, []) :: is) lo (.inl x :: st) σ = (qW d J Q is (qls lo n (.inl x)) st σ) := rfl
theorem qW_lstoren {d : Nat} {J : Nat → qLo → List qPV → qSg → Prop} {Q : qQ} (is : List qIns) (l : Nat) (lo : qLo) (st : List qPV) (σ : qSg) (n : Fin 4) (x : Int64) : qW d J Q ((.lstore_n n, l, []) :: is) lo (.inr (.inl x) :: st) σ = (qW d J Q is (qls lo n (.inr (.inl x))) st σ) := rfl
theorem qW_lstore {d : Nat} {J : Nat → qLo → List qPV → qSg → Prop} {Q : qQ} (is : List qIns) (l : Nat) (lo : qLo) (st : List qPV) (σ : qSg) (n : Nat) (x : Int64) : qW d J Q ((.lstore n, l, []) :: is) lo (.inr (.inl x) :: st) σ = (qW d J Q is (qls lo n (.inr (.inl x))) st σ) := rfl
theorem qW_astoren {d : Nat} {J : Nat → qLo → List qPV → qSg → Prop} {Q : qQ} (is : List qIns) (l : Nat) (lo : qLo) (st : List qPV) (σ : qSg) (n : Fin 4) (x : Nat) : qW d J Q ((.astore_n n, l, []) :: is) lo (.inr (.inr (some x)) :: st) σ = (qW d J Q is (qls lo n (.inr (.inr (some x)))) st σ) := rfl
theorem qW_astore {d : Nat} {J : Nat → qLo → List qPV → qSg → Prop} {Q : qQ} (is : List qIns) (l : Nat) (lo : qLo) (st : List qPV) (σ : qSg) (n : Nat) (x : Nat) : qW d J Q ((.astore n, l, []) :: is) lo (.inr (.inr (some x)) :: st) σ = (qW d J Q is (qls lo n (.inr (.inr (some x)))) st σ) := rfl
theorem qW_iinc {d : Nat} {J : Nat → qLo → List qPV → qSg → Prop} {Q : qQ} (is : List qIns) (l : Nat) (lo : qLo) (st : List qPV) (σ : qSg) (n : Nat) (c : Int) (v : Nat) : qW d J Q ((.iinc n c, l, [v]) :: is) lo (st) σ = (qIsI (qlg lo n) ∧ qW d J Q is (qls lo n (.inl (qint (qlg lo n) + nI v))) st σ) := rfl
theorem qW_iincm {d : Nat} {J : Nat → qLo → List qPV → qSg → Prop} {Q : qQ} (is : List qIns) (l : Nat) (lo : qLo) (st : List qPV) (σ : qSg) (n : Nat) (c : Int) : qW d J Q ((.iinc n c, l, []) :: is) lo (st) σ = (qIsI (qlg lo n) ∧ qW d J Q is (qls lo n (.inl (qint (qlg lo n) + Int32.ofInt c))) st σ) := rfl
theorem qW_iadd {d : Nat} {J : Nat → qLo → List qPV → qSg → Prop} {Q : qQ} (is : List qIns) (l : Nat) (lo : qLo) (st : List qPV) (σ : qSg) (x : Int32) (y : Int32) : qW d J Q ((.iadd, l, []) :: is) lo (.inl y :: .inl x :: st) σ = (qW d J Q is lo (.inl (x + y) :: st) σ) := rfl
theorem qW_isub {d : Nat} {J : Nat → qLo → List qPV → qSg → Prop} {Q : qQ} (is : List qIns) (l : Nat) (lo : qLo) (st : List qPV) (σ : qSg) (x : Int32) (y : Int32) : qW d J Q ((.isub, l, []) :: is) lo (.inl y :: .inl x :: st) σ = (qW d J Q is lo (.inl (x - y) :: st) σ) := rfl
theorem qW_imul {d : Nat} {J : Nat → qLo → List qPV → qSg → Prop} {Q : qQ} (is : List qIns) (l : Nat) (lo : qLo) (st : List qPV) (σ : qSg) (x : Int32) (y : Int32) : qW d J Q ((.imul, l, []) :: is) lo (.inl y :: .inl x :: st) σ = (qW d J Q is lo (.inl (x * y) :: st) σ) := rfl
theorem qW_iand {d : Nat} {J : Nat → qLo → List qPV → qSg → Prop} {Q : qQ} (is : List qIns) (l : Nat) (lo : qLo) (st : List qPV) (σ : qSg) (x : Int32) (y : Int32) : qW d J Q ((.iand, l, []) :: is) lo (.inl y :: .inl x :: st) σ = (qW d J Q is lo (.inl (x &&& y) :: st) σ) := rfl
theorem qW_ior {d : Nat} {J : Nat → qLo → List qPV → qSg → Prop} {Q : qQ} (is : List qIns) (l : Nat) (lo : qLo) (st : List qPV) (σ : qSg) (x : Int32) (y : Int32) : qW d J Q ((.ior, l, []) :: is) lo (.inl y :: .inl x :: st) σ = (qW d J Q is lo (.inl (x ||| y) :: st) σ) := rfl
theorem qW_ixor {d : Nat} {J : Nat → qLo → List qPV → qSg → Prop} {Q : qQ} (is : List qIns) (l : Nat) (lo : qLo) (st : List qPV) (σ : qSg) (x : Int32) (y : Int32) : qW d J Q ((.ixor, l, []) :: is) lo (.inl y :: .inl x :: st) σ = (qW d J Q is lo (.inl (x ^^^ y) :: st) σ) := rfl
theorem qW_ishl {d : Nat} {J : Nat → qLo → List qPV → qSg → Prop} {Q : qQ} (is : List qIns) (l : Nat) (lo : qLo) (st : List qPV) (σ : qSg) (x : Int32) (y : Int32) : qW d J Q ((.ishl, l, []) :: is) lo (.inl y :: .inl x :: st) σ = (qW d J Q is lo (.inl (x <<< (y &&& 31)) :: st) σ) := rfl
theorem qW_ishr {d : Nat} {J : Nat → qLo → List qPV → qSg → Prop} {Q : qQ} (is : List qIns) (l : Nat) (lo : qLo) (st : List qPV) (σ : qSg) (x : Int32) (y : Int32) : qW d J Q ((.ishr, l, []) :: is) lo (.inl y :: .inl x :: st) σ = (qW d J Q is lo (.inl (x >>> (y &&& 31)) :: st) σ) := rfl
theorem qW_iushr {d : Nat} {J : Nat → qLo → List qPV → qSg → Prop} {Q : qQ} (is : List qIns) (l : Nat) (lo : qLo) (st : List qPV) (σ : qSg) (x : Int32) (y : Int32) : qW d J Q ((.iushr, l, []) :: is) lo (.inl y :: .inl x :: st) σ = (qW d J Q is lo (.inl ((x.toUInt32 >>> (y.toUInt32 &&& Int32.toUInt32 31)).toInt32) :: st) σ) := rfl
theorem qW_idiv {d : Nat} {J : Nat → qLo → List qPV → qSg → Prop} {Q : qQ} (is : List qIns) (l : Nat) (lo : qLo) (st : List qPV) (σ : qSg) (x : Int32) (y : Int32) : qW d J Q ((.idiv, l, []) :: is) lo (.inl y :: .inl x :: st) σ = (¬ y = 0 ∧ qW d J Q is lo (.inl (x / y) :: st) σ) := rfl
theorem qW_irem {d : Nat} {J : Nat → qLo → List qPV → qSg → Prop} {Q : qQ} (is : List qIns) (l : Nat) (lo : qLo) (st : List qPV) (σ : qSg) (x : Int32) (y : Int32) : qW d J Q ((.irem, l, []) :: is) lo (.inl y :: .inl x :: st) σ = (¬ y = 0 ∧ qW d J Q is lo (.inl (x - x / y * y) :: st) σ) := rfl
theorem qW_ineg {d : Nat} {J : Nat → qLo → List qPV → qSg → Prop} {Q : qQ} (is : List qIns) (l : Nat) (lo : qLo) (st : List qPV) (σ : qSg) (x : Int32) : qW d J Q ((.ineg, l, []) :: is) lo (.inl x :: st) σ = (qW d J Q is lo (.inl (-x) :: st) σ) := rfl
theorem qW_ladd {d : Nat} {J : Nat → qLo → List qPV → qSg → Prop} {Q : qQ} (is : List qIns) (l : Nat) (lo : qLo) (st : List qPV) (σ : qSg) (x : Int64) (y : Int64) : qW d J Q ((.ladd, l, []) :: is) lo (.inr (.inl y) :: .inr (.inl x) :: st) σ = (qW d J Q is lo (.inr (.inl (x + y)) :: st) σ) := rfl
theorem qW_lsub {d : Nat} {J : Nat → qLo → List qPV → qSg → Prop} {Q : qQ} (is : List qIns) (l : Nat) (lo : qLo) (st : List qPV) (σ : qSg) (x : Int64) (y : Int64) : qW d J Q ((.lsub, l, []) :: is) lo (.inr (.inl y) :: .inr (.inl x) :: st) σ = (qW d J Q is lo (.inr (.inl (x - y)) :: st) σ) := rfl
theorem qW_lmul {d : Nat} {J : Nat → qLo → List qPV → qSg → Prop} {Q : qQ} (is : List qIns) (l : Nat) (lo : qLo) (st : List qPV) (σ : qSg) (x : Int64) (y : Int64) : qW d J Q ((.lmul, l, []) :: is) lo (.inr (.inl y) :: .inr (.inl x) :: st) σ = (qW d J Q is lo (.inr (.inl (x * y)) :: st) σ) := rfl
theorem qW_land {d : Nat} {J : Nat → qLo → List qPV → qSg → Prop} {Q : qQ} (is : List qIns) (l : Nat) (lo : qLo) (st : List qPV) (σ : qSg) (x : Int64) (y : Int64) : qW d J Q ((.land, l, []) :: is) lo (.inr (.inl y) :: .inr (.inl x) :: st) σ = (qW d J Q is lo (.inr (.inl (x &&& y)) :: st) σ) := rfl
theorem qW_lor {d : Nat} {J : Nat → qLo → List qPV → qSg → Prop} {Q : qQ} (is : List qIns) (l : Nat) (lo : qLo) (st : List qPV) (σ : qSg) (x : Int64) (y : Int64) : qW d J Q ((.lor, l, []) :: is) lo (.inr (.inl y) :: .inr (.inl x) :: st) σ = (qW d J Q is lo (.inr (.inl (x ||| y)) :: st) σ) := rfl
theorem qW_ldiv {d : Nat} {J : Nat → qLo → List qPV → qSg → Prop} {Q : qQ} (is : List qIns) (l : Nat) (lo : qLo) (st : List qPV) (σ : qSg) (x : Int64) (y : Int64) : qW d J Q ((.ldiv, l, []) :: is) lo (.inr (.inl y) :: .inr (.inl x) :: st) σ = (¬ y = 0 ∧ qW d J Q is lo (.inr (.inl (x / y)) :: st) σ) := rfl
theorem qW_lrem {d : Nat} {J : Nat → qLo → List qPV → qSg → Prop} {Q : qQ} (is : List qIns) (l : Nat) (lo : qLo) (st : List qPV) (σ : qSg) (x : Int64) (y : Int64) : qW d J Q ((.lrem, l, []) :: is) lo (.inr (.inl y) :: .inr (.inl x) :: st) σ = (¬ y = 0 ∧ qW d J Q is lo (.inr (.inl (x - x / y * y)) :: st) σ) := rfl
theorem qW_lshl {d : Nat} {J : Nat → qLo → List qPV → qSg → Prop} {Q : qQ} (is : List qIns) (l : Nat) (lo : qLo) (st : List qPV) (σ : qSg) (x : Int64) (y : Int32) : qW d J Q ((.lshl, l, []) :: is) lo (.inl y :: .inr (.inl x) :: st) σ = (qW d J Q is lo (.inr (.inl (x <<< (y.toInt64 &&& 63))) :: st) σ) := rfl
theorem qW_lcmp {d : Nat} {J : Nat → qLo → List qPV → qSg → Prop} {Q : qQ} (is : List qIns) (l : Nat) (lo : qLo) (st : List qPV) (σ : qSg) (x : Int64) (y : Int64) : qW d J Q ((.lcmp, l, []) :: is) lo (.inr (.inl y) :: .inr (.inl x) :: st) σ = (qW d J Q is lo (.inl (lg_cmp x y) :: st) σ) := rfl
theorem qW_i2l {d : Nat} {J : Nat → qLo → List qPV → qSg → Prop} {Q : qQ} (is : List qIns) (l : Nat) (lo : qLo) (st : List qPV) (σ : qSg) (x : Int32) : qW d J Q ((.i2l, l, []) :: is) lo (.inl x :: st) σ = (qW d J Q is lo (.inr (.inl x.toInt64) :: st) σ) := rfl
theorem qW_l2i {d : Nat} {J : Nat → qLo → List qPV → qSg → Prop} {Q : qQ} (is : List qIns) (l : Nat) (lo : qLo) (st : List qPV) (σ : qSg) (x : Int64) : qW d J Q ((.l2i, l, []) :: is) lo (.inr (.inl x) :: st) σ = (qW d J Q is lo (.inl x.toInt32 :: st) σ) := rfl
theorem qW_i2b {d : Nat} {J : Nat → qLo → List qPV → qSg → Prop} {Q : qQ} (is : List qIns) (l : Nat) (lo : qLo) (st : List qPV) (σ : qSg) (x : Int32) : qW d J Q ((.i2b, l, []) :: is) lo (.inl x :: st) σ = (qW d J Q is lo (.inl x.toInt8.toInt32 :: st) σ) := rfl
theorem qW_i2s {d : Nat} {J : Nat → qLo → List qPV → qSg → Prop} {Q : qQ} (is : List qIns) (l : Nat) (lo : qLo) (st : List qPV) (σ : qSg) (x : Int32) : qW d J Q ((.i2s, l, []) :: is) lo (.inl x :: st) σ = (qW d J Q is lo (.inl x.toInt16.toInt32 :: st) σ) := rfl
theorem qW_dup {d : Nat} {J : Nat → qLo → List qPV → qSg → Prop} {Q : qQ} (is : List qIns) (l : Nat) (lo : qLo) (st : List qPV) (σ : qSg) (v : qPV) : qW d J Q ((.dup, l, []) :: is) lo (v :: st) σ = (qil v = false ∧ qW d J Q is lo (v :: v :: st) σ) := rfl
theorem qW_pop {d : Nat} {J : Nat → qLo → List qPV → qSg → Prop} {Q : qQ} (is : List qIns) (l : Nat) (lo : qLo) (st : List qPV) (σ : qSg) (v : qPV) : qW d J Q ((.pop, l, []) :: is) lo (v :: st) σ = (qil v = false ∧ qW d J Q is lo st σ) := rfl
theorem qW_dup2 {d : Nat} {J : Nat → qLo → List qPV → qSg → Prop} {Q : qQ} (is : List qIns) (l : Nat) (lo : qLo) (st : List qPV) (σ : qSg) (v : qPV) (u : qPV) : qW d J Q ((.dup2, l, []) :: is) lo (v :: u :: st) σ = (qil v = false ∧ qil u = false ∧ qW d J Q is lo (v :: u :: v :: u :: st) σ) := rfl
theorem qW_acnull {d : Nat} {J : Nat → qLo → List qPV → qSg → Prop} {Q : qQ} (is : List qIns) (l : Nat) (lo : qLo) (st : List qPV) (σ : qSg)  : qW d J Q ((.aconst_null, l, []) :: is) lo (st) σ = (qW d J Q is lo (.inr (.inr none) :: st) σ) := rfl
theorem qW_ifeq {d : Nat} {J : Nat → qLo → List qPV → qSg → Prop} {Q : qQ} (is : List qIns) (l : Nat) (lo : qLo) (st : List qPV) (σ : qSg) (t : Nat) (o : Int) (x : Int32) : qW d J Q ((.ifCond .eq o, l, [t]) :: is) lo (.inl x :: st) σ = ((x = 0 → J t lo st σ) ∧ (¬ x = 0 → qW d J Q is lo st σ)) := rfl
theorem qW_iceq {d : Nat} {J : Nat → qLo → List qPV → qSg → Prop} {Q : qQ} (is : List qIns) (l : Nat) (lo : qLo) (st : List qPV) (σ : qSg) (t : Nat) (o : Int) (x : Int32) (y : Int32) : qW d J Q ((.if_icmp .eq o, l, [t]) :: is) lo (.inl y :: .inl x :: st) σ = ((x = y → J t lo st σ) ∧ (¬ x = y → qW d J Q is lo st σ)) := rfl
theorem qW_ifne {d : Nat} {J : Nat → qLo → List qPV → qSg → Prop} {Q : qQ} (is : List qIns) (l : Nat) (lo : qLo) (st : List qPV) (σ : qSg) (t : Nat) (o : Int) (x : Int32) : qW d J Q ((.ifCond .ne o, l, [t]) :: is) lo (.inl x :: st) σ = ((¬ x = 0 → J t lo st σ) ∧ (x = 0 → qW d J Q is lo st σ)) := rfl
theorem qW_icne {d : Nat} {J : Nat → qLo → List qPV → qSg → Prop} {Q : qQ} (is : List qIns) (l : Nat) (lo : qLo) (st : List qPV) (σ : qSg) (t : Nat) (o : Int) (x : Int32) (y : Int32) : qW d J Q ((.if_icmp .ne o, l, [t]) :: is) lo (.inl y :: .inl x :: st) σ = ((¬ x = y → J t lo st σ) ∧ (x = y → qW d J Q is lo st σ)) := rfl
theorem qW_iflt {d : Nat} {J : Nat → qLo → List qPV → qSg → Prop} {Q : qQ} (is : List qIns) (l : Nat) (lo : qLo) (st : List qPV) (σ : qSg) (t : Nat) (o : Int) (x : Int32) : qW d J Q ((.ifCond .lt o, l, [t]) :: is) lo (.inl x :: st) σ = ((x < 0 → J t lo st σ) ∧ (¬ x < 0 → qW d J Q is lo st σ)) := rfl
theorem qW_iclt {d : Nat} {J : Nat → qLo → List qPV → qSg → Prop} {Q : qQ} (is : List qIns) (l : Nat) (lo : qLo) (st : List qPV) (σ : qSg) (t : Nat) (o : Int) (x : Int32) (y : Int32) : qW d J Q ((.if_icmp .lt o, l, [t]) :: is) lo (.inl y :: .inl x :: st) σ = ((x < y → J t lo st σ) ∧ (¬ x < y → qW d J Q is lo st σ)) := rfl
theorem qW_ifge {d : Nat} {J : Nat → qLo → List qPV → qSg → Prop} {Q : qQ} (is : List qIns) (l : Nat) (lo : qLo) (st : List qPV) (σ : qSg) (t : Nat) (o : Int) (x : Int32) : qW d J Q ((.ifCond .ge o, l, [t]) :: is) lo (.inl x :: st) σ = ((0 ≤ x → J t lo st σ) ∧ (¬ 0 ≤ x → qW d J Q is lo st σ)) := rfl
theorem qW_icge {d : Nat} {J : Nat → qLo → List qPV → qSg → Prop} {Q : qQ} (is : List qIns) (l : Nat) (lo : qLo) (st : List qPV) (σ : qSg) (t : Nat) (o : Int) (x : Int32) (y : Int32) : qW d J Q ((.if_icmp .ge o, l, [t]) :: is) lo (.inl y :: .inl x :: st) σ = ((y ≤ x → J t lo st σ) ∧ (¬ y ≤ x → qW d J Q is lo st σ)) := rfl
theorem qW_ifgt {d : Nat} {J : Nat → qLo → List qPV → qSg → Prop} {Q : qQ} (is : List qIns) (l : Nat) (lo : qLo) (st : List qPV) (σ : qSg) (t : Nat) (o : Int) (x : Int32) : qW d J Q ((.ifCond .gt o, l, [t]) :: is) lo (.inl x :: st) σ = ((0 < x → J t lo st σ) ∧ (¬ 0 < x → qW d J Q is lo st σ)) := rfl
theorem qW_icgt {d : Nat} {J : Nat → qLo → List qPV → qSg → Prop} {Q : qQ} (is : List qIns) (l : Nat) (lo : qLo) (st : List qPV) (σ : qSg) (t : Nat) (o : Int) (x : Int32) (y : Int32) : qW d J Q ((.if_icmp .gt o, l, [t]) :: is) lo (.inl y :: .inl x :: st) σ = ((y < x → J t lo st σ) ∧ (¬ y < x → qW d J Q is lo st σ)) := rfl
theorem qW_ifle {d : Nat} {J : Nat → qLo → List qPV → qSg → Prop} {Q : qQ} (is : List qIns) (l : Nat) (lo : qLo) (st : List qPV) (σ : qSg) (t : Nat) (o : Int) (x : Int32) : qW d J Q ((.ifCond .le o, l, [t]) :: is) lo (.inl x :: st) σ = ((x ≤ 0 → J t lo st σ) ∧ (¬ x ≤ 0 → qW d J Q is lo st σ)) := rfl
theorem qW_icle {d : Nat} {J : Nat → qLo → List qPV → qSg → Prop} {Q : qQ} (is : List qIns) (l : Nat) (lo : qLo) (st : List qPV) (σ : qSg) (t : Nat) (o : Int) (x : Int32) (y : Int32) : qW d J Q ((.if_icmp .le o, l, [t]) :: is) lo (.inl y :: .inl x :: st) σ = ((x ≤ y → J t lo st σ) ∧ (¬ x ≤ y → qW d J Q is lo st σ)) := rfl
theorem qW_goto {d : Nat} {J : Nat → qLo → List qPV → qSg → Prop} {Q : qQ} (is : List qIns) (l : Nat) (lo : qLo) (st : List qPV) (σ : qSg) (t : Nat) (o : Int) : qW d J Q ((.goto o, l, [t]) :: is) lo (st) σ = (J t lo st σ) := rfl
theorem qW_ifnull {d : Nat} {J : Nat → qLo → List qPV → qSg → Prop} {Q : qQ} (is : List qIns) (l : Nat) (lo : qLo) (st : List qPV) (σ : qSg) (t : Nat) (o : Int) (x : Nat) : qW d J Q ((.ifnull o, l, [t]) :: is) lo (.inr (.inr (some x)) :: st) σ = (qW d J Q is lo st σ) := rfl
theorem qW_ifnonnull {d : Nat} {J : Nat → qLo → List qPV → qSg → Prop} {Q : qQ} (is : List qIns) (l : Nat) (lo : qLo) (st : List qPV) (σ : qSg) (t : Nat) (o : Int) (x : Nat) : qW d J Q ((.ifnonnull o, l, [t]) :: is) lo (.inr (.inr (some x)) :: st) σ = (J t lo st σ) := rfl
theorem qW_tsw {d : Nat} {J : Nat → qLo → List qPV → qSg → Prop} {Q : qQ} (is : List qIns) (l : Nat) (lo : qLo) (st : List qPV) (σ : qSg) (t : Nat) (e : Int) (a : Int) (b : Int) (x : Int32) (os : Array Int) (ts : List Nat) : qW d J Q ((.tableswitch e a b os, l, t :: ts) :: is) lo (.inl x :: st) σ = (qsw J lo st σ x a b t ts) := rfl
theorem qW_getf {d : Nat} {J : Nat → qLo → List qPV → qSg → Prop} {Q : qQ} (is : List qIns) (l : Nat) (lo : qLo) (st : List qPV) (σ : qSg) (n : Nat) (c : Nat) (h : Nat) (k : Nat) (f : Nat) (a : Nat) : qW d J Q ((.getfield n, l, [c, k, h, f]) :: is) lo (.inr (.inr (some a)) :: st) σ = ((qKd a).1 = 10 + c ∧ qW d J Q is lo (qfl σ a k f :: st) σ) := rfl
theorem qW_putfI {d : Nat} {J : Nat → qLo → List qPV → qSg → Prop} {Q : qQ} (is : List qIns) (l : Nat) (lo : qLo) (st : List qPV) (σ : qSg) (n : Nat) (c : Nat) (h : Nat) (k : Nat) (f : Nat) (a : Nat) (x : Int32) : qW d J Q ((.putfield n, l, [c, k, h, f]) :: is) lo (.inl x :: .inr (.inr (some a)) :: st) σ = ((f = 0 ∨ (f = 3 ∧ (x = nI 0 ∨ x = nI 1))) ∧ (qKd a).1 = 10 + c ∧ qW d J Q is lo st (qwi σ a k x)) := rfl
theorem qW_putfL {d : Nat} {J : Nat → qLo → List qPV → qSg → Prop} {Q : qQ} (is : List qIns) (l : Nat) (lo : qLo) (st : List qPV) (σ : qSg) (n : Nat) (c : Nat) (h : Nat) (k : Nat) (f : Nat) (a : Nat) (x : Int64) : qW d J Q ((.putfield n, l, [c, k, h, f]) :: is) lo (.inr (.inl x) :: .inr (.inr (some a)) :: st) σ = (f = 1 ∧ (qKd a).1 = 10 + c ∧ qW d J Q is lo st (qwl σ a k x)) := rfl
theorem qW_iald {d : Nat} {J : Nat → qLo → List qPV → qSg → Prop} {Q : qQ} (is : List qIns) (l : Nat) (lo : qLo) (st : List qPV) (σ : qSg) (a : Nat) (i : Int32) : qW d J Q ((.iaload, l, []) :: is) lo (.inl i :: .inr (.inr (some a)) :: st) σ = ((qKd a).1 = 0 ∧ qin i (qKd a).2 ∧ qW d J Q is lo (.inl (σ.1 a i.toNatClampNeg) :: st) σ) := rfl
theorem qW_lald {d : Nat} {J : Nat → qLo → List qPV → qSg → Prop} {Q : qQ} (is : List qIns) (l : Nat) (lo : qLo) (st : List qPV) (σ : qSg) (a : Nat) (i : Int32) : qW d J Q ((.laload, l, []) :: is) lo (.inl i :: .inr (.inr (some a)) :: st) σ = ((qKd a).1 = 1 ∧ qin i (qKd a).2 ∧ qW d J Q is lo (.inr (.inl (σ.2 a i.toNatClampNeg)) :: st) σ) := rfl
theorem qW_bald {d : Nat} {J : Nat → qLo → List qPV → qSg → Prop} {Q : qQ} (is : List qIns) (l : Nat) (lo : qLo) (st : List qPV) (σ : qSg) (a : Nat) (i : Int32) : qW d J Q ((.baload, l, []) :: is) lo (.inl i :: .inr (.inr (some a)) :: st) σ = (((qKd a).1 = 2 ∨ (qKd a).1 = 3) ∧ qin i (qKd a).2 ∧ qW d J Q is lo (.inl (σ.1 a i.toNatClampNeg) :: st) σ) := rfl
theorem qW_aald {d : Nat} {J : Nat → qLo → List qPV → qSg → Prop} {Q : qQ} (is : List qIns) (l : Nat) (lo : qLo) (st : List qPV) (σ : qSg) (a : Nat) (i : Int32) : qW d J Q ((.aaload, l, []) :: is) lo (.inl i :: .inr (.inr (some a)) :: st) σ = (((qKd a).1 = 4 ∨ (qKd a).1 = 5) ∧ qin i (qKd a).2 ∧ qW d J Q is lo (.inr (.inr (qRf a i.toNatClampNeg)) :: st) σ) := rfl
theorem qW_iast {d : Nat} {J : Nat → qLo → List qPV → qSg → Prop} {Q : qQ} (is : List qIns) (l : Nat) (lo : qLo) (st : List qPV) (σ : qSg) (a : Nat) (i : Int32) (x : Int32) : qW d J Q ((.iastore, l, []) :: is) lo (.inl x :: .inl i :: .inr (.inr (some a)) :: st) σ = ((qKd a).1 = 0 ∧ qin i (qKd a).2 ∧ qW d J Q is lo st (qwi σ a i.toNatClampNeg x)) := rfl
theorem qW_last {d : Nat} {J : Nat → qLo → List qPV → qSg → Prop} {Q : qQ} (is : List qIns) (l : Nat) (lo : qLo) (st : List qPV) (σ : qSg) (a : Nat) (i : Int32) (x : Int64) : qW d J Q ((.lastore, l, []) :: is) lo (.inr (.inl x) :: .inl i :: .inr (.inr (some a)) :: st) σ = ((qKd a).1 = 1 ∧ qin i (qKd a).2 ∧ qW d J Q is lo st (qwl σ a i.toNatClampNeg x)) := rfl
theorem qW_bast {d : Nat} {J : Nat → qLo → List qPV → qSg → Prop} {Q : qQ} (is : List qIns) (l : Nat) (lo : qLo) (st : List qPV) (σ : qSg) (a : Nat) (i : Int32) (x : Int32) : qW d J Q ((.bastore, l, []) :: is) lo (.inl x :: .inl i :: .inr (.inr (some a)) :: st) σ = (((qKd a).1 = 2 ∧ qin i (qKd a).2 ∧ qW d J Q is lo st (qwi σ a i.toNatClampNeg x.toInt8.toInt32)) ∨ ((qKd a).1 = 3 ∧ qin i (qKd a).2 ∧ (x = nI 0 ∨ x = nI 1) ∧ qW d J Q is lo st (qwi σ a i.toNatClampNeg x))) := rfl
theorem qW_cpy {d : Nat} {J : Nat → qLo → List qPV → qSg → Prop} {Q : qQ} (is : List qIns) (l : Nat) (lo : qLo) (st : List qPV) (σ : qSg) (n : Nat) (h : Nat) (z : Int32) (a : Nat) (b : Nat) (i : Int32) (j : Int32) : qW d J Q ((.invokestatic n, l, [h]) :: is) lo (.inl z :: .inl j :: .inr (.inr (some b)) :: .inl i :: .inr (.inr (some a)) :: st) σ = (((qKd a).1 = 0 ∧ (qKd b).1 = 0 ∧ (0 < (qKd a).2 ∧ 0 < (qKd b).2) ∧ qrg i z (qKd a).2 ∧ qrg j z (qKd b).2 ∧ qcs st ≤ 8 ∧ 0 < d ∧ qW d J Q is lo st (qci σ a i.toNatClampNeg b j.toNatClampNeg z.toNatClampNeg)) ∨ ((qKd a).1 = 1 ∧ (qKd b).1 = 1 ∧ (0 < (qKd a).2 ∧ 0 < (qKd b).2) ∧ qrg i z (qKd a).2 ∧ qrg j z (qKd b).2 ∧ qcs st ≤ 8 ∧ 0 < d ∧ qW d J Q is lo st (qcl σ a i.toNatClampNeg b j.toNatClampNeg z.toNatClampNeg))) := rfl
theorem qW_math {d : Nat} {J : Nat → qLo → List qPV → qSg → Prop} {Q : qQ} (is : List qIns) (l : Nat) (lo : qLo) (st : List qPV) (σ : qSg) (n : Nat) (h : Nat) (j : Nat) : qW d J Q ((.invokestatic n, l, [h, j]) :: is) lo (st) σ = (qmath d (qW d J Q is) lo st σ j) := rfl
theorem qW_call {d : Nat} {J : Nat → qLo → List qPV → qSg → Prop} {Q : qQ} (is : List qIns) (l : Nat) (lo : qLo) (st : List qPV) (σ : qSg) (n : Nat) (c : Nat) (h : Nat) (k : Nat) (np rk : Nat) : qW d J Q ((.invokestatic n, l, [k, h, np, rk, c]) :: is) lo (st) σ = (qcall d (qW d J Q is) lo st σ k np rk c) := rfl
theorem qW_callv {d : Nat} {J : Nat → qLo → List qPV → qSg → Prop} {Q : qQ} (is : List qIns) (l : Nat) (lo : qLo) (st : List qPV) (σ : qSg) (n : Nat) (c : Nat) (h : Nat) (k : Nat) (np rk : Nat) : qW d J Q ((.invokevirtual n, l, [k, h, np, rk, c]) :: is) lo (st) σ = (qcall d (qW d J Q is) lo st σ k np rk c) := rfl
theorem qW_iret {d : Nat} {J : Nat → qLo → List qPV → qSg → Prop} {Q : qQ} (is : List qIns) (l : Nat) (lo : qLo) (σ : qSg) (z : Nat) (x : Int32) : qW d J Q ((.ireturn, l, [z]) :: is) lo [.inl x] σ = ((z = 0 ∨ (z = 1 ∧ (x = nI 0 ∨ x = nI 1))) ∧ qrI Q x σ) := rfl
theorem qW_lret {d : Nat} {J : Nat → qLo → List qPV → qSg → Prop} {Q : qQ} (is : List qIns) (l : Nat) (lo : qLo) (σ : qSg) (x : Int64) : qW d J Q ((.lreturn, l, []) :: is) lo [.inr (.inl x)] σ = (qrL Q x σ) := rfl
theorem qW_vret {d : Nat} {J : Nat → qLo → List qPV → qSg → Prop} {Q : qQ} (is : List qIns) (l : Nat) (lo : qLo) (σ : qSg)  : qW d J Q ((.return_, l, []) :: is) lo [] σ = (qrV Q σ) := rfl
theorem qW_cs0_0 {d : Nat} {J : Nat → qLo → List qPV → qSg → Prop} {Q : qQ} (is : List qIns) (l : Nat) (lo : qLo) (st : List qPV) (σ : qSg) (n k h c : Nat) : qW d J Q ((.invokestatic n, l, [k, h, 0, 0, c]) :: is) lo (st) σ = (qcs st ≤ 8 ∧ qRcv c [] ∧ qBI d k [] σ (fun r σ1 => qW d J Q is lo (.inl r :: st) σ1)) := by
  rw [qW_call]
  simp [qcall]
theorem qW_cs0_1 {d : Nat} {J : Nat → qLo → List qPV → qSg → Prop} {Q : qQ} (is : List qIns) (l : Nat) (lo : qLo) (st : List qPV) (σ : qSg) (n k h c : Nat) : qW d J Q ((.invokestatic n, l, [k, h, 0, 1, c]) :: is) lo (st) σ = (qcs st ≤ 8 ∧ qRcv c [] ∧ qBL d k [] σ (fun r σ1 => qW d J Q is lo (.inr (.inl r) :: st) σ1)) := by
  rw [qW_call]
  simp [qcall]
theorem qW_cs0_2 {d : Nat} {J : Nat → qLo → List qPV → qSg → Prop} {Q : qQ} (is : List qIns) (l : Nat) (lo : qLo) (st : List qPV) (σ : qSg) (n k h c : Nat) : qW d J Q ((.invokestatic n, l, [k, h, 0, 2, c]) :: is) lo (st) σ = (qcs st ≤ 8 ∧ qRcv c [] ∧ qBV d k [] σ (fun σ1 => qW d J Q is lo st σ1)) := by
  rw [qW_call]
  simp [qcall]
theorem qW_cs1_0 {d : Nat} {J : Nat → qLo → List qPV → qSg → Prop} {Q : qQ} (is : List qIns) (l : Nat) (lo : qLo) (st : List qPV) (σ : qSg) (v0 : qPV) (n k h c : Nat) : qW d J Q ((.invokestatic n, l, [k, h, 1, 0, c]) :: is) lo (v0 :: st) σ = (qcs st ≤ 8 ∧ qRcv c [v0] ∧ qBI d k [v0] σ (fun r σ1 => qW d J Q is lo (.inl r :: st) σ1)) := by
  rw [qW_call]
  simp [qcall]
theorem qW_cs1_1 {d : Nat} {J : Nat → qLo → List qPV → qSg → Prop} {Q : qQ} (is : List qIns) (l : Nat) (lo : qLo) (st : List qPV) (σ : qSg) (v0 : qPV) (n k h c : Nat) : qW d J Q ((.invokestatic n, l, [k, h, 1, 1, c]) :: is) lo (v0 :: st) σ = (qcs st ≤ 8 ∧ qRcv c [v0] ∧ qBL d k [v0] σ (fun r σ1 => qW d J Q is lo (.inr (.inl r) :: st) σ1)) := by
  rw [qW_call]
  simp [qcall]
theorem qW_cs1_2 {d : Nat} {J : Nat → qLo → List qPV → qSg → Prop} {Q : qQ} (is : List qIns) (l : Nat) (lo : qLo) (st : List qPV) (σ : qSg) (v0 : qPV) (n k h c : Nat) : qW d J Q ((.invokestatic n, l, [k, h, 1, 2, c]) :: is) lo (v0 :: st) σ = (qcs st ≤ 8 ∧ qRcv c [v0] ∧ qBV d k [v0] σ (fun σ1 => qW d J Q is lo st σ1)) := by
  rw [qW_call]
  simp [qcall]
theorem qW_cs2_0 {d : Nat} {J : Nat → qLo → List qPV → qSg → Prop} {Q : qQ} (is : List qIns) (l : Nat) (lo : qLo) (st : List qPV) (σ : qSg) (v0 v1 : qPV) (n k h c : Nat) : qW d J Q ((.invokestatic n, l, [k, h, 2, 0, c]) :: is) lo (v1 :: v0 :: st) σ = (qcs st ≤ 8 ∧ qRcv c [v0, v1] ∧ qBI d k [v0, v1] σ (fun r σ1 => qW d J Q is lo (.inl r :: st) σ1)) := by
  rw [qW_call]
  simp [qcall]
theorem qW_cs2_1 {d : Nat} {J : Nat → qLo → List qPV → qSg → Prop} {Q : qQ} (is : List qIns) (l : Nat) (lo : qLo) (st : List qPV) (σ : qSg) (v0 v1 : qPV) (n k h c : Nat) : qW d J Q ((.invokestatic n, l, [k, h, 2, 1, c]) :: is) lo (v1 :: v0 :: st) σ = (qcs st ≤ 8 ∧ qRcv c [v0, v1] ∧ qBL d k [v0, v1] σ (fun r σ1 => qW d J Q is lo (.inr (.inl r) :: st) σ1)) := by
  rw [qW_call]
  simp [qcall]
theorem qW_cs2_2 {d : Nat} {J : Nat → qLo → List qPV → qSg → Prop} {Q : qQ} (is : List qIns) (l : Nat) (lo : qLo) (st : List qPV) (σ : qSg) (v0 v1 : qPV) (n k h c : Nat) : qW d J Q ((.invokestatic n, l, [k, h, 2, 2, c]) :: is) lo (v1 :: v0 :: st) σ = (qcs st ≤ 8 ∧ qRcv c [v0, v1] ∧ qBV d k [v0, v1] σ (fun σ1 => qW d J Q is lo st σ1)) := by
  rw [qW_call]
  simp [qcall]
theorem qW_cs3_0 {d : Nat} {J : Nat → qLo → List qPV → qSg → Prop} {Q : qQ} (is : List qIns) (l : Nat) (lo : qLo) (st : List qPV) (σ : qSg) (v0 v1 v2 : qPV) (n k h c : Nat) : qW d J Q ((.invokestatic n, l, [k, h, 3, 0, c]) :: is) lo (v2 :: v1 :: v0 :: st) σ = (qcs st ≤ 8 ∧ qRcv c [v0, v1, v2] ∧ qBI d k [v0, v1, v2] σ (fun r σ1 => qW d J Q is lo (.inl r :: st) σ1)) := by
  rw [qW_call]
  simp [qcall]
theorem qW_cs3_1 {d : Nat} {J : Nat → qLo → List qPV → qSg → Prop} {Q : qQ} (is : List qIns) (l : Nat) (lo : qLo) (st : List qPV) (σ : qSg) (v0 v1 v2 : qPV) (n k h c : Nat) : qW d J Q ((.invokestatic n, l, [k, h, 3, 1, c]) :: is) lo (v2 :: v1 :: v0 :: st) σ = (qcs st ≤ 8 ∧ qRcv c [v0, v1, v2] ∧ qBL d k [v0, v1, v2] σ (fun r σ1 => qW d J Q is lo (.inr (.inl r) :: st) σ1)) := by
  rw [qW_call]
  simp [qcall]
theorem qW_cs3_2 {d : Nat} {J : Nat → qLo → List qPV → qSg → Prop} {Q : qQ} (is : List qIns) (l : Nat) (lo : qLo) (st : List qPV) (σ : qSg) (v0 v1 v2 : qPV) (n k h c : Nat) : qW d J Q ((.invokestatic n, l, [k, h, 3, 2, c]) :: is) lo (v2 :: v1 :: v0 :: st) σ = (qcs st ≤ 8 ∧ qRcv c [v0, v1, v2] ∧ qBV d k [v0, v1, v2] σ (fun σ1 => qW d J Q is lo st σ1)) := by
  rw [qW_call]
  simp [qcall]
theorem qW_cs4_0 {d : Nat} {J : Nat → qLo → List qPV → qSg → Prop} {Q : qQ} (is : List qIns) (l : Nat) (lo : qLo) (st : List qPV) (σ : qSg) (v0 v1 v2 v3 : qPV) (n k h c : Nat) : qW d J Q ((.invokestatic n, l, [k, h, 4, 0, c]) :: is) lo (v3 :: v2 :: v1 :: v0 :: st) σ = (qcs st ≤ 8 ∧ qRcv c [v0, v1, v2, v3] ∧ qBI d k [v0, v1, v2, v3] σ (fun r σ1 => qW d J Q is lo (.inl r :: st) σ1)) := by
  rw [qW_call]
  simp [qcall]
theorem qW_cs4_1 {d : Nat} {J : Nat → qLo → List qPV → qSg → Prop} {Q : qQ} (is : List qIns) (l : Nat) (lo : qLo) (st : List qPV) (σ : qSg) (v0 v1 v2 v3 : qPV) (n k h c : Nat) : qW d J Q ((.invokestatic n, l, [k, h, 4, 1, c]) :: is) lo (v3 :: v2 :: v1 :: v0 :: st) σ = (qcs st ≤ 8 ∧ qRcv c [v0, v1, v2, v3] ∧ qBL d k [v0, v1, v2, v3] σ (fun r σ1 => qW d J Q is lo (.inr (.inl r) :: st) σ1)) := by
  rw [qW_call]
  simp [qcall]
theorem qW_cs4_2 {d : Nat} {J : Nat → qLo → List qPV → qSg → Prop} {Q : qQ} (is : List qIns) (l : Nat) (lo : qLo) (st : List qPV) (σ : qSg) (v0 v1 v2 v3 : qPV) (n k h c : Nat) : qW d J Q ((.invokestatic n, l, [k, h, 4, 2, c]) :: is) lo (v3 :: v2 :: v1 :: v0 :: st) σ = (qcs st ≤ 8 ∧ qRcv c [v0, v1, v2, v3] ∧ qBV d k [v0, v1, v2, v3] σ (fun σ1 => qW d J Q is lo st σ1)) := by
  rw [qW_call]
  simp [qcall]
theorem qW_cs5_0 {d : Nat} {J : Nat → qLo → List qPV → qSg → Prop} {Q : qQ} (is : List qIns) (l : Nat) (lo : qLo) (st : List qPV) (σ : qSg) (v0 v1 v2 v3 v4 : qPV) (n k h c : Nat) : qW d J Q ((.invokestatic n, l, [k, h, 5, 0, c]) :: is) lo (v4 :: v3 :: v2 :: v1 :: v0 :: st) σ = (qcs st ≤ 8 ∧ qRcv c [v0, v1, v2, v3, v4] ∧ qBI d k [v0, v1, v2, v3, v4] σ (fun r σ1 => qW d J Q is lo (.inl r :: st) σ1)) := by
  rw [qW_call]
  simp [qcall]
theorem qW_cs5_1 {d : Nat} {J : Nat → qLo → List qPV → qSg → Prop} {Q : qQ} (is : List qIns) (l : Nat) (lo : qLo) (st : List qPV) (σ : qSg) (v0 v1 v2 v3 v4 : qPV) (n k h c : Nat) : qW d J Q ((.invokestatic n, l, [k, h, 5, 1, c]) :: is) lo (v4 :: v3 :: v2 :: v1 :: v0 :: st) σ = (qcs st ≤ 8 ∧ qRcv c [v0, v1, v2, v3, v4] ∧ qBL d k [v0, v1, v2, v3, v4] σ (fun r σ1 => qW d J Q is lo (.inr (.inl r) :: st) σ1)) := by
  rw [qW_call]
  simp [qcall]
theorem qW_cs5_2 {d : Nat} {J : Nat → qLo → List qPV → qSg → Prop} {Q : qQ} (is : List qIns) (l : Nat) (lo : qLo) (st : List qPV) (σ : qSg) (v0 v1 v2 v3 v4 : qPV) (n k h c : Nat) : qW d J Q ((.invokestatic n, l, [k, h, 5, 2, c]) :: is) lo (v4 :: v3 :: v2 :: v1 :: v0 :: st) σ = (qcs st ≤ 8 ∧ qRcv c [v0, v1, v2, v3, v4] ∧ qBV d k [v0, v1, v2, v3, v4] σ (fun σ1 => qW d J Q is lo st σ1)) := by
  rw [qW_call]
  simp [qcall]
theorem qW_cs6_0 {d : Nat} {J : Nat → qLo → List qPV → qSg → Prop} {Q : qQ} (is : List qIns) (l : Nat) (lo : qLo) (st : List qPV) (σ : qSg) (v0 v1 v2 v3 v4 v5 : qPV) (n k h c : Nat) : qW d J Q ((.invokestatic n, l, [k, h, 6, 0, c]) :: is) lo (v5 :: v4 :: v3 :: v2 :: v1 :: v0 :: st) σ = (qcs st ≤ 8 ∧ qRcv c [v0, v1, v2, v3, v4, v5] ∧ qBI d k [v0, v1, v2, v3, v4, v5] σ (fun r σ1 => qW d J Q is lo (.inl r :: st) σ1)) := by
  rw [qW_call]
  simp [qcall]
theorem qW_cs6_1 {d : Nat} {J : Nat → qLo → List qPV → qSg → Prop} {Q : qQ} (is : List qIns) (l : Nat) (lo : qLo) (st : List qPV) (σ : qSg) (v0 v1 v2 v3 v4 v5 : qPV) (n k h c : Nat) : qW d J Q ((.invokestatic n, l, [k, h, 6, 1, c]) :: is) lo (v5 :: v4 :: v3 :: v2 :: v1 :: v0 :: st) σ = (qcs st ≤ 8 ∧ qRcv c [v0, v1, v2, v3, v4, v5] ∧ qBL d k [v0, v1, v2, v3, v4, v5] σ (fun r σ1 => qW d J Q is lo (.inr (.inl r) :: st) σ1)) := by
  rw [qW_call]
  simp [qcall]
theorem qW_cs6_2 {d : Nat} {J : Nat → qLo → List qPV → qSg → Prop} {Q : qQ} (is : List qIns) (l : Nat) (lo : qLo) (st : List qPV) (σ : qSg) (v0 v1 v2 v3 v4 v5 : qPV) (n k h c : Nat) : qW d J Q ((.invokestatic n, l, [k, h, 6, 2, c]) :: is) lo (v5 :: v4 :: v3 :: v2 :: v1 :: v0 :: st) σ = (qcs st ≤ 8 ∧ qRcv c [v0, v1, v2, v3, v4, v5] ∧ qBV d k [v0, v1, v2, v3, v4, v5] σ (fun σ1 => qW d J Q is lo st σ1)) := by
  rw [qW_call]
  simp [qcall]
theorem qW_cv1_0 {d : Nat} {J : Nat → qLo → List qPV → qSg → Prop} {Q : qQ} (is : List qIns) (l : Nat) (lo : qLo) (st : List qPV) (σ : qSg) (v0 : qPV) (n k h c : Nat) : qW d J Q ((.invokevirtual n, l, [k, h, 1, 0, c]) :: is) lo (v0 :: st) σ = (qcs st ≤ 8 ∧ qRcv c [v0] ∧ qBI d k [v0] σ (fun r σ1 => qW d J Q is lo (.inl r :: st) σ1)) := by
  rw [qW_callv]
  simp [qcall]
theorem qW_cv1_1 {d : Nat} {J : Nat → qLo → List qPV → qSg → Prop} {Q : qQ} (is : List qIns) (l : Nat) (lo : qLo) (st : List qPV) (σ : qSg) (v0 : qPV) (n k h c : Nat) : qW d J Q ((.invokevirtual n, l, [k, h, 1, 1, c]) :: is) lo (v0 :: st) σ = (qcs st ≤ 8 ∧ qRcv c [v0] ∧ qBL d k [v0] σ (fun r σ1 => qW d J Q is lo (.inr (.inl r) :: st) σ1)) := by
  rw [qW_callv]
  simp [qcall]
theorem qW_cv1_2 {d : Nat} {J : Nat → qLo → List qPV → qSg → Prop} {Q : qQ} (is : List qIns) (l : Nat) (lo : qLo) (st : List qPV) (σ : qSg) (v0 : qPV) (n k h c : Nat) : qW d J Q ((.invokevirtual n, l, [k, h, 1, 2, c]) :: is) lo (v0 :: st) σ = (qcs st ≤ 8 ∧ qRcv c [v0] ∧ qBV d k [v0] σ (fun σ1 => qW d J Q is lo st σ1)) := by
  rw [qW_callv]
  simp [qcall]
theorem qW_cv2_0 {d : Nat} {J : Nat → qLo → List qPV → qSg → Prop} {Q : qQ} (is : List qIns) (l : Nat) (lo : qLo) (st : List qPV) (σ : qSg) (v0 v1 : qPV) (n k h c : Nat) : qW d J Q ((.invokevirtual n, l, [k, h, 2, 0, c]) :: is) lo (v1 :: v0 :: st) σ = (qcs st ≤ 8 ∧ qRcv c [v0, v1] ∧ qBI d k [v0, v1] σ (fun r σ1 => qW d J Q is lo (.inl r :: st) σ1)) := by
  rw [qW_callv]
  simp [qcall]
theorem qW_cv2_1 {d : Nat} {J : Nat → qLo → List qPV → qSg → Prop} {Q : qQ} (is : List qIns) (l : Nat) (lo : qLo) (st : List qPV) (σ : qSg) (v0 v1 : qPV) (n k h c : Nat) : qW d J Q ((.invokevirtual n, l, [k, h, 2, 1, c]) :: is) lo (v1 :: v0 :: st) σ = (qcs st ≤ 8 ∧ qRcv c [v0, v1] ∧ qBL d k [v0, v1] σ (fun r σ1 => qW d J Q is lo (.inr (.inl r) :: st) σ1)) := by
  rw [qW_callv]
  simp [qcall]
theorem qW_cv2_2 {d : Nat} {J : Nat → qLo → List qPV → qSg → Prop} {Q : qQ} (is : List qIns) (l : Nat) (lo : qLo) (st : List qPV) (σ : qSg) (v0 v1 : qPV) (n k h c : Nat) : qW d J Q ((.invokevirtual n, l, [k, h, 2, 2, c]) :: is) lo (v1 :: v0 :: st) σ = (qcs st ≤ 8 ∧ qRcv c [v0, v1] ∧ qBV d k [v0, v1] σ (fun σ1 => qW d J Q is lo st σ1)) := by
  rw [qW_callv]
  simp [qcall]
theorem qW_cv3_0 {d : Nat} {J : Nat → qLo → List qPV → qSg → Prop} {Q : qQ} (is : List qIns) (l : Nat) (lo : qLo) (st : List qPV) (σ : qSg) (v0 v1 v2 : qPV) (n k h c : Nat) : qW d J Q ((.invokevirtual n, l, [k, h, 3, 0, c]) :: is) lo (v2 :: v1 :: v0 :: st) σ = (qcs st ≤ 8 ∧ qRcv c [v0, v1, v2] ∧ qBI d k [v0, v1, v2] σ (fun r σ1 => qW d J Q is lo (.inl r :: st) σ1)) := by
  rw [qW_callv]
  simp [qcall]
theorem qW_cv3_1 {d : Nat} {J : Nat → qLo → List qPV → qSg → Prop} {Q : qQ} (is : List qIns) (l : Nat) (lo : qLo) (st : List qPV) (σ : qSg) (v0 v1 v2 : qPV) (n k h c : Nat) : qW d J Q ((.invokevirtual n, l, [k, h, 3, 1, c]) :: is) lo (v2 :: v1 :: v0 :: st) σ = (qcs st ≤ 8 ∧ qRcv c [v0, v1, v2] ∧ qBL d k [v0, v1, v2] σ (fun r σ1 => qW d J Q is lo (.inr (.inl r) :: st) σ1)) := by
  rw [qW_callv]
  simp [qcall]
theorem qW_cv3_2 {d : Nat} {J : Nat → qLo → List qPV → qSg → Prop} {Q : qQ} (is : List qIns) (l : Nat) (lo : qLo) (st : List qPV) (σ : qSg) (v0 v1 v2 : qPV) (n k h c : Nat) : qW d J Q ((.invokevirtual n, l, [k, h, 3, 2, c]) :: is) lo (v2 :: v1 :: v0 :: st) σ = (qcs st ≤ 8 ∧ qRcv c [v0, v1, v2] ∧ qBV d k [v0, v1, v2] σ (fun σ1 => qW d J Q is lo st σ1)) := by
  rw [qW_callv]
  simp [qcall]
theorem qW_cv4_0 {d : Nat} {J : Nat → qLo → List qPV → qSg → Prop} {Q : qQ} (is : List qIns) (l : Nat) (lo : qLo) (st : List qPV) (σ : qSg) (v0 v1 v2 v3 : qPV) (n k h c : Nat) : qW d J Q ((.invokevirtual n, l, [k, h, 4, 0, c]) :: is) lo (v3 :: v2 :: v1 :: v0 :: st) σ = (qcs st ≤ 8 ∧ qRcv c [v0, v1, v2, v3] ∧ qBI d k [v0, v1, v2, v3] σ (fun r σ1 => qW d J Q is lo (.inl r :: st) σ1)) := by
  rw [qW_callv]
  simp [qcall]
theorem qW_cv4_1 {d : Nat} {J : Nat → qLo → List qPV → qSg → Prop} {Q : qQ} (is : List qIns) (l : Nat) (lo : qLo) (st : List qPV) (σ : qSg) (v0 v1 v2 v3 : qPV) (n k h c : Nat) : qW d J Q ((.invokevirtual n, l, [k, h, 4, 1, c]) :: is) lo (v3 :: v2 :: v1 :: v0 :: st) σ = (qcs st ≤ 8 ∧ qRcv c [v0, v1, v2, v3] ∧ qBL d k [v0, v1, v2, v3] σ (fun r σ1 => qW d J Q is lo (.inr (.inl r) :: st) σ1)) := by
  rw [qW_callv]
  simp [qcall]
theorem qW_cv4_2 {d : Nat} {J : Nat → qLo → List qPV → qSg → Prop} {Q : qQ} (is : List qIns) (l : Nat) (lo : qLo) (st : List qPV) (σ : qSg) (v0 v1 v2 v3 : qPV) (n k h c : Nat) : qW d J Q ((.invokevirtual n, l, [k, h, 4, 2, c]) :: is) lo (v3 :: v2 :: v1 :: v0 :: st) σ = (qcs st ≤ 8 ∧ qRcv c [v0, v1, v2, v3] ∧ qBV d k [v0, v1, v2, v3] σ (fun σ1 => qW d J Q is lo st σ1)) := by
  rw [qW_callv]
  simp [qcall]
theorem qW_cv5_0 {d : Nat} {J : Nat → qLo → List qPV → qSg → Prop} {Q : qQ} (is : List qIns) (l : Nat) (lo : qLo) (st : List qPV) (σ : qSg) (v0 v1 v2 v3 v4 : qPV) (n k h c : Nat) : qW d J Q ((.invokevirtual n, l, [k, h, 5, 0, c]) :: is) lo (v4 :: v3 :: v2 :: v1 :: v0 :: st) σ = (qcs st ≤ 8 ∧ qRcv c [v0, v1, v2, v3, v4] ∧ qBI d k [v0, v1, v2, v3, v4] σ (fun r σ1 => qW d J Q is lo (.inl r :: st) σ1)) := by
  rw [qW_callv]
  simp [qcall]
theorem qW_cv5_1 {d : Nat} {J : Nat → qLo → List qPV → qSg → Prop} {Q : qQ} (is : List qIns) (l : Nat) (lo : qLo) (st : List qPV) (σ : qSg) (v0 v1 v2 v3 v4 : qPV) (n k h c : Nat) : qW d J Q ((.invokevirtual n, l, [k, h, 5, 1, c]) :: is) lo (v4 :: v3 :: v2 :: v1 :: v0 :: st) σ = (qcs st ≤ 8 ∧ qRcv c [v0, v1, v2, v3, v4] ∧ qBL d k [v0, v1, v2, v3, v4] σ (fun r σ1 => qW d J Q is lo (.inr (.inl r) :: st) σ1)) := by
  rw [qW_callv]
  simp [qcall]
theorem qW_cv5_2 {d : Nat} {J : Nat → qLo → List qPV → qSg → Prop} {Q : qQ} (is : List qIns) (l : Nat) (lo : qLo) (st : List qPV) (σ : qSg) (v0 v1 v2 v3 v4 : qPV) (n k h c : Nat) : qW d J Q ((.invokevirtual n, l, [k, h, 5, 2, c]) :: is) lo (v4 :: v3 :: v2 :: v1 :: v0 :: st) σ = (qcs st ≤ 8 ∧ qRcv c [v0, v1, v2, v3, v4] ∧ qBV d k [v0, v1, v2, v3, v4] σ (fun σ1 => qW d J Q is lo st σ1)) := by
  rw [qW_callv]
  simp [qcall]
theorem qW_cv6_0 {d : Nat} {J : Nat → qLo → List qPV → qSg → Prop} {Q : qQ} (is : List qIns) (l : Nat) (lo : qLo) (st : List qPV) (σ : qSg) (v0 v1 v2 v3 v4 v5 : qPV) (n k h c : Nat) : qW d J Q ((.invokevirtual n, l, [k, h, 6, 0, c]) :: is) lo (v5 :: v4 :: v3 :: v2 :: v1 :: v0 :: st) σ = (qcs st ≤ 8 ∧ qRcv c [v0, v1, v2, v3, v4, v5] ∧ qBI d k [v0, v1, v2, v3, v4, v5] σ (fun r σ1 => qW d J Q is lo (.inl r :: st) σ1)) := by
  rw [qW_callv]
  simp [qcall]
theorem qW_cv6_1 {d : Nat} {J : Nat → qLo → List qPV → qSg → Prop} {Q : qQ} (is : List qIns) (l : Nat) (lo : qLo) (st : List qPV) (σ : qSg) (v0 v1 v2 v3 v4 v5 : qPV) (n k h c : Nat) : qW d J Q ((.invokevirtual n, l, [k, h, 6, 1, c]) :: is) lo (v5 :: v4 :: v3 :: v2 :: v1 :: v0 :: st) σ = (qcs st ≤ 8 ∧ qRcv c [v0, v1, v2, v3, v4, v5] ∧ qBL d k [v0, v1, v2, v3, v4, v5] σ (fun r σ1 => qW d J Q is lo (.inr (.inl r) :: st) σ1)) := by
  rw [qW_callv]
  simp [qcall]
theorem qW_cv6_2 {d : Nat} {J : Nat → qLo → List qPV → qSg → Prop} {Q : qQ} (is : List qIns) (l : Nat) (lo : qLo) (st : List qPV) (σ : qSg) (v0 v1 v2 v3 v4 v5 : qPV) (n k h c : Nat) : qW d J Q ((.invokevirtual n, l, [k, h, 6, 2, c]) :: is) lo (v5 :: v4 :: v3 :: v2 :: v1 :: v0 :: st) σ = (qcs st ≤ 8 ∧ qRcv c [v0, v1, v2, v3, v4, v5] ∧ qBV d k [v0, v1, v2, v3, v4, v5] σ (fun σ1 => qW d J Q is lo st σ1)) := by
  rw [qW_callv]
  simp [qcall]
theorem qW_mmax {d : Nat} {J : Nat → qLo → List qPV → qSg → Prop} {Q : qQ} (is : List qIns) (l : Nat) (lo : qLo) (st : List qPV) (σ : qSg) (n h : Nat) (y x : Int32) : qW d J Q ((.invokestatic n, l, [h, 0]) :: is) lo (.inl y :: .inl x :: st) σ = (qcs st ≤ 8 ∧ 0 < d ∧ qW d J Q is lo (.inl (qmax x y) :: st) σ) := by
  rw [qW_math]
  simp [qmath]
theorem qW_mmin {d : Nat} {J : Nat → qLo → List qPV → qSg → Prop} {Q : qQ} (is : List qIns) (l : Nat) (lo : qLo) (st : List qPV) (σ : qSg) (n h : Nat) (y x : Int32) : qW d J Q ((.invokestatic n, l, [h, 1]) :: is) lo (.inl y :: .inl x :: st) σ = (qcs st ≤ 8 ∧ 0 < d ∧ qW d J Q is lo (.inl (qmin x y) :: st) σ) := by
  rw [qW_math]
  simp [qmath]
theorem qW_mabs {d : Nat} {J : Nat → qLo → List qPV → qSg → Prop} {Q : qQ} (is : List qIns) (l : Nat) (lo : qLo) (st : List qPV) (σ : qSg) (n h : Nat) (x : Int32) : qW d J Q ((.invokestatic n, l, [h, 2]) :: is) lo (.inl x :: st) σ = (qcs st ≤ 8 ∧ 0 < d ∧ qW d J Q is lo (.inl (qabs x) :: st) σ) := by
  rw [qW_math]
  simp [qmath]
theorem qW_iret0 {d : Nat} {J : Nat → qLo → List qPV → qSg → Prop} {Q : qQ} (is : List qIns) (l : Nat) (lo : qLo) (σ : qSg) (x : Int32) : qW d J Q ((.ireturn, l, [0]) :: is) lo [.inl x] σ = (qrI Q x σ) := by rw [qW_iret]; simp
theorem qW_iret1 {d : Nat} {J : Nat → qLo → List qPV → qSg → Prop} {Q : qQ} (is : List qIns) (l : Nat) (lo : qLo) (σ : qSg) (x : Int32) : qW d J Q ((.ireturn, l, [1]) :: is) lo [.inl x] σ = ((x = nI 0 ∨ x = nI 1) ∧ qrI Q x σ) := by rw [qW_iret]; simp
theorem qW_putf0 {d : Nat} {J : Nat → qLo → List qPV → qSg → Prop} {Q : qQ} (is : List qIns) (l : Nat) (lo : qLo) (st : List qPV) (σ : qSg) (n c k h a : Nat) (x : Int32) : qW d J Q ((.putfield n, l, [c, k, h, 0]) :: is) lo (.inl x :: .inr (.inr (some a)) :: st) σ = ((qKd a).1 = 10 + c ∧ qW d J Q is lo st (qwi σ a k x)) := by rw [qW_putfI]; simp
theorem qW_putf3 {d : Nat} {J : Nat → qLo → List qPV → qSg → Prop} {Q : qQ} (is : List qIns) (l : Nat) (lo : qLo) (st : List qPV) (σ : qSg) (n c k h a : Nat) (x : Int32) : qW d J Q ((.putfield n, l, [c, k, h, 3]) :: is) lo (.inl x :: .inr (.inr (some a)) :: st) σ = ((x = nI 0 ∨ x = nI 1) ∧ (qKd a).1 = 10 + c ∧ qW d J Q is lo st (qwi σ a k x)) := by rw [qW_putfI]; simp
theorem qW_putf1 {d : Nat} {J : Nat → qLo → List qPV → qSg → Prop} {Q : qQ} (is : List qIns) (l : Nat) (lo : qLo) (st : List qPV) (σ : qSg) (n c k h a : Nat) (x : Int64) : qW d J Q ((.putfield n, l, [c, k, h, 1]) :: is) lo (.inr (.inl x) :: .inr (.inr (some a)) :: st) σ = ((qKd a).1 = 10 + c ∧ qW d J Q is lo st (qwl σ a k x)) := by rw [qW_putfL]; simp
end
section
/-! the pure machine's steps are the machine's -/
theorem qlg_some : ∀ (lo : qLo) (i : Nat) {v : qPV}, qlg lo i = v → v ≠ .inr (.inr none) → lo[i]? = some (some v)
  | [], i, v, h, hv => absurd h.symm (by simpa [qlg] using hv)
  | a :: t, 0, v, h, hv => by
    cases a with
    | none => exact absurd h.symm (by simpa [qlg] using hv)
    | some w => simp only [qlg, Option.getD_some] at h; rw [h]; rfl
  | a :: t, n + 1, v, h, hv => by simpa using qlg_some t n h hv
theorem qls_spec : ∀ (lo : qLo) (i : Nat) (v : qPV) (j : Nat) (w : qPV), (qls lo i v)[j]? = some (some w) →
    (j = i ∧ w = v) ∨ (j ≠ i ∧ lo[j]? = some (some w) ∧ (j + 1 = i → qil w = false) ∧ (qil v = true → j ≠ i + 1))
  | [], i, v, j, w, h => by simp [qls] at h
  | a :: t, 0, v, j, w, h => by
    simp only [qls, qls0] at h
    cases j with
    | zero => exact Or.inl ⟨rfl, by simpa using h.symm⟩
    | succ j =>
      refine Or.inr ⟨by omega, ?_, by omega, ?_⟩
      · simp only [List.getElem?_cons_succ] at h ⊢
        split at h
        · cases t with
          | nil => simp at h
          | cons b t' =>
            cases j with
            | zero => simp at h
            | succ j => simpa using h
        · exact h
      · intro hv hj
        have hj0 : j = 0 := by omega
        subst hj0
        rw [if_pos hv] at h
        cases t <;> simp at h
  | a :: t, n + 1, v, j, w, h => by
    simp only [qls] at h
    cases j with
    | zero =>
      simp only [List.getElem?_cons_zero, Option.some.injEq] at h
      refine Or.inr ⟨by omega, ?_, ?_, by omega⟩
      · by_cases hn : n = 0
        · rw [if_pos hn] at h
          unfold qkl at h
          split at h
          · cases h
          · simpa using h
        · rw [if_neg hn] at h; simpa using h
      · intro hn
        have hn0 : n = 0 := by omega
        rw [if_pos hn0] at h
        unfold qkl at h
        split at h
        · cases h
        · rename_i hne
          subst h
          unfold qil
          split
          · exact absurd rfl (hne _)
          · rfl
    | succ j =>
      simp only [List.getElem?_cons_succ] at h
      rcases qls_spec t n v j w h with ⟨h1, h2⟩ | ⟨h1, h2, h3, h4⟩
      · exact Or.inl ⟨by omega, h2⟩
      · exact Or.inr ⟨by omega, by simpa using h2, fun e => h3 (by omega), fun e => by have := h4 e; omega⟩
def qLR (E : qE) (lo : qLo) (ls : Array Slot) (nL : Nat) : Prop := ls.size = nL ∧ lv_wf ls ∧ ∀ (i : Nat) (v : qPV), lo[i]? = some (some v) → ls[i]? = some (.val (qTV E.2.1 v))
def qmkl (E : qE) (lo : qLo) : List (Nat × Value) := (List.range lo.length).filterMap (fun i => match lo[i]? with | some (some v) => some (i, qTV E.2.1 v) | _ => none)
theorem qmkl_mem {E : qE} {lo : qLo} {q : Nat × Value} : q ∈ qmkl E lo ↔ ∃ v, lo[q.1]? = some (some v) ∧ q.2 = qTV E.2.1 v := by
  unfold qmkl
  rw [List.mem_filterMap]
  constructor
  · rintro ⟨i, hi, h⟩
    split at h
    · rename_i v hv
      cases h
      exact ⟨v, hv, rfl⟩
    · cases h
  · rintro ⟨v, h1, h2⟩
    refine ⟨q.1, List.mem_range.mpr (List.getElem?_eq_some_iff.mp h1).1, ?_⟩
    rw [h1]
    simp only
    rw [← h2]
theorem qLR_has {E : qE} {lo : qLo} {ls : Array Slot} {nL : Nat} (h : qLR E lo ls nL) : lv_has ls nL (qmkl E lo) := by
  refine ⟨h.1, h.2.1, fun q hq => ?_⟩
  obtain ⟨v, h1, h2⟩ := qmkl_mem.mp hq
  rw [h2]
  exact h.2.2 _ _ h1
theorem qTV_cat (ad : Nat → Nat) (v : qPV) : (qTV ad v).category = if qil v then 2 else 1 := by
  rcases v with x | x | _ | k <;> rfl
theorem qLR_st1 {E : qE} {lo : qLo} {ls' : Array Slot} {nL i : Nat} {v : qPV} (hv : qil v = false) (h : lv_has ls' nL ((i, qTV E.2.1 v) :: (qmkl E lo).filter (fun q => !(q.1 == i) && !(q.1 + 1 == i && q.2.category == 2)))) : qLR E (qls lo i v) ls' nL := by
  refine ⟨h.1, h.2.1, fun j w hj => ?_⟩
  rcases qls_spec lo i v j w hj with ⟨rfl, rfl⟩ | ⟨h1, h2, h3, -⟩
  · exact h.2.2 (j, qTV E.2.1 w) List.mem_cons_self
  · refine h.2.2 (j, qTV E.2.1 w) (List.mem_cons_of_mem _ (List.mem_filter.mpr ⟨qmkl_mem.mpr ⟨w, h2, rfl⟩, ?_⟩))
    simp only [Bool.and_eq_true, Bool.not_eq_true', beq_eq_false_iff_ne, ne_eq, Bool.and_eq_false_iff]
    refine ⟨h1, ?_⟩
    by_cases hj1 : j + 1 = i
    · right
      rw [qTV_cat, h3 hj1]
      simp
    · exact Or.inl hj1
theorem qLR_st2 {E : qE} {lo : qLo} {ls' : Array Slot} {nL i : Nat} {v : qPV} (hv : qil v = true) (h : lv_has ls' nL ((i, qTV E.2.1 v) :: (qmkl E lo).filter (fun q => !(q.1 == i) && (!(q.1 == i + 1) && !(q.1 + 1 == i && q.2.category == 2))))) : qLR E (qls lo i v) ls' nL := by
  refine ⟨h.1, h.2.1, fun j w hj => ?_⟩
  rcases qls_spec lo i v j w hj with ⟨rfl, rfl⟩ | ⟨h1, h2, h3, h4⟩
  · exact h.2.2 (j, qTV E.2.1 w) List.mem_cons_self
  · refine h.2.2 (j, qTV E.2.1 w) (List.mem_cons_of_mem _ (List.mem_filter.mpr ⟨qmkl_mem.mpr ⟨w, h2, rfl⟩, ?_⟩))
    simp only [Bool.and_eq_true, Bool.not_eq_true', beq_eq_false_iff_ne, ne_eq, Bool.and_eq_false_iff]
    refine ⟨h1, h4 hv, ?_⟩
    by_cases hj1 : j + 1 = i
    · right
      rw [qTV_cat, h3 hj1]
      simp
    · exact Or.inl hj1
-- the world's cells
theorem qKd_lt {a : Nat} (h : (qKd a).1 ≠ 0 ∨ (qKd a).2 ≠ 0) : a < qKL.length := by
  rcases Nat.lt_or_ge a qKL.length with q | q
  · exact q
  · have e : qKd a = (0, 0) := by unfold qKd; rw [List.getD_eq_getElem?_getD, List.getElem?_eq_none q]; rfl
    rw [e] at h
    simp at h
theorem qws_at (E : qE) (σ : qSg) {a : Nat} (ha : a < qKL.length) : (qws E σ)[a]? = some (E.2.1 a, qent E σ a) := by
  simp [qws, ha]
theorem qws_set (E : qE) {σ σ' : qSg} {a : Nat} (h : ∀ b, b ≠ a → qent E σ' b = qent E σ b) : (qws E σ).set a (E.2.1 a, qent E σ' a) = qws E σ' := by
  apply List.ext_getElem?
  intro k
  rw [List.getElem?_set]
  by_cases hk : a = k
  · subst hk
    rw [if_pos rfl]
    by_cases hl : a < qKL.length
    · rw [if_pos (by simpa [qws] using hl), qws_at E σ' hl]
    · rw [if_neg (by simpa [qws] using hl)]
      simp [qws, hl]
  · rw [if_neg hk]
    by_cases hl : k < qKL.length
    · rw [qws_at E σ hl, qws_at E σ' hl, h k (fun e => hk e.symm)]
    · simp [qws, hl]
theorem qobj_n : ∀ a, a < qKL.length → 10 ≤ (qKd a).1 → (qKd a).2 = qnf ((qKd a).1 - 10) := by decide +kernel
theorem qent_obj (E : qE) (σ : qSg) {a c : Nat} (h : (qKd a).1 = 10 + c) : qent E σ a = .inr (c, (List.range (qnf c)).map (fun j => qfv E σ c a j)) := by
  have h1 : 10 ≤ (qKd a).1 := by omega
  have h2 : (qKd a).1 - 10 = c := by omega
  have h3 := qobj_n a (qKd_lt (Or.inl (by omega))) h1
  unfold qent
  rw [if_pos h1, h3, h2]
theorem qent_i (E : qE) (σ : qSg) {a t : Nat} (h : (qKd a).1 = t) (ht : t = 0 ∨ t = 2 ∨ t = 3) : qent E σ a = .inl (E.2.2.1 t, (qKd a).2, .inl (σ.1 a)) := by
  unfold qent
  rw [if_neg (by omega), if_neg (by omega), if_neg (by omega), h]
theorem qent_l (E : qE) (σ : qSg) {a : Nat} (h : (qKd a).1 = 1) : qent E σ a = .inl (E.2.2.1 1, (qKd a).2, .inr (.inl (σ.2 a))) := by
  unfold qent
  rw [if_neg (by omega), if_pos h, h]
theorem qent_r (E : qE) (σ : qSg) {a t : Nat} (h : (qKd a).1 = t) (ht : t = 4 ∨ t = 5) : qent E σ a = .inl (E.2.2.1 t, (qKd a).2, .inr (.inr (.inr (.inr fun j => (qRf a j).map E.2.1)))) := by
  unfold qent
  rw [if_neg (by omega), if_neg (by omega), if_pos (by omega), h]
theorem qent_wi (E : qE) (σ : qSg) {a k : Nat} {x : Int32} : ∀ b, b ≠ a → qent E (qwi σ a k x) b = qent E σ b := by
  intro b hb
  have e1 : (qwi σ a k x).1 b = σ.1 b := by funext j; simp [qwi, hb]
  have e2 : (qwi σ a k x).2 = σ.2 := rfl
  have e3 : ∀ c j, qfv E (qwi σ a k x) c b j = qfv E σ c b j := fun c j => by simp only [qfv, qfl, e1, e2]
  simp only [qent, e1, e2, e3]
theorem qent_wl (E : qE) (σ : qSg) {a k : Nat} {x : Int64} : ∀ b, b ≠ a → qent E (qwl σ a k x) b = qent E σ b := by
  intro b hb
  have e1 : (qwl σ a k x).2 b = σ.2 b := by funext j; simp [qwl, hb]
  have e2 : (qwl σ a k x).1 = σ.1 := rfl
  have e3 : ∀ c j, qfv E (qwl σ a k x) c b j = qfv E σ c b j := fun c j => by simp only [qfv, qfl, e1, e2]
  simp only [qent, e1, e2, e3]
theorem qmap_set {α : Type} (f : Nat → α) (n k : Nat) (v : α) : ((List.range n).map f).set k v = (List.range n).map (fun j => if j = k then v else f j) := by
  apply List.ext_getElem?
  intro j
  rw [List.getElem?_set]
  by_cases h : k = j
  · subst h
    by_cases hk : k < n <;> simp [hk]
  · by_cases hj : j < n
    · simp [h, hj, Ne.symm h]
    · simp [h, hj]
theorem qent_wiO (E : qE) (σ : qSg) {a c k : Nat} {x : Int32} (h : (qKd a).1 = 10 + c) (hf : qft c k = 0 ∨ qft c k = 3) :
    Sum.inr (c, ((List.range (qnf c)).map (fun j => qfv E σ c a j)).set k (.int x)) = qent E (qwi σ a k x) a := by
  rw [qent_obj E _ h, qmap_set]
  congr 2
  apply List.map_congr_left
  intro j _
  by_cases hj : j = k
  · subst hj
    rw [if_pos rfl]
    simp only [qfv, qfl]
    rw [if_neg (by omega), if_neg (by omega)]
    simp [qwi, qTV]
  · rw [if_neg hj]
    simp [qfv, qfl, qwi, hj]
theorem qent_wlO (E : qE) (σ : qSg) {a c k : Nat} {x : Int64} (h : (qKd a).1 = 10 + c) (hf : qft c k = 1) :
    Sum.inr (c, ((List.range (qnf c)).map (fun j => qfv E σ c a j)).set k (.long x)) = qent E (qwl σ a k x) a := by
  rw [qent_obj E _ h, qmap_set]
  congr 2
  apply List.map_congr_left
  intro j _
  by_cases hj : j = k
  · subst hj
    rw [if_pos rfl]
    simp only [qfv, qfl]
    rw [if_pos hf]
    simp [qwl, qTV]
  · rw [if_neg hj]
    simp [qfv, qfl, qwl, hj]
theorem qin_vp {i : Int32} {n : Nat} (h : qin i n) : vp_in i n := fun q => q.elim h.1 (fun q => absurd h.2 (by omega))
end
section
/-! a state of the pure machine, over the machine -/
def qCx (k : Nat) (E : qE) (p : Program) (s : State) (m : MethodId) (args : Array Value) (meth : Method) (c : Code) : Prop :=
  p.tables.exec = Jvm.exec ∧ c.code = (qMT k).2.1 ∧ c.maxLocals = (qMT k).2.2.1 ∧ meth.sig.returnType = (qMT k).2.2.2.1 ∧ meth.locks = false ∧ s.vm.findClass (qCN (qMT k).2.2.2.2.1) = some m.cls ∧ (∀ w ∈ qAL, w.before args s = true) ∧ va_K E.1 vwCl (qtys E) s ∧ qStr E s s.heap ∧ E.2.2.2 ≤ s.heap.size
def qQc (E : qE) (Q : qQ) : Array Value → State → Outcome → State → Prop := match Q with
  | .inl q => va_Qi q (qWU E) (qA E)
  | .inr (.inl q) => va_Ql q (qWU E) (qA E)
  | .inr (.inr q) => va_Qv q (qWU E) (qA E)
def qV (k d : Nat) (Q : qQ) (pc : Nat) (lo : qLo) (st : List qPV) (σ : qSg) : Prop :=
  ∀ (p : Program) (l : Launch) (e : Env) (s : State) (m : MethodId) (args : Array Value) (below : List Frame) (meth : Method) (c : Code) (E : qE), qCx k E p s m args meth c →
  ∀ (H : Heap) (locs : List Loc) (ls : Array Slot), va_P E.1 vwCl (qws E σ) H → va_D (qA E) (qws E σ) → va_S (qA E) s.heap H locs → qLR E lo ls (qMT k).2.2.1 →
  W p l e (qRm d) s m args below meth c H locs 0 0 (MQ below (qQc E Q) args s 0 0 (qA E)) (F0 m pc ls (st.map (qTV E.2.1)))
theorem qIsI_ex {v : qPV} (h : qIsI v) : ∃ x, v = .inl x := by
  rcases v with x | x | _ | k
  · exact ⟨x, rfl⟩
  all_goals exact h.elim
theorem qIsL_ex {v : qPV} (h : qIsL v) : ∃ x, v = .inr (.inl x) := by
  rcases v with x | x | _ | k
  · exact h.elim
  · exact ⟨x, rfl⟩
  all_goals exact h.elim
theorem qIsR_ex {v : qPV} (h : qIsR v) : ∃ x, v = .inr (.inr (some x)) := by
  rcases v with x | x | _ | k
  · exact h.elim
  · exact h.elim
  · exact h.elim
  · exact ⟨k, rfl⟩
theorem qcs_sum (ad : Nat → Nat) : ∀ st : List qPV, ((st.map (qTV ad)).map fun v => v.category).sum = qcs st
  | [] => rfl
  | v :: t => by
    have := qcs_sum ad t
    simp only [List.map_cons, List.sum_cons, qcs, this, qTV_cat]
theorem qws_in : ∀ c, c < 13 → ∀ w ∈ u_ws (qCN c) (qTF c) (qnf c), w ∈ qAL := by
  intro c hc w hw
  have h1 : w ∈ tables_1 := by
    match c, hc with
    | 0, _ => exact inX0 w hw
    | 1, _ => exact inX1 w hw
    | 2, _ => exact inX2 w hw
    | 3, _ => exact inX3 w hw
    | 4, _ => exact inX4 w hw
    | 5, _ => exact inX5 w hw
    | 6, _ => exact inX6 w hw
    | 7, _ => exact inX7 w hw
    | 8, _ => exact inX8 w hw
    | 9, _ => exact inX9 w hw
    | 10, _ => exact inX10 w hw
    | 11, _ => exact inX11 w hw
    | 12, _ => exact inX12 w hw
    | n + 13, h => exact absurd h (by omega)
  refine List.mem_filter.mpr ⟨List.mem_append_right _ h1, ?_⟩
  obtain ⟨k, -, rfl⟩ := List.mem_map.mp hw
  unfold u_lay
  split <;> rfl
theorem qty_ok : ∀ c, c < 13 → ∀ k, k < qnf c → parseFieldDescriptor (qTF c k).2.2.1 = some (qTy c k)
  | 0, _ => tyX0_ok
  | 1, _ => tyX1_ok
  | 2, _ => tyX2_ok
  | 3, _ => tyX3_ok
  | 4, _ => tyX4_ok
  | 5, _ => tyX5_ok
  | 6, _ => tyX6_ok
  | 7, _ => tyX7_ok
  | 8, _ => tyX8_ok
  | 9, _ => tyX9_ok
  | 10, _ => tyX10_ok
  | 11, _ => tyX11_ok
  | 12, _ => tyX12_ok
  | n + 13, h => absurd h (by omega)
theorem qnm_ok : ∀ c, c < 13 → ∀ a, a < qnf c → ∀ b, b < qnf c → a ≠ b → (qTF c a).2.1 ≠ (qTF c b).2.1
  | 0, _ => nmX0
  | 1, _ => nmX1
  | 2, _ => nmX2
  | 3, _ => nmX3
  | 4, _ => nmX4
  | 5, _ => nmX5
  | 6, _ => nmX6
  | 7, _ => nmX7
  | 8, _ => nmX8
  | 9, _ => nmX9
  | 10, _ => nmX10
  | 11, _ => nmX11
  | 12, _ => nmX12
  | n + 13, h => absurd h (by omega)
theorem qft_int {c k : Nat} (h : qft c k = 0) : qTy c k = .int := by
  unfold qft at h
  split at h <;> first | assumption | (exact absurd h (by decide))
theorem qft_bool {c k : Nat} (h : qft c k = 3) : qTy c k = .boolean := by
  unfold qft at h
  split at h <;> first | assumption | (exact absurd h (by decide))
theorem qft_long {c k : Nat} (h : qft c k = 1) : qTy c k = .long := by
  unfold qft at h
  split at h <;> first | assumption | (exact absurd h (by decide))
theorem qStr_moved {E : qE} {u U : State} (hv : U.vm = u.vm) (hh : U.heap = u.heap) (h : qStr E u u.heap) : qStr E U U.heap := by
  have al : u.vm.Alike U.vm := by rw [hv]; exact Vm.Alike.refl _
  refine ⟨vk_R.same hv h.1, ?_⟩
  rw [hh]
  exact ⟨vk_S.moved al h.2.1, va_Z.moved al h.2.2.1, va_Zq.moved al h.2.2.2⟩
theorem qWU_blind {E : qE} {σ : qSg} {av : List Value} : FrameBlind (va_Pc av (qWU E σ)) := by
  intro a U g mk ⟨h0, h1, h2, h3, h4, h5⟩
  exact ⟨h0, h1, va_K.moved (u := U) (U := U.calling g mk a) (Vm.Alike.refl U.vm) h2, h3, qStr_moved (u := U) (U := U.calling g mk a) rfl rfl h4, h5⟩
theorem qWU_of {E : qE} {σ : qSg} {s U : State} {H : Heap} {locs : List Loc} (hKK : va_K E.1 vwCl (qtys E) s) (hStr : qStr E s s.heap) (hbs : E.2.2.2 ≤ s.heap.size) (hP : va_P E.1 vwCl (qws E σ) H) (hD : va_D (qA E) (qws E σ)) (hS : va_S (qA E) s.heap H locs) (hU : U.heap = H) (hW : s.WarmedH U.vm) : qWU E σ U := by
  subst hU
  have kp : ∀ a : Nat, a < s.heap.size → ¬ qA E a → U.heap[a]? = s.heap[a]? := fun a h1 h2 => hS.2.1 a h1 h2
  refine ⟨hP, hKK.moved hW.alike, hD, ⟨vk_R.warm hW hStr.1, (hStr.2.1.moved hW.alike).kept kp, (va_Z.moved hW.alike hStr.2.2.1).kept kp, (va_Zq.moved hW.alike hStr.2.2.2).kept kp⟩, Nat.le_trans hbs hS.1⟩
theorem qAW_in {k : Nat} (hg : qgood k) : ∀ w ∈ qAW (qMT k), w ∈ qAL := by
  intro w hw
  rcases List.mem_cons.mp hw with rfl | h
  · refine qIs_in (h := (qMT k).2.2.2.2.2.1.getD 0 0) ?_
    simp only [qIs, Bool.and_eq_true, decide_eq_true_eq]
    exact ⟨hg.2.1, rfl⟩
  · exact h
theorem qAL_good {w : Cond} (h : w ∈ qAL) : (w.onTables && w.keeps) = true ∨ ∃ ty, w = .arrayClass ty := good_of_word (List.mem_filter.mp h).2
theorem qsl_at {J : Nat → qLo → List qPV → qSg → Prop} {lo : qLo} {st : List qPV} {σ : qSg} {x : Int32} : ∀ (ts : List Nat) (a : Int) (j t : Nat), qsl J lo st σ x a ts → ts[j]? = some t → x.toInt = a + j → J t lo st σ
  | [], _, _, _, _, h, _ => by simp at h
  | u :: ts, a, 0, t, h, h1, h2 => by
    simp only [List.getElem?_cons_zero, Option.some.injEq] at h1
    subst h1
    exact h.1 (by simpa using h2)
  | u :: ts, a, j + 1, t, h, h1, h2 => qsl_at ts (a + 1) j t h.2 (by simpa using h1) (by omega)

theorem qent_ci (E : qE) (σ : qSg) {a i b j n : Nat} : ∀ c, c ≠ b → qent E (qci σ a i b j n) c = qent E σ c := by
  intro c hb
  have e1 : (qci σ a i b j n).1 c = σ.1 c := by funext k; simp [qci, hb]
  have e2 : (qci σ a i b j n).2 = σ.2 := rfl
  have e3 : ∀ x y, qfv E (qci σ a i b j n) x c y = qfv E σ x c y := fun x y => by simp only [qfv, qfl, e1, e2]
  simp only [qent, e1, e2, e3]
theorem qent_cl (E : qE) (σ : qSg) {a i b j n : Nat} : ∀ c, c ≠ b → qent E (qcl σ a i b j n) c = qent E σ c := by
  intro c hb
  have e1 : (qcl σ a i b j n).2 c = σ.2 c := by funext k; simp [qcl, hb]
  have e2 : (qcl σ a i b j n).1 = σ.1 := rfl
  have e3 : ∀ x y, qfv E (qcl σ a i b j n) x c y = qfv E σ x c y := fun x y => by simp only [qfv, qfl, e1, e2]
  simp only [qent, e1, e2, e3]
theorem qobj_c : ∀ a, a < qKL.length → (qKd a).1 < 23 := by decide +kernel
theorem qcall_s {k d pc k0 n0 h0 np0 rk0 c0 : Nat} {Q : qQ} {K : qLo → List qPV → qSg → Prop} {lo : qLo} {st : List qPV} {σ : qSg} {p : Program} {l : Launch} {e : Env} {s : State} {m : MethodId} {args : Array Value} {below : List Frame} {meth : Method} {c : Code} {E : qE} (C : qCx k E p s m args meth c) {H : Heap} {locs : List Loc} {ls : Array Slot}
    (hP : va_P E.1 vwCl (qws E σ) H) (hD : va_D (qA E) (qws E σ)) (hS : va_S (qA E) s.heap H locs) (hL : qLR E lo ls (qMT k).2.2.1) (hd : decode (qMT k).2.1 pc = .ok (.invokestatic n0, 3)) (c3 : (qMT k0).2.2.2.2.2.2.2.1 = true) (c4 : qIs h0 (.methodLink (qCN (qMT k).2.2.2.2.1) n0 (qMT k0).1) = true) (c5 : np0 = (qMT k0).2.2.2.2.2.2.1)
    (h1 : np0 ≤ st.length) (h2 : qcs (st.drop np0) ≤ 8) (h3 : qRcv c0 (st.take np0).reverse)
    (h : (if rk0 = 0 then qBI d k0 (st.take np0).reverse σ (fun r σ' => K lo (.inl r :: st.drop np0) σ') else if rk0 = 1 then qBL d k0 (st.take np0).reverse σ (fun r σ' => K lo (.inr (.inl r) :: st.drop np0) σ') else qBV d k0 (st.take np0).reverse σ (fun σ' => K lo (st.drop np0) σ')))
    (hK : ∀ lo st σ, K lo st σ → ∀ (H : Heap) (locs : List Loc) (ls : Array Slot), va_P E.1 vwCl (qws E σ) H → va_D (qA E) (qws E σ) → va_S (qA E) s.heap H locs → qLR E lo ls (qMT k).2.2.1 → W p l e (qRm d) s m args below meth c H locs 0 0 (MQ below (qQc E Q) args s 0 0 (qA E)) (F0 m (pc + 3) ls (st.map (qTV E.2.1)))) :
    W p l e (qRm d) s m args below meth c H locs 0 0 (MQ below (qQc E Q) args s 0 0 (qA E)) (F0 m pc ls (st.map (qTV E.2.1))) := by
  obtain ⟨hx, hb, hml, hr, hlk, hown, hts, hKK, hStr, hbs⟩ := id C
  have hst : st.map (qTV E.2.1) = (((st.take np0).reverse).map (qTV E.2.1)).reverse ++ (st.drop np0).map (qTV E.2.1) := by
    rw [← List.map_reverse, List.reverse_reverse, ← List.map_append, List.take_append_drop]
  have hlen : ((st.take np0).reverse).length = np0 := by simp; omega
  have hW8 : 2 * (F0 m pc ls (st.map (qTV E.2.1))).monitorRoom + (((st.drop np0).map (qTV E.2.1)).map fun v => v.category).sum ≤ 8 := by
    rw [qcs_sum]
    show 2 * 0 + _ ≤ 8
    omega
  have hcb : ∀ {d' : Nat} (hdd : d' < d) (hg : qgood k0), CallB (qRm d) s args (qCN (qMT k).2.2.2.2.1) n0 (qMT k0).1 (qMT k0).2.1 (qMT k0).2.2.1 (qMT k0).2.2.2.1 (qAW (qMT k0)) (qRm d') 0 0 (qMT k0).2.2.2.2.2.2.1 ∧ (Cond.static (qMT k0).1).before args s = true := by
    intro d' hdd hg
    obtain ⟨hmk, hcw, -⟩ := id hg
    simp only [qmk, Bool.and_eq_true, decide_eq_true_eq] at hmk
    obtain ⟨⟨⟨⟨⟨⟨m2, m3⟩, m4⟩, m5⟩, m6⟩, m7⟩, m8⟩ := hmk
    rw [c3] at m8
    simp only [if_true] at m8
    refine ⟨⟨rfl, rfl, ?_, ?_, fun w hw a' U hW => word_at hW (qAL_good (qAW_in hg w hw)) (hts w (qAW_in hg w hw)), List.mem_cons_self, hts _ (qAW_in hg _ List.mem_cons_self), hts _ (qIs_in m2), m4, fun sig hs => ?_, hts _ (qIs_in c4)⟩, hts _ (qIs_in m8)⟩
    · show d' + 1 ≤ d
      omega
    · show 8 + (_ + 11) + 64 * d' ≤ 64 * d
      omega
    · rw [hs] at m7
      exact (Option.some.inj m7).symm
  split at h
  · obtain ⟨d1, P1, hd1, hM0, hmono⟩ := h
    refine va_calli (va_runS (As := ((st.take np0).reverse).map (qTV E.2.1)) (rest := (st.drop np0).map (qTV E.2.1)) ⟨hx, hb, hml, hown, hts⟩ (hM0.2 l E) (hcb hd1 hM0.1) ⟨qWU_blind, fun U hU hW => ⟨rfl, qWU_of hKK hStr hbs hP hD hS hU hW⟩⟩ rfl (by rw [List.length_map, hlen]; exact c5) hL.1 hst hW8 hd ⟨Nat.zero_le _, Nat.zero_le _⟩) hS (fun _ _ h9 => h9) (fun _ h9 => h9) (fun r σ1 t H1 locs1 ht hvm hp hB hz hk hS1 => ?_)
    obtain ⟨hP1, -, hD1, -, -⟩ := hB
    rw [ht] at hP1
    exact hK _ (.inl r :: st.drop np0) σ1 (hmono r σ1 hp) H1 locs1 ls hP1 hD1 hS1 hL
  · split at h
    · obtain ⟨d1, P1, hd1, hM0, hmono⟩ := h
      refine va_calll (va_runS (As := ((st.take np0).reverse).map (qTV E.2.1)) (rest := (st.drop np0).map (qTV E.2.1)) ⟨hx, hb, hml, hown, hts⟩ (hM0.2 l E) (hcb hd1 hM0.1) ⟨qWU_blind, fun U hU hW => ⟨rfl, qWU_of hKK hStr hbs hP hD hS hU hW⟩⟩ rfl (by rw [List.length_map, hlen]; exact c5) hL.1 hst hW8 hd ⟨Nat.zero_le _, Nat.zero_le _⟩) hS (fun _ _ h9 => h9) (fun _ h9 => h9) (fun r σ1 t H1 locs1 ht hvm hp hB hz hk hS1 => ?_)
      obtain ⟨hP1, -, hD1, -, -⟩ := hB
      rw [ht] at hP1
      exact hK _ (.inr (.inl r) :: st.drop np0) σ1 (hmono r σ1 hp) H1 locs1 ls hP1 hD1 hS1 hL
    · obtain ⟨d1, P1, hd1, hM0, hmono⟩ := h
      refine va_callv (va_runS (As := ((st.take np0).reverse).map (qTV E.2.1)) (rest := (st.drop np0).map (qTV E.2.1)) ⟨hx, hb, hml, hown, hts⟩ (hM0.2 l E) (hcb hd1 hM0.1) ⟨qWU_blind, fun U hU hW => ⟨rfl, qWU_of hKK hStr hbs hP hD hS hU hW⟩⟩ rfl (by rw [List.length_map, hlen]; exact c5) hL.1 hst hW8 hd ⟨Nat.zero_le _, Nat.zero_le _⟩) hS (fun _ _ h9 => h9) (fun _ h9 => h9) (fun σ1 t H1 locs1 ht hvm hp hB hz hk hS1 => ?_)
      obtain ⟨hP1, -, hD1, -, -⟩ := hB
      rw [ht] at hP1
      exact hK _ (st.drop np0) σ1 (hmono σ1 hp) H1 locs1 ls hP1 hD1 hS1 hL
theorem qcall_v {k d pc k0 n0 h0 np0 rk0 c0 : Nat} {Q : qQ} {K : qLo → List qPV → qSg → Prop} {lo : qLo} {st : List qPV} {σ : qSg} {p : Program} {l : Launch} {e : Env} {s : State} {m : MethodId} {args : Array Value} {below : List Frame} {meth : Method} {c : Code} {E : qE} (C : qCx k E p s m args meth c) {H : Heap} {locs : List Loc} {ls : Array Slot}
    (hP : va_P E.1 vwCl (qws E σ) H) (hD : va_D (qA E) (qws E σ)) (hS : va_S (qA E) s.heap H locs) (hL : qLR E lo ls (qMT k).2.2.1) (hd : decode (qMT k).2.1 pc = .ok (.invokevirtual n0, 3)) (c3 : (qMT k0).2.2.2.2.2.2.2.1 = false) (c4 : qIs h0 (.methodLink (qCN (qMT k).2.2.2.2.1) n0 (qMT k0).1) = true) (c5 : np0 = (qMT k0).2.2.2.2.2.2.1 + 1) (c6 : c0 = (qMT k0).2.2.2.2.1 + 1)
    (h1 : np0 ≤ st.length) (h2 : qcs (st.drop np0) ≤ 8) (h3 : qRcv c0 (st.take np0).reverse)
    (h : (if rk0 = 0 then qBI d k0 (st.take np0).reverse σ (fun r σ' => K lo (.inl r :: st.drop np0) σ') else if rk0 = 1 then qBL d k0 (st.take np0).reverse σ (fun r σ' => K lo (.inr (.inl r) :: st.drop np0) σ') else qBV d k0 (st.take np0).reverse σ (fun σ' => K lo (st.drop np0) σ')))
    (hK : ∀ lo st σ, K lo st σ → ∀ (H : Heap) (locs : List Loc) (ls : Array Slot), va_P E.1 vwCl (qws E σ) H → va_D (qA E) (qws E σ) → va_S (qA E) s.heap H locs → qLR E lo ls (qMT k).2.2.1 → W p l e (qRm d) s m args below meth c H locs 0 0 (MQ below (qQc E Q) args s 0 0 (qA E)) (F0 m (pc + 3) ls (st.map (qTV E.2.1)))) :
    W p l e (qRm d) s m args below meth c H locs 0 0 (MQ below (qQc E Q) args s 0 0 (qA E)) (F0 m pc ls (st.map (qTV E.2.1))) := by
  obtain ⟨hx, hb, hml, hr, hlk, hown, hts, hKK, hStr, hbs⟩ := id C
  have hst : st.map (qTV E.2.1) = (((st.take np0).reverse).map (qTV E.2.1)).reverse ++ (st.drop np0).map (qTV E.2.1) := by
    rw [← List.map_reverse, List.reverse_reverse, ← List.map_append, List.take_append_drop]
  have hlen : ((st.take np0).reverse).length = np0 := by simp; omega
  have hW8 : 2 * (F0 m pc ls (st.map (qTV E.2.1))).monitorRoom + (((st.drop np0).map (qTV E.2.1)).map fun v => v.category).sum ≤ 8 := by
    rw [qcs_sum]
    show 2 * 0 + _ ≤ 8
    omega
  have hcb : ∀ {d' : Nat} (hdd : d' < d) (hg : qgood k0), CallB (qRm d) s args (qCN (qMT k).2.2.2.2.1) n0 (qMT k0).1 (qMT k0).2.1 (qMT k0).2.2.1 (qMT k0).2.2.2.1 (qAW (qMT k0)) (qRm d') 0 0 (qMT k0).2.2.2.2.2.2.1 ∧ (Cond.instanceMethod (qMT k0).1).before args s = true ∧ (Cond.selects (qMT k0).1.cls (qMT k0).1 (qMT k0).1).before args s = true := by
    intro d' hdd hg
    obtain ⟨hmk, hcw, -⟩ := id hg
    simp only [qmk, Bool.and_eq_true, decide_eq_true_eq] at hmk
    obtain ⟨⟨⟨⟨⟨⟨m2, m3⟩, m4⟩, m5⟩, m6⟩, m7⟩, m8⟩ := hmk
    rw [c3] at m8
    simp only [Bool.false_eq_true, if_false, Bool.and_eq_true] at m8
    refine ⟨⟨rfl, rfl, ?_, ?_, fun w hw a' U hW => word_at hW (qAL_good (qAW_in hg w hw)) (hts w (qAW_in hg w hw)), List.mem_cons_self, hts _ (qAW_in hg _ List.mem_cons_self), hts _ (qIs_in m2), m4, fun sig hs => ?_, hts _ (qIs_in c4)⟩, hts _ (qIs_in m8.1), hts _ (qIs_in m8.2)⟩
    · show d' + 1 ≤ d
      omega
    · show 8 + (_ + 11) + 64 * d' ≤ 64 * d
      omega
    · rw [hs] at m7
      exact (Option.some.inj m7).symm
  obtain ⟨b, as, hbas⟩ : ∃ b as, (st.take np0).reverse = b :: as := by
    cases hh : (st.take np0).reverse with
    | nil => rw [hh] at hlen; simp at hlen; omega
    | cons b as => exact ⟨b, as, rfl⟩
  rw [hbas] at h3 h hst hlen
  have hn' : as.length = (qMT k0).2.2.2.2.2.2.1 := by simp at hlen; omega
  obtain ⟨b0, rfl⟩ : ∃ b0, b = .inr (.inr (some b0)) := by
    rcases b with x | x | _ | b0
    · exact absurd h3 (by simp only [qRcv]; omega)
    · exact absurd h3 (by simp only [qRcv]; omega)
    · exact absurd h3 (by simp only [qRcv]; omega)
    · exact ⟨b0, rfl⟩
  have hrecv : ∀ (_ : qgood k0), ∃ cellB : Cell, H[E.2.1 b0]? = some cellB ∧ cellB.vm.isStatics = false ∧ s.vm.findClass (qMT k0).1.cls = some cellB.cls := by
    intro hg
    obtain ⟨hmk, -, -⟩ := id hg
    simp only [qmk, Bool.and_eq_true, decide_eq_true_eq] at hmk
    obtain ⟨⟨⟨⟨⟨⟨-, m3⟩, -⟩, -⟩, -⟩, -⟩, -⟩ := hmk
    rw [m3]
    simp only [qRcv] at h3
    rw [if_neg (by omega)] at h3
    split at h3
    · rename_i h91
      subst h3
      have e90 : (qMT k0).2.2.2.2.1 = 90 := by omega
      rw [e90]
      obtain ⟨cell, g1, g2, g3, g4⟩ := (hStr.2.1.1 0 (by decide)).1
      exact ⟨cell, by rw [hS.2.1 _ (Array.getElem?_eq_some_iff.mp g1).1 g4]; exact g1, g2, g3⟩
    · have h10 : (qKd b0).1 = 10 + (qMT k0).2.2.2.2.1 := by omega
      have hlt := qKd_lt (a := b0) (Or.inl (by omega))
      have hc13 : (qMT k0).2.2.2.2.1 < 13 := by
        have := qobj_c b0 hlt
        omega
      exact va_recv hKK hP (qcl_at _ hc13) ((qws_at E σ hlt).trans (by rw [qent_obj E σ h10]))
  split at h
  · obtain ⟨d1, P1, hd1, hM0, hmono⟩ := h
    refine va_calli (va_runV (C := (qMT k0).1.cls) (b := E.2.1 b0) (As := as.map (qTV E.2.1)) (rest := (st.drop np0).map (qTV E.2.1)) ⟨hx, hb, hml, hown, hts⟩ (hM0.2 l E) ⟨(hcb hd1 hM0.1).1, (hcb hd1 hM0.1).2.1, (hcb hd1 hM0.1).2.2⟩ ⟨qWU_blind, hrecv hM0.1, fun U hU hW => ⟨rfl, qWU_of hKK hStr hbs hP hD hS hU hW⟩⟩ rfl (by rw [List.length_map]; exact hn') hL.1 (hst.trans (by simp [qTV])) hW8 hd ⟨Nat.zero_le _, Nat.zero_le _⟩) hS (fun _ _ h9 => h9) (fun _ h9 => h9) (fun r σ1 t H1 locs1 ht hvm hp hB hz hk hS1 => ?_)
    obtain ⟨hP1, -, hD1, -, -⟩ := hB
    rw [ht] at hP1
    exact hK _ (.inl r :: st.drop np0) σ1 (hmono r σ1 hp) H1 locs1 ls hP1 hD1 hS1 hL
  · split at h
    · obtain ⟨d1, P1, hd1, hM0, hmono⟩ := h
      refine va_calll (va_runV (C := (qMT k0).1.cls) (b := E.2.1 b0) (As := as.map (qTV E.2.1)) (rest := (st.drop np0).map (qTV E.2.1)) ⟨hx, hb, hml, hown, hts⟩ (hM0.2 l E) ⟨(hcb hd1 hM0.1).1, (hcb hd1 hM0.1).2.1, (hcb hd1 hM0.1).2.2⟩ ⟨qWU_blind, hrecv hM0.1, fun U hU hW => ⟨rfl, qWU_of hKK hStr hbs hP hD hS hU hW⟩⟩ rfl (by rw [List.length_map]; exact hn') hL.1 (hst.trans (by simp [qTV])) hW8 hd ⟨Nat.zero_le _, Nat.zero_le _⟩) hS (fun _ _ h9 => h9) (fun _ h9 => h9) (fun r σ1 t H1 locs1 ht hvm hp hB hz hk hS1 => ?_)
      obtain ⟨hP1, -, hD1, -, -⟩ := hB
      rw [ht] at hP1
      exact hK _ (.inr (.inl r) :: st.drop np0) σ1 (hmono r σ1 hp) H1 locs1 ls hP1 hD1 hS1 hL
    · obtain ⟨d1, P1, hd1, hM0, hmono⟩ := h
      refine va_callv (va_runV (C := (qMT k0).1.cls) (b := E.2.1 b0) (As := as.map (qTV E.2.1)) (rest := (st.drop np0).map (qTV E.2.1)) ⟨hx, hb, hml, hown, hts⟩ (hM0.2 l E) ⟨(hcb hd1 hM0.1).1, (hcb hd1 hM0.1).2.1, (hcb hd1 hM0.1).2.2⟩ ⟨qWU_blind, hrecv hM0.1, fun U hU hW => ⟨rfl, qWU_of hKK hStr hbs hP hD hS hU hW⟩⟩ rfl (by rw [List.length_map]; exact hn') hL.1 (hst.trans (by simp [qTV])) hW8 hd ⟨Nat.zero_le _, Nat.zero_le _⟩) hS (fun _ _ h9 => h9) (fun _ h9 => h9) (fun σ1 t H1 locs1 ht hvm hp hB hz hk hS1 => ?_)
      obtain ⟨hP1, -, hD1, -, -⟩ := hB
      rw [ht] at hP1
      exact hK _ (st.drop np0) σ1 (hmono σ1 hp) H1 locs1 ls hP1 hD1 hS1 hL
set_option maxRecDepth 20000 in
set_option maxHeartbeats 4000000 in
theorem qX_ok {k d : Nat} {Q : qQ} {J : Nat → qLo → List qPV → qSg → Prop} {pc n : Nat} {i : Instr} {dt : List Nat} {K : qLo → List qPV → qSg → Prop} {lo : qLo} {st : List qPV} {σ : qSg}
    (hd : decode (qMT k).2.1 pc = .ok (i, n)) (hn : qln i n = true) (hc : qdk (qMT k).2.2.2.2.1 (qMT k).2.2.1 (qMT k).2.2.2.1 pc i dt = true)
    (hJ : ∀ t lo st σ, J t lo st σ → qV k d Q t lo st σ) (hK : ∀ lo st σ, K lo st σ → qV k d Q (pc + n) lo st σ) (h : qX d J Q i dt K lo st σ) : qV k d Q pc lo st σ := by
  unfold qX at h
  split at h
  · exact absurd hn (by simp [qln])
  · rename_i st n0 v
    obtain rfl : n = 1 := of_decide_eq_true hn
    intro p l e s m args below meth c E C H locs ls hP hD hS hL
    obtain ⟨hx, hb, hml, hr, hlk, hown, hts, hKK, hStr, hbs⟩ := id C
    exact lv_iconst (v := nI v) hx hb hd (of_decide_eq_true hc) (hK _ _ _ h p l e s m args below meth c E C H locs ls hP hD hS hL)
  · rename_i n0 st
    obtain rfl : n = 1 := of_decide_eq_true hn
    intro p l e s m args below meth c E C H locs ls hP hD hS hL
    obtain ⟨hx, hb, hml, hr, hlk, hown, hts, hKK, hStr, hbs⟩ := id C
    exact lv_iconst hx hb hd rfl (hK _ _ _ h p l e s m args below meth c E C H locs ls hP hD hS hL)
  · rename_i st n0 v
    obtain rfl : n = 2 := of_decide_eq_true hn
    intro p l e s m args below meth c E C H locs ls hP hD hS hL
    obtain ⟨hx, hb, hml, hr, hlk, hown, hts, hKK, hStr, hbs⟩ := id C
    exact lv_bipush (v := nI v) hx hb hd (of_decide_eq_true hc) (hK _ _ _ h p l e s m args below meth c E C H locs ls hP hD hS hL)
  · rename_i n0 st
    obtain rfl : n = 2 := of_decide_eq_true hn
    intro p l e s m args below meth c E C H locs ls hP hD hS hL
    obtain ⟨hx, hb, hml, hr, hlk, hown, hts, hKK, hStr, hbs⟩ := id C
    exact lv_bipush hx hb hd (of_decide_eq_true hc) (hK _ _ _ h p l e s m args below meth c E C H locs ls hP hD hS hL)
  · rename_i st n0 v
    obtain rfl : n = 3 := of_decide_eq_true hn
    intro p l e s m args below meth c E C H locs ls hP hD hS hL
    obtain ⟨hx, hb, hml, hr, hlk, hown, hts, hKK, hStr, hbs⟩ := id C
    exact lv_sipush (v := nI v) hx hb hd (of_decide_eq_true hc) (hK _ _ _ h p l e s m args below meth c E C H locs ls hP hD hS hL)
  · rename_i n0 st
    obtain rfl : n = 3 := of_decide_eq_true hn
    intro p l e s m args below meth c E C H locs ls hP hD hS hL
    obtain ⟨hx, hb, hml, hr, hlk, hown, hts, hKK, hStr, hbs⟩ := id C
    exact lv_sipush hx hb hd (of_decide_eq_true hc) (hK _ _ _ h p l e s m args below meth c E C H locs ls hP hD hS hL)
  · rename_i st n0 h0 v
    obtain rfl : n = 2 := of_decide_eq_true hn
    intro p l e s m args below meth c E C H locs ls hP hD hS hL
    obtain ⟨hx, hb, hml, hr, hlk, hown, hts, hKK, hStr, hbs⟩ := id C
    exact lv_ldc hx hb hown (hts _ (qIs_in hc)) hd (hK _ _ _ h p l e s m args below meth c E C H locs ls hP hD hS hL)
  · rename_i st n0 h0 k0 z0
    obtain rfl : n = 2 := of_decide_eq_true hn
    have hc : (decide ((qMT k).2.2.2.2.1 = 12) && decide (n0 = qKEYi) && decide (k0 = 1000)) = true := hc
    simp only [Bool.and_eq_true, decide_eq_true_eq] at hc
    obtain ⟨⟨hc1, rfl⟩, rfl⟩ := hc
    intro p l e s m args below meth c E C H locs ls hP hD hS hL
    obtain ⟨hx, hb, hml, hr, hlk, hown, hts, hKK, hStr, hbs⟩ := id C
    rw [hc1] at hown
    exact va_ldcS (own := RX12) (tx := qKEYS) (q := E.2.1 1000) hx hb hown hStr.1 hd (hK _ _ _ h p l e s m args below meth c E C H locs ls hP hD hS hL)
  · rename_i st n0 h0 v
    obtain rfl : n = 3 := of_decide_eq_true hn
    intro p l e s m args below meth c E C H locs ls hP hD hS hL
    obtain ⟨hx, hb, hml, hr, hlk, hown, hts, hKK, hStr, hbs⟩ := id C
    exact lv_ldcw hx hb hown (hts _ (qIs_in hc)) hd (hK _ _ _ h p l e s m args below meth c E C H locs ls hP hD hS hL)
  · rename_i st n0 h0 v
    obtain rfl : n = 3 := of_decide_eq_true hn
    intro p l e s m args below meth c E C H locs ls hP hD hS hL
    obtain ⟨hx, hb, hml, hr, hlk, hown, hts, hKK, hStr, hbs⟩ := id C
    exact lv_ldc2 hx hb hown (hts _ (qIs_in hc)) hd (hK _ _ _ h p l e s m args below meth c E C H locs ls hP hD hS hL)
  · rename_i st n0 h0 v z0
    obtain rfl : n = 3 := of_decide_eq_true hn
    intro p l e s m args below meth c E C H locs ls hP hD hS hL
    obtain ⟨hx, hb, hml, hr, hlk, hown, hts, hKK, hStr, hbs⟩ := id C
    exact lv_ldc2 hx hb hown (hts _ (qIs_in hc)) hd (hK _ _ _ h p l e s m args below meth c E C H locs ls hP hD hS hL)
  · rename_i st n0
    obtain rfl : n = 1 := of_decide_eq_true hn
    intro p l e s m args below meth c E C H locs ls hP hD hS hL
    obtain ⟨hx, hb, hml, hr, hlk, hown, hts, hKK, hStr, hbs⟩ := id C
    exact lv_lconst hx hb hd (v := lN n0) rfl (hK _ _ _ h p l e s m args below meth c E C H locs ls hP hD hS hL)
  · rename_i n0 st
    obtain rfl : n = 1 := of_decide_eq_true hn
    obtain ⟨h1, h⟩ := h
    obtain ⟨x, hxx⟩ := qIsI_ex h1
    rw [hxx] at h
    intro p l e s m args below meth c E C H locs ls hP hD hS hL
    obtain ⟨hx, hb, hml, hr, hlk, hown, hts, hKK, hStr, hbs⟩ := id C
    exact lv_iload_n hx hb hd rfl (hL.2.2 _ _ (qlg_some lo _ hxx (by simp))) (hK _ _ _ h p l e s m args below meth c E C H locs ls hP hD hS hL)
  · rename_i n0 st
    obtain rfl : n = 2 := of_decide_eq_true hn
    obtain ⟨h1, h⟩ := h
    obtain ⟨x, hxx⟩ := qIsI_ex h1
    rw [hxx] at h
    intro p l e s m args below meth c E C H locs ls hP hD hS hL
    obtain ⟨hx, hb, hml, hr, hlk, hown, hts, hKK, hStr, hbs⟩ := id C
    exact lv_iload hx hb hd (hL.2.2 _ _ (qlg_some lo _ hxx (by simp))) (hK _ _ _ h p l e s m args below meth c E C H locs ls hP hD hS hL)
  · rename_i n0 st
    obtain rfl : n = 1 := of_decide_eq_true hn
    obtain ⟨h1, h⟩ := h
    obtain ⟨x, hxx⟩ := qIsL_ex h1
    rw [hxx] at h
    intro p l e s m args below meth c E C H locs ls hP hD hS hL
    obtain ⟨hx, hb, hml, hr, hlk, hown, hts, hKK, hStr, hbs⟩ := id C
    exact lv_lload_n hx hb hd rfl (hL.2.2 _ _ (qlg_some lo _ hxx (by simp))) (hK _ _ _ h p l e s m args below meth c E C H locs ls hP hD hS hL)
  · rename_i n0 st
    obtain rfl : n = 2 := of_decide_eq_true hn
    obtain ⟨h1, h⟩ := h
    obtain ⟨x, hxx⟩ := qIsL_ex h1
    rw [hxx] at h
    intro p l e s m args below meth c E C H locs ls hP hD hS hL
    obtain ⟨hx, hb, hml, hr, hlk, hown, hts, hKK, hStr, hbs⟩ := id C
    exact lv_lload hx hb hd (hL.2.2 _ _ (qlg_some lo _ hxx (by simp))) (hK _ _ _ h p l e s m args below meth c E C H locs ls hP hD hS hL)
  · rename_i n0 st
    obtain rfl : n = 1 := of_decide_eq_true hn
    obtain ⟨h1, h⟩ := h
    obtain ⟨x, hxx⟩ := qIsR_ex h1
    rw [hxx] at h
    intro p l e s m args below meth c E C H locs ls hP hD hS hL
    obtain ⟨hx, hb, hml, hr, hlk, hown, hts, hKK, hStr, hbs⟩ := id C
    exact lv_aload_n hx hb hd rfl (hL.2.2 _ _ (qlg_some lo _ hxx (by simp))) (hK _ _ _ h p l e s m args below meth c E C H locs ls hP hD hS hL)
  · rename_i n0 st
    obtain rfl : n = 2 := of_decide_eq_true hn
    obtain ⟨h1, h⟩ := h
    obtain ⟨x, hxx⟩ := qIsR_ex h1
    rw [hxx] at h
    intro p l e s m args below meth c E C H locs ls hP hD hS hL
    obtain ⟨hx, hb, hml, hr, hlk, hown, hts, hKK, hStr, hbs⟩ := id C
    exact lv_aload hx hb hd (hL.2.2 _ _ (qlg_some lo _ hxx (by simp))) (hK _ _ _ h p l e s m args below meth c E C H locs ls hP hD hS hL)
  · rename_i n0 x0 st
    obtain rfl : n = 1 := of_decide_eq_true hn
    intro p l e s m args below meth c E C H locs ls hP hD hS hL
    obtain ⟨hx, hb, hml, hr, hlk, hown, hts, hKK, hStr, hbs⟩ := id C
    exact lv_istore_n hx hb hd rfl (qLR_has hL) (of_decide_eq_true hc) rfl (fun ls1 hl => hK _ _ _ h p l e s m args below meth c E C H locs ls1 hP hD hS (qLR_st1 (v := .inl x0) rfl hl))
  · rename_i n0 x0 st
    obtain rfl : n = 2 := of_decide_eq_true hn
    intro p l e s m args below meth c E C H locs ls hP hD hS hL
    obtain ⟨hx, hb, hml, hr, hlk, hown, hts, hKK, hStr, hbs⟩ := id C
    exact lv_istore hx hb hd (qLR_has hL) (of_decide_eq_true hc) rfl (fun ls1 hl => hK _ _ _ h p l e s m args below meth c E C H locs ls1 hP hD hS (qLR_st1 (v := .inl x0) rfl hl))
  · rename_i n0 x0 st
    obtain rfl : n = 1 := of_decide_eq_true hn
    intro p l e s m args below meth c E C H locs ls hP hD hS hL
    obtain ⟨hx, hb, hml, hr, hlk, hown, hts, hKK, hStr, hbs⟩ := id C
    exact lv_lstore_n hx hb hd rfl (qLR_has hL) (of_decide_eq_true hc) rfl (fun ls1 hl => hK _ _ _ h p l e s m args below meth c E C H locs ls1 hP hD hS (qLR_st2 (v := .inr (.inl x0)) rfl hl))
  · rename_i n0 x0 st
    obtain rfl : n = 2 := of_decide_eq_true hn
    intro p l e s m args below meth c E C H locs ls hP hD hS hL
    obtain ⟨hx, hb, hml, hr, hlk, hown, hts, hKK, hStr, hbs⟩ := id C
    exact lv_lstore hx hb hd (qLR_has hL) (of_decide_eq_true hc) rfl (fun ls1 hl => hK _ _ _ h p l e s m args below meth c E C H locs ls1 hP hD hS (qLR_st2 (v := .inr (.inl x0)) rfl hl))
  · rename_i n0 x0 st
    obtain rfl : n = 1 := of_decide_eq_true hn
    intro p l e s m args below meth c E C H locs ls hP hD hS hL
    obtain ⟨hx, hb, hml, hr, hlk, hown, hts, hKK, hStr, hbs⟩ := id C
    exact lv_astore_n hx hb hd rfl (qLR_has hL) (of_decide_eq_true hc) rfl (fun ls1 hl => hK _ _ _ h p l e s m args below meth c E C H locs ls1 hP hD hS (qLR_st1 (v := .inr (.inr (some x0))) rfl hl))
  · rename_i n0 x0 st
    obtain rfl : n = 2 := of_decide_eq_true hn
    intro p l e s m args below meth c E C H locs ls hP hD hS hL
    obtain ⟨hx, hb, hml, hr, hlk, hown, hts, hKK, hStr, hbs⟩ := id C
    exact lv_astore hx hb hd (qLR_has hL) (of_decide_eq_true hc) rfl (fun ls1 hl => hK _ _ _ h p l e s m args below meth c E C H locs ls1 hP hD hS (qLR_st1 (v := .inr (.inr (some x0))) rfl hl))
  · rename_i st n0 c0 v0
    obtain rfl : n = 3 := of_decide_eq_true hn
    obtain ⟨h1, h⟩ := h
    obtain ⟨x, hxx⟩ := qIsI_ex h1
    rw [hxx] at h
    have hc : (decide (n0 < (qMT k).2.2.1) && decide (Int32.ofInt c0 = nI v0)) = true := hc
    simp only [Bool.and_eq_true, decide_eq_true_eq] at hc
    obtain ⟨hc1, hc2⟩ := hc
    intro p l e s m args below meth c E C H locs ls hP hD hS hL
    obtain ⟨hx, hb, hml, hr, hlk, hown, hts, hKK, hStr, hbs⟩ := id C
    obtain ⟨kk, hkk⟩ := List.getElem?_of_mem (qmkl_mem (E := E) (lo := lo) (q := (n0, .int x)) |>.mpr ⟨.inl x, qlg_some lo _ hxx (by simp), rfl⟩)
    exact lv_iinc (v := x + nI v0) hx hb hd (qLR_has hL) hkk (by rw [hc2]) hc1 rfl (fun ls1 hl => hK _ _ _ h p l e s m args below meth c E C H locs ls1 hP hD hS (qLR_st1 (v := .inl (x + nI v0)) rfl hl))
  · rename_i st n0 c0
    obtain rfl : n = 3 := of_decide_eq_true hn
    obtain ⟨h1, h⟩ := h
    obtain ⟨x, hxx⟩ := qIsI_ex h1
    rw [hxx] at h
    have hc1 : n0 < (qMT k).2.2.1 := of_decide_eq_true hc
    intro p l e s m args below meth c E C H locs ls hP hD hS hL
    obtain ⟨hx, hb, hml, hr, hlk, hown, hts, hKK, hStr, hbs⟩ := id C
    obtain ⟨kk, hkk⟩ := List.getElem?_of_mem (qmkl_mem (E := E) (lo := lo) (q := (n0, .int x)) |>.mpr ⟨.inl x, qlg_some lo _ hxx (by simp), rfl⟩)
    exact lv_iinc (v := x + Int32.ofInt c0) hx hb hd (qLR_has hL) hkk rfl hc1 rfl (fun ls1 hl => hK _ _ _ h p l e s m args below meth c E C H locs ls1 hP hD hS (qLR_st1 (v := .inl (x + Int32.ofInt c0)) rfl hl))
  · rename_i y0 x0 st
    obtain rfl : n = 1 := of_decide_eq_true hn
    intro p l e s m args below meth c E C H locs ls hP hD hS hL
    obtain ⟨hx, hb, hml, hr, hlk, hown, hts, hKK, hStr, hbs⟩ := id C
    exact lv_iadd hx hb hd (hK _ _ _ h p l e s m args below meth c E C H locs ls hP hD hS hL)
  · rename_i y0 x0 st
    obtain rfl : n = 1 := of_decide_eq_true hn
    intro p l e s m args below meth c E C H locs ls hP hD hS hL
    obtain ⟨hx, hb, hml, hr, hlk, hown, hts, hKK, hStr, hbs⟩ := id C
    exact lv_isub hx hb hd (hK _ _ _ h p l e s m args below meth c E C H locs ls hP hD hS hL)
  · rename_i y0 x0 st
    obtain rfl : n = 1 := of_decide_eq_true hn
    intro p l e s m args below meth c E C H locs ls hP hD hS hL
    obtain ⟨hx, hb, hml, hr, hlk, hown, hts, hKK, hStr, hbs⟩ := id C
    exact lv_imul hx hb hd (hK _ _ _ h p l e s m args below meth c E C H locs ls hP hD hS hL)
  · rename_i y0 x0 st
    obtain rfl : n = 1 := of_decide_eq_true hn
    intro p l e s m args below meth c E C H locs ls hP hD hS hL
    obtain ⟨hx, hb, hml, hr, hlk, hown, hts, hKK, hStr, hbs⟩ := id C
    exact lv_iand hx hb hd (hK _ _ _ h p l e s m args below meth c E C H locs ls hP hD hS hL)
  · rename_i y0 x0 st
    obtain rfl : n = 1 := of_decide_eq_true hn
    intro p l e s m args below meth c E C H locs ls hP hD hS hL
    obtain ⟨hx, hb, hml, hr, hlk, hown, hts, hKK, hStr, hbs⟩ := id C
    exact lv_ior hx hb hd (hK _ _ _ h p l e s m args below meth c E C H locs ls hP hD hS hL)
  · rename_i y0 x0 st
    obtain rfl : n = 1 := of_decide_eq_true hn
    intro p l e s m args below meth c E C H locs ls hP hD hS hL
    obtain ⟨hx, hb, hml, hr, hlk, hown, hts, hKK, hStr, hbs⟩ := id C
    exact lv_ixor hx hb hd (hK _ _ _ h p l e s m args below meth c E C H locs ls hP hD hS hL)
  · rename_i y0 x0 st
    obtain rfl : n = 1 := of_decide_eq_true hn
    intro p l e s m args below meth c E C H locs ls hP hD hS hL
    obtain ⟨hx, hb, hml, hr, hlk, hown, hts, hKK, hStr, hbs⟩ := id C
    exact lv_ishl hx hb hd (hK _ _ _ h p l e s m args below meth c E C H locs ls hP hD hS hL)
  · rename_i y0 x0 st
    obtain rfl : n = 1 := of_decide_eq_true hn
    intro p l e s m args below meth c E C H locs ls hP hD hS hL
    obtain ⟨hx, hb, hml, hr, hlk, hown, hts, hKK, hStr, hbs⟩ := id C
    exact lv_ishr hx hb hd (hK _ _ _ h p l e s m args below meth c E C H locs ls hP hD hS hL)
  · rename_i y0 x0 st
    obtain rfl : n = 1 := of_decide_eq_true hn
    intro p l e s m args below meth c E C H locs ls hP hD hS hL
    obtain ⟨hx, hb, hml, hr, hlk, hown, hts, hKK, hStr, hbs⟩ := id C
    exact lv_iushr hx hb hd rfl (hK _ _ _ h p l e s m args below meth c E C H locs ls hP hD hS hL)
  · rename_i y0 x0 st
    obtain rfl : n = 1 := of_decide_eq_true hn
    obtain ⟨h1, h⟩ := h
    intro p l e s m args below meth c E C H locs ls hP hD hS hL
    obtain ⟨hx, hb, hml, hr, hlk, hown, hts, hKK, hStr, hbs⟩ := id C
    exact lv_idiv hx hb hd h1 (hK _ _ _ h p l e s m args below meth c E C H locs ls hP hD hS hL)
  · rename_i y0 x0 st
    obtain rfl : n = 1 := of_decide_eq_true hn
    obtain ⟨h1, h⟩ := h
    intro p l e s m args below meth c E C H locs ls hP hD hS hL
    obtain ⟨hx, hb, hml, hr, hlk, hown, hts, hKK, hStr, hbs⟩ := id C
    exact lv_irem hx hb hd h1 (hK _ _ _ h p l e s m args below meth c E C H locs ls hP hD hS hL)
  · rename_i x0 st
    obtain rfl : n = 1 := of_decide_eq_true hn
    intro p l e s m args below meth c E C H locs ls hP hD hS hL
    obtain ⟨hx, hb, hml, hr, hlk, hown, hts, hKK, hStr, hbs⟩ := id C
    exact lv_ineg hx hb hd (hK _ _ _ h p l e s m args below meth c E C H locs ls hP hD hS hL)
  · rename_i y0 x0 st
    obtain rfl : n = 1 := of_decide_eq_true hn
    intro p l e s m args below meth c E C H locs ls hP hD hS hL
    obtain ⟨hx, hb, hml, hr, hlk, hown, hts, hKK, hStr, hbs⟩ := id C
    exact lv_ladd hx hb hd (hK _ _ _ h p l e s m args below meth c E C H locs ls hP hD hS hL)
  · rename_i y0 x0 st
    obtain rfl : n = 1 := of_decide_eq_true hn
    intro p l e s m args below meth c E C H locs ls hP hD hS hL
    obtain ⟨hx, hb, hml, hr, hlk, hown, hts, hKK, hStr, hbs⟩ := id C
    exact lv_lsub hx hb hd (hK _ _ _ h p l e s m args below meth c E C H locs ls hP hD hS hL)
  · rename_i y0 x0 st
    obtain rfl : n = 1 := of_decide_eq_true hn
    intro p l e s m args below meth c E C H locs ls hP hD hS hL
    obtain ⟨hx, hb, hml, hr, hlk, hown, hts, hKK, hStr, hbs⟩ := id C
    exact lv_lmul hx hb hd (hK _ _ _ h p l e s m args below meth c E C H locs ls hP hD hS hL)
  · rename_i y0 x0 st
    obtain rfl : n = 1 := of_decide_eq_true hn
    intro p l e s m args below meth c E C H locs ls hP hD hS hL
    obtain ⟨hx, hb, hml, hr, hlk, hown, hts, hKK, hStr, hbs⟩ := id C
    exact lv_land hx hb hd (hK _ _ _ h p l e s m args below meth c E C H locs ls hP hD hS hL)
  · rename_i y0 x0 st
    obtain rfl : n = 1 := of_decide_eq_true hn
    intro p l e s m args below meth c E C H locs ls hP hD hS hL
    obtain ⟨hx, hb, hml, hr, hlk, hown, hts, hKK, hStr, hbs⟩ := id C
    exact lv_lor hx hb hd (hK _ _ _ h p l e s m args below meth c E C H locs ls hP hD hS hL)
  · rename_i y0 x0 st
    obtain rfl : n = 1 := of_decide_eq_true hn
    obtain ⟨h1, h⟩ := h
    intro p l e s m args below meth c E C H locs ls hP hD hS hL
    obtain ⟨hx, hb, hml, hr, hlk, hown, hts, hKK, hStr, hbs⟩ := id C
    exact lv_ldiv hx hb hd h1 (hK _ _ _ h p l e s m args below meth c E C H locs ls hP hD hS hL)
  · rename_i y0 x0 st
    obtain rfl : n = 1 := of_decide_eq_true hn
    obtain ⟨h1, h⟩ := h
    intro p l e s m args below meth c E C H locs ls hP hD hS hL
    obtain ⟨hx, hb, hml, hr, hlk, hown, hts, hKK, hStr, hbs⟩ := id C
    exact lv_lrem hx hb hd h1 (hK _ _ _ h p l e s m args below meth c E C H locs ls hP hD hS hL)
  · rename_i y0 x0 st
    obtain rfl : n = 1 := of_decide_eq_true hn
    intro p l e s m args below meth c E C H locs ls hP hD hS hL
    obtain ⟨hx, hb, hml, hr, hlk, hown, hts, hKK, hStr, hbs⟩ := id C
    exact lv_lshl hx hb hd rfl (hK _ _ _ h p l e s m args below meth c E C H locs ls hP hD hS hL)
  · rename_i y0 x0 st
    obtain rfl : n = 1 := of_decide_eq_true hn
    intro p l e s m args below meth c E C H locs ls hP hD hS hL
    obtain ⟨hx, hb, hml, hr, hlk, hown, hts, hKK, hStr, hbs⟩ := id C
    exact W.lcmp hx hb hd (hK _ _ _ h p l e s m args below meth c E C H locs ls hP hD hS hL)
  · rename_i x0 st
    obtain rfl : n = 1 := of_decide_eq_true hn
    intro p l e s m args below meth c E C H locs ls hP hD hS hL
    obtain ⟨hx, hb, hml, hr, hlk, hown, hts, hKK, hStr, hbs⟩ := id C
    exact lv_i2l hx hb hd rfl (hK _ _ _ h p l e s m args below meth c E C H locs ls hP hD hS hL)
  · rename_i x0 st
    obtain rfl : n = 1 := of_decide_eq_true hn
    intro p l e s m args below meth c E C H locs ls hP hD hS hL
    obtain ⟨hx, hb, hml, hr, hlk, hown, hts, hKK, hStr, hbs⟩ := id C
    exact lv_l2i hx hb hd rfl (hK _ _ _ h p l e s m args below meth c E C H locs ls hP hD hS hL)
  · rename_i x0 st
    obtain rfl : n = 1 := of_decide_eq_true hn
    intro p l e s m args below meth c E C H locs ls hP hD hS hL
    obtain ⟨hx, hb, hml, hr, hlk, hown, hts, hKK, hStr, hbs⟩ := id C
    exact lv_i2b hx hb hd rfl (hK _ _ _ h p l e s m args below meth c E C H locs ls hP hD hS hL)
  · rename_i x0 st
    obtain rfl : n = 1 := of_decide_eq_true hn
    intro p l e s m args below meth c E C H locs ls hP hD hS hL
    obtain ⟨hx, hb, hml, hr, hlk, hown, hts, hKK, hStr, hbs⟩ := id C
    exact lv_i2s hx hb hd rfl (hK _ _ _ h p l e s m args below meth c E C H locs ls hP hD hS hL)
  · rename_i v0 st
    obtain rfl : n = 1 := of_decide_eq_true hn
    obtain ⟨h1, h⟩ := h
    intro p l e s m args below meth c E C H locs ls hP hD hS hL
    obtain ⟨hx, hb, hml, hr, hlk, hown, hts, hKK, hStr, hbs⟩ := id C
    exact lv_dup hx hb hd (by rw [qTV_cat, h1]; rfl) (hK _ _ _ h p l e s m args below meth c E C H locs ls hP hD hS hL)
  · rename_i v0 st
    obtain rfl : n = 1 := of_decide_eq_true hn
    obtain ⟨h1, h⟩ := h
    intro p l e s m args below meth c E C H locs ls hP hD hS hL
    obtain ⟨hx, hb, hml, hr, hlk, hown, hts, hKK, hStr, hbs⟩ := id C
    exact lv_pop hx hb hd (by rw [qTV_cat, h1]; rfl) (hK _ _ _ h p l e s m args below meth c E C H locs ls hP hD hS hL)
  · rename_i v0 u0 st
    obtain rfl : n = 1 := of_decide_eq_true hn
    obtain ⟨h1, h2, h⟩ := h
    intro p l e s m args below meth c E C H locs ls hP hD hS hL
    obtain ⟨hx, hb, hml, hr, hlk, hown, hts, hKK, hStr, hbs⟩ := id C
    exact lv_dup2_11 hx hb hd (by rw [qTV_cat, h1]; rfl) (by rw [qTV_cat, h2]; rfl) (hK _ _ _ h p l e s m args below meth c E C H locs ls hP hD hS hL)
  · rename_i st
    obtain rfl : n = 1 := of_decide_eq_true hn
    intro p l e s m args below meth c E C H locs ls hP hD hS hL
    obtain ⟨hx, hb, hml, hr, hlk, hown, hts, hKK, hStr, hbs⟩ := id C
    exact lv_null hx hb hd (hK _ _ _ h p l e s m args below meth c E C H locs ls hP hD hS hL)
  · rename_i o0 t0 x0 st
    obtain rfl : n = 3 := of_decide_eq_true hn
    intro p l e s m args below meth c E C H locs ls hP hD hS hL
    obtain ⟨hx, hb, hml, hr, hlk, hown, hts, hKK, hStr, hbs⟩ := id C
    exact lv_if_eq hx hb hd (of_decide_eq_true hc) (fun c1 => hJ _ _ _ _ (h.1 c1) p l e s m args below meth c E C H locs ls hP hD hS hL) (fun c1 => hK _ _ _ (h.2 c1) p l e s m args below meth c E C H locs ls hP hD hS hL)
  · rename_i o0 t0 y0 x0 st
    obtain rfl : n = 3 := of_decide_eq_true hn
    intro p l e s m args below meth c E C H locs ls hP hD hS hL
    obtain ⟨hx, hb, hml, hr, hlk, hown, hts, hKK, hStr, hbs⟩ := id C
    exact lv_icmp_eq hx hb hd (of_decide_eq_true hc) (fun c1 => hJ _ _ _ _ (h.1 c1) p l e s m args below meth c E C H locs ls hP hD hS hL) (fun c1 => hK _ _ _ (h.2 c1) p l e s m args below meth c E C H locs ls hP hD hS hL)
  · rename_i o0 t0 x0 st
    obtain rfl : n = 3 := of_decide_eq_true hn
    intro p l e s m args below meth c E C H locs ls hP hD hS hL
    obtain ⟨hx, hb, hml, hr, hlk, hown, hts, hKK, hStr, hbs⟩ := id C
    exact lv_if_ne hx hb hd (of_decide_eq_true hc) (fun c1 => hJ _ _ _ _ (h.1 c1) p l e s m args below meth c E C H locs ls hP hD hS hL) (fun c1 => hK _ _ _ (h.2 c1) p l e s m args below meth c E C H locs ls hP hD hS hL)
  · rename_i o0 t0 y0 x0 st
    obtain rfl : n = 3 := of_decide_eq_true hn
    intro p l e s m args below meth c E C H locs ls hP hD hS hL
    obtain ⟨hx, hb, hml, hr, hlk, hown, hts, hKK, hStr, hbs⟩ := id C
    exact lv_icmp_ne hx hb hd (of_decide_eq_true hc) (fun c1 => hJ _ _ _ _ (h.1 c1) p l e s m args below meth c E C H locs ls hP hD hS hL) (fun c1 => hK _ _ _ (h.2 c1) p l e s m args below meth c E C H locs ls hP hD hS hL)
  · rename_i o0 t0 x0 st
    obtain rfl : n = 3 := of_decide_eq_true hn
    intro p l e s m args below meth c E C H locs ls hP hD hS hL
    obtain ⟨hx, hb, hml, hr, hlk, hown, hts, hKK, hStr, hbs⟩ := id C
    exact lv_if_lt hx hb hd (of_decide_eq_true hc) (fun c1 => hJ _ _ _ _ (h.1 c1) p l e s m args below meth c E C H locs ls hP hD hS hL) (fun c1 => hK _ _ _ (h.2 c1) p l e s m args below meth c E C H locs ls hP hD hS hL)
  · rename_i o0 t0 y0 x0 st
    obtain rfl : n = 3 := of_decide_eq_true hn
    intro p l e s m args below meth c E C H locs ls hP hD hS hL
    obtain ⟨hx, hb, hml, hr, hlk, hown, hts, hKK, hStr, hbs⟩ := id C
    exact lv_icmp_lt hx hb hd (of_decide_eq_true hc) (fun c1 => hJ _ _ _ _ (h.1 c1) p l e s m args below meth c E C H locs ls hP hD hS hL) (fun c1 => hK _ _ _ (h.2 c1) p l e s m args below meth c E C H locs ls hP hD hS hL)
  · rename_i o0 t0 x0 st
    obtain rfl : n = 3 := of_decide_eq_true hn
    intro p l e s m args below meth c E C H locs ls hP hD hS hL
    obtain ⟨hx, hb, hml, hr, hlk, hown, hts, hKK, hStr, hbs⟩ := id C
    exact lv_if_ge hx hb hd (of_decide_eq_true hc) (fun c1 => hJ _ _ _ _ (h.1 c1) p l e s m args below meth c E C H locs ls hP hD hS hL) (fun c1 => hK _ _ _ (h.2 c1) p l e s m args below meth c E C H locs ls hP hD hS hL)
  · rename_i o0 t0 y0 x0 st
    obtain rfl : n = 3 := of_decide_eq_true hn
    intro p l e s m args below meth c E C H locs ls hP hD hS hL
    obtain ⟨hx, hb, hml, hr, hlk, hown, hts, hKK, hStr, hbs⟩ := id C
    exact lv_icmp_ge hx hb hd (of_decide_eq_true hc) (fun c1 => hJ _ _ _ _ (h.1 c1) p l e s m args below meth c E C H locs ls hP hD hS hL) (fun c1 => hK _ _ _ (h.2 c1) p l e s m args below meth c E C H locs ls hP hD hS hL)
  · rename_i o0 t0 x0 st
    obtain rfl : n = 3 := of_decide_eq_true hn
    intro p l e s m args below meth c E C H locs ls hP hD hS hL
    obtain ⟨hx, hb, hml, hr, hlk, hown, hts, hKK, hStr, hbs⟩ := id C
    exact lv_if_gt hx hb hd (of_decide_eq_true hc) (fun c1 => hJ _ _ _ _ (h.1 c1) p l e s m args below meth c E C H locs ls hP hD hS hL) (fun c1 => hK _ _ _ (h.2 c1) p l e s m args below meth c E C H locs ls hP hD hS hL)
  · rename_i o0 t0 y0 x0 st
    obtain rfl : n = 3 := of_decide_eq_true hn
    intro p l e s m args below meth c E C H locs ls hP hD hS hL
    obtain ⟨hx, hb, hml, hr, hlk, hown, hts, hKK, hStr, hbs⟩ := id C
    exact lv_icmp_gt hx hb hd (of_decide_eq_true hc) (fun c1 => hJ _ _ _ _ (h.1 c1) p l e s m args below meth c E C H locs ls hP hD hS hL) (fun c1 => hK _ _ _ (h.2 c1) p l e s m args below meth c E C H locs ls hP hD hS hL)
  · rename_i o0 t0 x0 st
    obtain rfl : n = 3 := of_decide_eq_true hn
    intro p l e s m args below meth c E C H locs ls hP hD hS hL
    obtain ⟨hx, hb, hml, hr, hlk, hown, hts, hKK, hStr, hbs⟩ := id C
    exact lv_if_le hx hb hd (of_decide_eq_true hc) (fun c1 => hJ _ _ _ _ (h.1 c1) p l e s m args below meth c E C H locs ls hP hD hS hL) (fun c1 => hK _ _ _ (h.2 c1) p l e s m args below meth c E C H locs ls hP hD hS hL)
  · rename_i o0 t0 y0 x0 st
    obtain rfl : n = 3 := of_decide_eq_true hn
    intro p l e s m args below meth c E C H locs ls hP hD hS hL
    obtain ⟨hx, hb, hml, hr, hlk, hown, hts, hKK, hStr, hbs⟩ := id C
    exact lv_icmp_le hx hb hd (of_decide_eq_true hc) (fun c1 => hJ _ _ _ _ (h.1 c1) p l e s m args below meth c E C H locs ls hP hD hS hL) (fun c1 => hK _ _ _ (h.2 c1) p l e s m args below meth c E C H locs ls hP hD hS hL)
  · rename_i o0 t0 st
    obtain rfl : n = 3 := of_decide_eq_true hn
    intro p l e s m args below meth c E C H locs ls hP hD hS hL
    obtain ⟨hx, hb, hml, hr, hlk, hown, hts, hKK, hStr, hbs⟩ := id C
    exact lv_goto hx hb hd (of_decide_eq_true hc) (hJ _ _ _ _ h p l e s m args below meth c E C H locs ls hP hD hS hL)
  · rename_i o0 t0 x0 st
    obtain rfl : n = 3 := of_decide_eq_true hn
    intro p l e s m args below meth c E C H locs ls hP hD hS hL
    obtain ⟨hx, hb, hml, hr, hlk, hown, hts, hKK, hStr, hbs⟩ := id C
    exact lv_ifnull hx hb hd (hK _ _ _ h p l e s m args below meth c E C H locs ls hP hD hS hL)
  · rename_i o0 t0 x0 st
    obtain rfl : n = 3 := of_decide_eq_true hn
    intro p l e s m args below meth c E C H locs ls hP hD hS hL
    obtain ⟨hx, hb, hml, hr, hlk, hown, hts, hKK, hStr, hbs⟩ := id C
    exact lv_ifnonnull hx hb hd (of_decide_eq_true hc) (hJ _ _ _ _ h p l e s m args below meth c E C H locs ls hP hD hS hL)
  · rename_i e0 a0 b0 os t0 ts x0 st
    have hc : (qjmp pc e0 t0 && decide (os.toList.map (fun o => (pc : Int) + o) = ts.map (fun t : Nat => (t : Int))) && decide (b0 = a0 + (os.toList.length : Int) - 1)) = true := hc
    simp only [qjmp, Bool.and_eq_true, decide_eq_true_eq] at hc
    obtain ⟨⟨hc1, hc2⟩, hc3⟩ := hc
    intro p l e s m args below meth c E C H locs ls hP hD hS hL
    obtain ⟨hx, hb, hml, hr, hlk, hown, hts, hKK, hStr, hbs⟩ := id C
    by_cases hout : x0.toInt < a0 ∨ b0 < x0.toInt
    · exact lv_tableOut hx hb hd hout hc1 (hJ _ _ _ _ (h.1 hout) p l e s m args below meth c E C H locs ls hP hD hS hL)
    · have g1 : ¬ x0.toInt < a0 := fun q => hout (Or.inl q)
      have g2 : ¬ b0 < x0.toInt := fun q => hout (Or.inr q)
      have hj : (x0.toInt - a0).toNat < os.toList.length := by omega
      have e1 : os.toList[(x0.toInt - a0).toNat]? = some os.toList[(x0.toInt - a0).toNat] := List.getElem?_eq_getElem hj
      have e2 : (os.toList.map (fun o => (pc : Int) + o))[(x0.toInt - a0).toNat]? = some ((pc : Int) + os.toList[(x0.toInt - a0).toNat]) := by rw [List.getElem?_map, e1]; rfl
      rw [hc2, List.getElem?_map] at e2
      obtain ⟨t1, e3, e4⟩ := Option.map_eq_some_iff.mp e2
      exact lv_tableIn hx hb hd g1 g2 (by rw [← Array.getElem?_toList]; exact e1) e4.symm (hJ _ _ _ _ (qsl_at ts a0 _ t1 h.2 e3 (by omega)) p l e s m args below meth c E C H locs ls hP hD hS hL)
  · rename_i n0 c0 k0 h0 f0 a0 st
    obtain rfl : n = 3 := of_decide_eq_true hn
    have hc : (decide (c0 < 13) && decide (k0 < qnf c0) && decide (f0 = qft c0 k0) && decide (f0 ≠ 9) && qIs h0 (.fieldLink (qCN (qMT k).2.2.2.2.1) n0 (qCN c0) (qTF c0 k0).2.1 (qTF c0 k0).2.2.1) && decide ((qTF c0 k0).1 = qCN c0)) = true := hc
    simp only [Bool.and_eq_true, decide_eq_true_eq] at hc
    obtain ⟨⟨⟨⟨⟨c1, c2⟩, rfl⟩, -⟩, c5⟩, c6⟩ := hc
    obtain ⟨h1, h⟩ := h
    intro p l e s m args below meth c E C H locs ls hP hD hS hL
    obtain ⟨hx, hb, hml, hr, hlk, hown, hts, hKK, hStr, hbs⟩ := id C
    exact va_get (D := E.1) (ci := c0) (C := qCN c0) (T := qTF c0) (N := qnf c0) (ref := qCN c0) (v := qfv E σ c0 a0 k0) hx hb hts (qws_in c0 c1) hown hKK hP a0 ((qws_at E σ (qKd_lt (Or.inl (by omega)))).trans (by rw [qent_obj E σ h1])) (qcl_at c0 c1) k0 c2 (hts _ (qIs_in c5)) (fun x hx => by rw [c6] at hx; exact hx) (by simp [c2]) hd (hK _ _ _ h p l e s m args below meth c E C H locs ls hP hD hS hL)
  · rename_i n0 c0 k0 h0 f0 x0 a0 st
    obtain rfl : n = 3 := of_decide_eq_true hn
    have hc : (decide (c0 < 13) && decide (k0 < qnf c0) && decide (f0 = qft c0 k0) && decide (f0 ≠ 9) && qIs h0 (.fieldLink (qCN (qMT k).2.2.2.2.1) n0 (qCN c0) (qTF c0 k0).2.1 (qTF c0 k0).2.2.1) && decide ((qTF c0 k0).1 = qCN c0) && (decide (f0 = 2) || decide ((qTF c0 k0).2.2.2 = false))) = true := hc
    simp only [Bool.and_eq_true, Bool.or_eq_true, decide_eq_true_eq] at hc
    obtain ⟨⟨⟨⟨⟨⟨c1, c2⟩, rfl⟩, -⟩, c5⟩, c6⟩, c7⟩ := hc
    obtain ⟨h0f, h1, h⟩ := h
    have c8 : (qTF c0 k0).2.2.2 = false := c7.resolve_left (by omega)
    have c9 : narrow (qTy c0 k0) (.int x0) = .int x0 ∧ fits (qTy c0 k0) (.int x0) = true := by
      rcases h0f with hf | ⟨hf, rfl | rfl⟩
      · rw [qft_int hf]; exact ⟨rfl, rfl⟩
      · rw [qft_bool hf]; exact ⟨rfl, rfl⟩
      · rw [qft_bool hf]; exact ⟨rfl, rfl⟩
    have hf : qft c0 k0 = 0 ∨ qft c0 k0 = 3 := h0f.imp id And.left
    intro p l e s m args below meth c E C H locs ls hP hD hS hL
    obtain ⟨hx, hb, hml, hr, hlk, hown, hts, hKK, hStr, hbs⟩ := id C
    refine va_put (D := E.1) (ci := c0) (v := .int x0) (ty := qTy c0 k0) (C := qCN c0) (T := qTF c0) (N := qnf c0) (ref := qCN c0) hx hb hts (qws_in c0 c1) (qTy c0) (qty_ok c0 c1) (qnm_ok c0 c1) hown hKK hP hD hS a0 ((qws_at E σ (qKd_lt (Or.inl (by omega)))).trans (by rw [qent_obj E σ h1])) (qcl_at c0 c1) k0 c2 (hts _ (qIs_in c5)) (fun x hx => by rw [c6] at hx; exact hx) c8 (qty_ok c0 c1 k0 c2) c9.1 c9.2 (by simpa using c2) hd (fun H1 locs1 hP1 hD1 hS1 => ?_)
    rw [qent_wiO E σ h1 hf, qws_set E (qent_wi E σ)] at hP1 hD1
    exact hK _ _ _ h p l e s m args below meth c E C H1 locs1 ls hP1 hD1 hS1 hL
  · rename_i n0 c0 k0 h0 f0 x0 a0 st
    obtain rfl : n = 3 := of_decide_eq_true hn
    have hc : (decide (c0 < 13) && decide (k0 < qnf c0) && decide (f0 = qft c0 k0) && decide (f0 ≠ 9) && qIs h0 (.fieldLink (qCN (qMT k).2.2.2.2.1) n0 (qCN c0) (qTF c0 k0).2.1 (qTF c0 k0).2.2.1) && decide ((qTF c0 k0).1 = qCN c0) && (decide (f0 = 2) || decide ((qTF c0 k0).2.2.2 = false))) = true := hc
    simp only [Bool.and_eq_true, Bool.or_eq_true, decide_eq_true_eq] at hc
    obtain ⟨⟨⟨⟨⟨⟨c1, c2⟩, rfl⟩, -⟩, c5⟩, c6⟩, c7⟩ := hc
    obtain ⟨h0f, h1, h⟩ := h
    have c8 : (qTF c0 k0).2.2.2 = false := c7.resolve_left (by omega)
    have c9 : narrow (qTy c0 k0) (.long x0) = .long x0 ∧ fits (qTy c0 k0) (.long x0) = true := by
      rw [qft_long h0f]; exact ⟨rfl, rfl⟩
    have hf := h0f
    intro p l e s m args below meth c E C H locs ls hP hD hS hL
    obtain ⟨hx, hb, hml, hr, hlk, hown, hts, hKK, hStr, hbs⟩ := id C
    refine va_put (D := E.1) (ci := c0) (v := .long x0) (ty := qTy c0 k0) (C := qCN c0) (T := qTF c0) (N := qnf c0) (ref := qCN c0) hx hb hts (qws_in c0 c1) (qTy c0) (qty_ok c0 c1) (qnm_ok c0 c1) hown hKK hP hD hS a0 ((qws_at E σ (qKd_lt (Or.inl (by omega)))).trans (by rw [qent_obj E σ h1])) (qcl_at c0 c1) k0 c2 (hts _ (qIs_in c5)) (fun x hx => by rw [c6] at hx; exact hx) c8 (qty_ok c0 c1 k0 c2) c9.1 c9.2 (by simpa using c2) hd (fun H1 locs1 hP1 hD1 hS1 => ?_)
    rw [qent_wlO E σ h1 hf, qws_set E (qent_wl E σ)] at hP1 hD1
    exact hK _ _ _ h p l e s m args below meth c E C H1 locs1 ls hP1 hD1 hS1 hL
  · rename_i i0 a0 st
    obtain rfl : n = 1 := of_decide_eq_true hn
    obtain ⟨h1, h2, h⟩ := h
    intro p l e s m args below meth c E C H locs ls hP hD hS hL
    obtain ⟨hx, hb, hml, hr, hlk, hown, hts, hKK, hStr, hbs⟩ := id C
    exact va_iald (D := E.1) hx hb hKK hP a0 0 ((qws_at E σ (qKd_lt (Or.inr (by have := h2.2; omega)))).trans (by rw [qent_i E σ h1 (by omega)])) rfl (qin_vp h2) hd (hK _ _ _ h p l e s m args below meth c E C H locs ls hP hD hS hL)
  · rename_i i0 a0 st
    obtain rfl : n = 1 := of_decide_eq_true hn
    obtain ⟨h1, h2, h⟩ := h
    intro p l e s m args below meth c E C H locs ls hP hD hS hL
    obtain ⟨hx, hb, hml, hr, hlk, hown, hts, hKK, hStr, hbs⟩ := id C
    exact va_lald (D := E.1) hx hb hKK hP a0 1 ((qws_at E σ (qKd_lt (Or.inr (by have := h2.2; omega)))).trans (by rw [qent_l E σ h1])) rfl (qin_vp h2) hd (hK _ _ _ h p l e s m args below meth c E C H locs ls hP hD hS hL)
  · rename_i i0 a0 st
    obtain rfl : n = 1 := of_decide_eq_true hn
    obtain ⟨h1, h2, h⟩ := h
    intro p l e s m args below meth c E C H locs ls hP hD hS hL
    obtain ⟨hx, hb, hml, hr, hlk, hown, hts, hKK, hStr, hbs⟩ := id C
    rcases h1 with h1 | h1
    · exact va_bald (D := E.1) hx hb hKK hP a0 2 ((qws_at E σ (qKd_lt (Or.inl (by omega)))).trans (by rw [qent_i E σ h1 (by omega)])) rfl (qin_vp h2) hd (hK _ _ _ h p l e s m args below meth c E C H locs ls hP hD hS hL)
    · exact va_zald (D := E.1) hx hb hKK hP a0 3 ((qws_at E σ (qKd_lt (Or.inl (by omega)))).trans (by rw [qent_i E σ h1 (by omega)])) rfl (qin_vp h2) hd (hK _ _ _ h p l e s m args below meth c E C H locs ls hP hD hS hL)
  · rename_i i0 a0 st
    obtain rfl : n = 1 := of_decide_eq_true hn
    obtain ⟨h1, h2, h⟩ := h
    intro p l e s m args below meth c E C H locs ls hP hD hS hL
    obtain ⟨hx, hb, hml, hr, hlk, hown, hts, hKK, hStr, hbs⟩ := id C
    have ev : va_rf ((qRf a0 i0.toNatClampNeg).map E.2.1) = qTV E.2.1 (.inr (.inr (qRf a0 i0.toNatClampNeg))) := by cases qRf a0 i0.toNatClampNeg <;> rfl
    rcases h1 with h1 | h1
    · refine va_aldq (D := E.1) hx hb hKK hP a0 4 ((qws_at E σ (qKd_lt (Or.inl (by omega)))).trans (by rw [qent_r E σ h1 (by omega)])) rfl (qin_vp h2) hd ?_
      rw [ev]
      exact hK _ _ _ h p l e s m args below meth c E C H locs ls hP hD hS hL
    · refine va_aldq (D := E.1) hx hb hKK hP a0 5 ((qws_at E σ (qKd_lt (Or.inl (by omega)))).trans (by rw [qent_r E σ h1 (by omega)])) rfl (qin_vp h2) hd ?_
      rw [ev]
      exact hK _ _ _ h p l e s m args below meth c E C H locs ls hP hD hS hL
  · rename_i x0 i0 a0 st
    obtain rfl : n = 1 := of_decide_eq_true hn
    obtain ⟨h1, h2, h⟩ := h
    intro p l e s m args below meth c E C H locs ls hP hD hS hL
    obtain ⟨hx, hb, hml, hr, hlk, hown, hts, hKK, hStr, hbs⟩ := id C
    refine va_iast (D := E.1) hx hb hKK hP hD hS a0 0 ((qws_at E σ (qKd_lt (Or.inr (by have := h2.2; omega)))).trans (by rw [qent_i E σ h1 (by omega)])) rfl (qin_vp h2) hd (fun H1 locs1 hP1 hD1 hS1 => ?_)
    have ee : (Sum.inl (E.2.2.1 0, (qKd a0).2, .inl (upd (σ.1 a0) i0.toNatClampNeg x0)) : va_E) = qent E (qwi σ a0 i0.toNatClampNeg x0) a0 := by
      rw [qent_i E _ h1 (by omega)]
      have : (qwi σ a0 i0.toNatClampNeg x0).1 a0 = upd (σ.1 a0) i0.toNatClampNeg x0 := by funext j; simp [qwi, upd]
      rw [this]
    rw [ee, qws_set E (qent_wi E σ)] at hP1 hD1
    exact hK _ _ _ h p l e s m args below meth c E C H1 locs1 ls hP1 hD1 hS1 hL
  · rename_i x0 i0 a0 st
    obtain rfl : n = 1 := of_decide_eq_true hn
    obtain ⟨h1, h2, h⟩ := h
    intro p l e s m args below meth c E C H locs ls hP hD hS hL
    obtain ⟨hx, hb, hml, hr, hlk, hown, hts, hKK, hStr, hbs⟩ := id C
    refine va_last (D := E.1) hx hb hKK hP hD hS a0 1 ((qws_at E σ (qKd_lt (Or.inr (by have := h2.2; omega)))).trans (by rw [qent_l E σ h1])) rfl (qin_vp h2) hd (fun H1 locs1 hP1 hD1 hS1 => ?_)
    have ee : (Sum.inl (E.2.2.1 1, (qKd a0).2, .inr (.inl (vp_updL (σ.2 a0) i0.toNatClampNeg x0))) : va_E) = qent E (qwl σ a0 i0.toNatClampNeg x0) a0 := by
      rw [qent_l E _ h1]
      have : (qwl σ a0 i0.toNatClampNeg x0).2 a0 = vp_updL (σ.2 a0) i0.toNatClampNeg x0 := by funext j; simp [qwl, vp_updL]
      rw [this]
    rw [ee, qws_set E (qent_wl E σ)] at hP1 hD1
    exact hK _ _ _ h p l e s m args below meth c E C H1 locs1 ls hP1 hD1 hS1 hL
  · rename_i x0 i0 a0 st
    obtain rfl : n = 1 := of_decide_eq_true hn
    intro p l e s m args below meth c E C H locs ls hP hD hS hL
    obtain ⟨hx, hb, hml, hr, hlk, hown, hts, hKK, hStr, hbs⟩ := id C
    rcases h with ⟨h1, h2, h⟩ | ⟨h1, h2, h3, h⟩
    · refine va_bast (D := E.1) hx hb hKK hP hD hS a0 2 ((qws_at E σ (qKd_lt (Or.inl (by omega)))).trans (by rw [qent_i E σ h1 (by omega)])) rfl (qin_vp h2) hd (fun H1 locs1 hP1 hD1 hS1 => ?_)
      have en : vp_nar .byte x0 = x0.toInt8.toInt32 := rfl
      rw [en] at hP1 hD1
      have ee : (Sum.inl (E.2.2.1 2, (qKd a0).2, .inl (upd (σ.1 a0) i0.toNatClampNeg (x0.toInt8.toInt32))) : va_E) = qent E (qwi σ a0 i0.toNatClampNeg (x0.toInt8.toInt32)) a0 := by
        rw [qent_i E _ h1 (by omega)]
        have : (qwi σ a0 i0.toNatClampNeg (x0.toInt8.toInt32)).1 a0 = upd (σ.1 a0) i0.toNatClampNeg (x0.toInt8.toInt32) := by funext j; simp [qwi, upd]
        rw [this]
      rw [ee, qws_set E (qent_wi E σ)] at hP1 hD1
      exact hK _ _ _ h p l e s m args below meth c E C H1 locs1 ls hP1 hD1 hS1 hL
    · refine va_zast (D := E.1) hx hb hKK hP hD hS a0 3 ((qws_at E σ (qKd_lt (Or.inl (by omega)))).trans (by rw [qent_i E σ h1 (by omega)])) rfl (qin_vp h2) hd (fun H1 locs1 hP1 hD1 hS1 => ?_)
      have en : vp_nar .boolean x0 = x0 := by rcases h3 with rfl | rfl <;> rfl
      rw [en] at hP1 hD1
      have ee : (Sum.inl (E.2.2.1 3, (qKd a0).2, .inl (upd (σ.1 a0) i0.toNatClampNeg (x0))) : va_E) = qent E (qwi σ a0 i0.toNatClampNeg (x0)) a0 := by
        rw [qent_i E _ h1 (by omega)]
        have : (qwi σ a0 i0.toNatClampNeg (x0)).1 a0 = upd (σ.1 a0) i0.toNatClampNeg (x0) := by funext j; simp [qwi, upd]
        rw [this]
      rw [ee, qws_set E (qent_wi E σ)] at hP1 hD1
      exact hK _ _ _ h p l e s m args below meth c E C H1 locs1 ls hP1 hD1 hS1 hL
  · rename_i n0 h0 z0 j0 b0 i0 a0 st
    obtain rfl : n = 3 := of_decide_eq_true hn
    intro p l e s m args below meth c E C H locs ls hP hD hS hL
    obtain ⟨hx, hb, hml, hr, hlk, hown, hts, hKK, hStr, hbs⟩ := id C
    have hsum := qcs_sum E.2.1 st
    have hnf : nativeFrameWords "java/lang/System" "arraycopy" 5 ≤ 20 := by decide +kernel
    rcases h with ⟨h1, h2, h70, h3, h4, h5, h6, h⟩ | ⟨h1, h2, h70, h3, h4, h5, h6, h⟩
    · refine va_copyi (R := qRm d) (D := E.1) hx hb (hml.trans hL.1.symm) hown (hts _ (qIs_in hc)) (hts _ qw_cpyN) (hts _ qw_cpyS) (hts _ qw_sys) hKK hP hD hS a0 b0 0 0 ((qws_at E σ (qKd_lt (Or.inr (Nat.ne_of_gt h70.1)))).trans (by rw [qent_i E σ h1 (by omega)])) ((qws_at E σ (qKd_lt (Or.inr (Nat.ne_of_gt h70.2)))).trans (by rw [qent_i E σ h2 (by omega)])) rfl rfl rfl h3.1 h4.1 h3.2.1 h3.2.2 h4.2.2 (fun _ _ => rfl) h6 (by rw [hsum]; show _ ≤ 64 * d; omega) hd (fun H1 locs1 hP1 hD1 hS1 => ?_)
      have ee : (Sum.inl (E.2.2.1 0, (qKd b0).2, .inl (va_cpy (σ.1 a0) (σ.1 b0) i0.toNatClampNeg j0.toNatClampNeg z0.toNatClampNeg)) : va_E) = qent E (qci σ a0 i0.toNatClampNeg b0 j0.toNatClampNeg z0.toNatClampNeg) b0 := by
        rw [qent_i E _ h2 (by omega)]
        have : (qci σ a0 i0.toNatClampNeg b0 j0.toNatClampNeg z0.toNatClampNeg).1 b0 = va_cpy (σ.1 a0) (σ.1 b0) i0.toNatClampNeg j0.toNatClampNeg z0.toNatClampNeg := by funext j; simp [qci]
        rw [this]
      rw [ee, qws_set E (qent_ci E σ)] at hP1 hD1
      exact hK _ _ _ h p l e s m args below meth c E C H1 locs1 ls hP1 hD1 hS1 hL
    · refine va_copyl (R := qRm d) (D := E.1) hx hb (hml.trans hL.1.symm) hown (hts _ (qIs_in hc)) (hts _ qw_cpyN) (hts _ qw_cpyS) (hts _ qw_sys) hKK hP hD hS a0 b0 1 1 ((qws_at E σ (qKd_lt (Or.inr (Nat.ne_of_gt h70.1)))).trans (by rw [qent_l E σ h1])) ((qws_at E σ (qKd_lt (Or.inr (Nat.ne_of_gt h70.2)))).trans (by rw [qent_l E σ h2])) rfl rfl rfl h3.1 h4.1 h3.2.1 h3.2.2 h4.2.2 (fun _ _ => rfl) h6 (by rw [hsum]; show _ ≤ 64 * d; omega) hd (fun H1 locs1 hP1 hD1 hS1 => ?_)
      have ee : (Sum.inl (E.2.2.1 1, (qKd b0).2, .inr (.inl (va_cpy (σ.2 a0) (σ.2 b0) i0.toNatClampNeg j0.toNatClampNeg z0.toNatClampNeg))) : va_E) = qent E (qcl σ a0 i0.toNatClampNeg b0 j0.toNatClampNeg z0.toNatClampNeg) b0 := by
        rw [qent_l E _ h2]
        have : (qcl σ a0 i0.toNatClampNeg b0 j0.toNatClampNeg z0.toNatClampNeg).2 b0 = va_cpy (σ.2 a0) (σ.2 b0) i0.toNatClampNeg j0.toNatClampNeg z0.toNatClampNeg := by funext j; simp [qcl]
        rw [this]
      rw [ee, qws_set E (qent_cl E σ)] at hP1 hD1
      exact hK _ _ _ h p l e s m args below meth c E C H1 locs1 ls hP1 hD1 hS1 hL
  · rename_i st n0 h0 j0
    obtain rfl : n = 3 := of_decide_eq_true hn
    unfold qmath at h
    intro p l e s m args below meth c E C H locs ls hP hD hS hL
    obtain ⟨hx, hb, hml, hr, hlk, hown, hts, hKK, hStr, hbs⟩ := id C
    split at h
    · rename_i hj
      subst hj
      split at h
      · rename_i x0 st1
        obtain ⟨h1, h2, h⟩ := h
        exact va_mabs (R := qRm d) hx hb (hml.trans hL.1.symm) hown (hts _ (qIs_in hc)) (hts _ qw_absS) (hts _ qw_math) (hts _ qw_absC) h2 (by rw [qcs_sum]; show _ ≤ 64 * d; omega) (Nat.le_refl 0) (Nat.le_refl 0) hd (hK _ _ _ h p l e s m args below meth c E C H locs ls hP hD hS hL)
      · exact h.elim
    · rename_i hj
      split at h
      · rename_i y0 x0 st1
        obtain ⟨h1, h2, h⟩ := h
        by_cases h0 : j0 = 0
        · subst h0
          exact va_mmax (R := qRm d) hx hb (hml.trans hL.1.symm) hown (hts _ (qIs_in hc)) (hts _ qw_maxS) (hts _ qw_math) (hts _ qw_maxC) h2 (by rw [qcs_sum]; show _ ≤ 64 * d; omega) (Nat.le_refl 0) (Nat.le_refl 0) hd (hK _ _ _ h p l e s m args below meth c E C H locs ls hP hD hS hL)
        · by_cases h01 : j0 = 1
          · subst h01
            exact va_mmin (R := qRm d) hx hb (hml.trans hL.1.symm) hown (hts _ (qIs_in hc)) (hts _ qw_minS) (hts _ qw_math) (hts _ qw_minC) h2 (by rw [qcs_sum]; show _ ≤ 64 * d; omega) (Nat.le_refl 0) (Nat.le_refl 0) hd (hK _ _ _ h p l e s m args below meth c E C H locs ls hP hD hS hL)
          · obtain _ | _ | _ | j0 := j0
            · exact absurd rfl h0
            · exact absurd rfl h01
            · exact absurd rfl hj
            · exact absurd (show false = true from hc) (by decide)
      · exact h.elim
  · rename_i st n0 k0 h0 np0 rk0 c0
    obtain rfl : n = 3 := of_decide_eq_true hn
    have hc : (decide (k0 < qML.length) && decide ((qMT k0).1.name ≠ "<init>") && (qMT k0).2.2.2.2.2.2.2.1 && qIs h0 (.methodLink (qCN (qMT k).2.2.2.2.1) n0 (qMT k0).1) && decide (np0 = (qMT k0).2.2.2.2.2.2.1) && decide (c0 = 0)) = true := hc
    simp only [Bool.and_eq_true, decide_eq_true_eq] at hc
    obtain ⟨⟨⟨⟨⟨c1, c2⟩, c3⟩, c4⟩, c5⟩, c6⟩ := hc
    obtain ⟨h1, h2, h3, h⟩ := h
    intro p l e s m args below meth c E C H locs ls hP hD hS hL
    obtain ⟨hx, hb, hml, hr, hlk, hown, hts, hKK, hStr, hbs⟩ := id C
    exact qcall_s ⟨hx, hb, hml, hr, hlk, hown, hts, hKK, hStr, hbs⟩ hP hD hS hL hd c3 c4 c5 h1 h2 h3 h (fun lo st σ hh H1 locs1 ls1 hP1 hD1 hS1 hL1 => hK lo st σ hh p l e s m args below meth c E C H1 locs1 ls1 hP1 hD1 hS1 hL1)
  · rename_i st n0 k0 h0 np0 rk0 c0
    obtain rfl : n = 3 := of_decide_eq_true hn
    have hc : (decide (k0 < qML.length) && decide ((qMT k0).1.name ≠ "<init>") && !(qMT k0).2.2.2.2.2.2.2.1 && qIs h0 (.methodLink (qCN (qMT k).2.2.2.2.1) n0 (qMT k0).1) && decide (np0 = (qMT k0).2.2.2.2.2.2.1 + 1) && decide (c0 = (qMT k0).2.2.2.2.1 + 1)) = true := hc
    simp only [Bool.and_eq_true, Bool.not_eq_true', decide_eq_true_eq] at hc
    obtain ⟨⟨⟨⟨⟨c1, c2⟩, c3⟩, c4⟩, c5⟩, c6⟩ := hc
    obtain ⟨h1, h2, h3, h⟩ := h
    intro p l e s m args below meth c E C H locs ls hP hD hS hL
    obtain ⟨hx, hb, hml, hr, hlk, hown, hts, hKK, hStr, hbs⟩ := id C
    exact qcall_v ⟨hx, hb, hml, hr, hlk, hown, hts, hKK, hStr, hbs⟩ hP hD hS hL hd c3 c4 c5 c6 h1 h2 h3 h (fun lo st σ hh H1 locs1 ls1 hP1 hD1 hS1 hL1 => hK lo st σ hh p l e s m args below meth c E C H1 locs1 ls1 hP1 hD1 hS1 hL1)
  · rename_i z0 x0
    obtain ⟨h0, h⟩ := h
    intro p l e s m args below meth c E C H locs ls hP hD hS hL
    obtain ⟨hx, hb, hml, hr, hlk, hown, hts, hKK, hStr, hbs⟩ := id C
    rcases Q with q | q | q
    rotate_left
    · exact h.elim
    · exact h.elim
    have hc : ((decide (z0 = 0) && decide ((qMT k).2.2.2.1 = some .int)) || (decide (z0 = 1) && decide ((qMT k).2.2.2.1 = some .boolean))) = true := hc
    simp only [Bool.and_eq_true, Bool.or_eq_true, decide_eq_true_eq] at hc
    obtain rfl : n = 1 := of_decide_eq_true hn
    have hq : ∀ t : State, t.heap = H → s.WarmedH t.vm → qQc E (.inl q) args s (.returned (some (.int x0))) t := fun t ht hW => ⟨⟨x0, σ, rfl, h, qWU_of hKK hStr hbs hP hD hS ht hW⟩, hS.F ht⟩
    rcases hc with ⟨rfl, hc9⟩ | ⟨rfl, hc9⟩
    · exact W.iret hx hb (hr.trans hc9) hq hS.2.2 hd hlk
    · refine W.zret (ty := .boolean) hx hb (hr.trans hc9) ?_ hq hS.2.2 hd hlk
      rcases h0 with h0 | ⟨-, rfl | rfl⟩
      · exact absurd h0 (by decide)
      · rfl
      · rfl
  · rename_i x0
    intro p l e s m args below meth c E C H locs ls hP hD hS hL
    obtain ⟨hx, hb, hml, hr, hlk, hown, hts, hKK, hStr, hbs⟩ := id C
    rcases Q with q | q | q
    · exact h.elim
    · obtain rfl : n = 1 := of_decide_eq_true hn
      exact W.lret hx hb (hr.trans (of_decide_eq_true hc)) (fun t ht hW => ⟨⟨x0, σ, rfl, h, qWU_of hKK hStr hbs hP hD hS ht hW⟩, hS.F ht⟩) hS.2.2 hd hlk
    · exact h.elim
  · intro p l e s m args below meth c E C H locs ls hP hD hS hL
    obtain ⟨hx, hb, hml, hr, hlk, hown, hts, hKK, hStr, hbs⟩ := id C
    rcases Q with q | q | q
    · exact h.elim
    · exact h.elim
    · obtain rfl : n = 1 := of_decide_eq_true hn
      exact W.vret hx hb (hr.trans (of_decide_eq_true hc)) (fun t ht hW => ⟨⟨σ, rfl, h, qWU_of hKK hStr hbs hP hD hS ht hW⟩, hS.F ht⟩) hS.2.2 hd hlk
  · exact h.elim
end
section
/-! the rules: a walk of blocks, a method's contract, a call -/
def qst : List Nat → Nat → Bool
  | [], _ => false
  | a :: l, t => a == t || qst l t
def qJ (k d : Nat) (Q : qQ) (stop : List Nat) : Nat → Nat → qLo → List qPV → qSg → Prop
  | 0 => fun t lo st σ => qV k d Q t lo st σ
  | f + 1 => fun t lo st σ => if qst stop t = true then qV k d Q t lo st σ else qW d (qJ k d Q stop f) Q (qB k t) lo st σ
theorem qW_ok {k d : Nat} {Q : qQ} {J : Nat → qLo → List qPV → qSg → Prop} (hJ : ∀ t lo st σ, J t lo st σ → qV k d Q t lo st σ) :
    ∀ (is : List qIns) (pc : Nat), qbk (qMT k).2.2.2.2.1 (qMT k).2.2.1 (qMT k).2.2.2.1 (qMT k).2.1 pc is = true → ∀ lo st σ, qW d J Q is lo st σ → qV k d Q pc lo st σ
  | [], _, _, _, _, _, h => h.elim
  | x :: xs, pc, hb, lo, st, σ, h => by
    simp only [qbk, Bool.and_eq_true] at hb
    obtain ⟨h1, h2⟩ := hb
    simp only [qik, Bool.or_eq_true, Bool.and_eq_true, decide_eq_true_eq] at h1
    rcases h1 with rfl | ⟨⟨h3, h4⟩, h5⟩
    · exact hJ _ _ _ _ h
    · exact qX_ok h3 h4 h5 hJ (fun lo st σ hh => qW_ok hJ xs (pc + x.2.1) h2 lo st σ hh) h
theorem qlook {l : List (Nat × List qIns)} {a : Nat} {b : List qIns} (h : l.lookup a = some b) : (a, b) ∈ l := by
  induction l with
  | nil => simp at h
  | cons x t ih =>
    obtain ⟨x1, x2⟩ := x
    rw [List.lookup_cons] at h
    split at h
    · rename_i hh
      have e1 : a = x1 := by simpa using hh
      cases h
      rw [e1]
      exact List.mem_cons_self
    · exact List.mem_cons_of_mem _ (ih h)
theorem qB_ok {k : Nat} (hg : qgood k) (pc : Nat) : qbk (qMT k).2.2.2.2.1 (qMT k).2.2.1 (qMT k).2.2.2.1 (qMT k).2.1 pc (qB k pc) = true := by
  unfold qB
  cases h : List.lookup pc (qMT k).2.2.2.2.2.2.2.2 with
  | none => rfl
  | some b => exact List.all_eq_true.mp hg.2.2 _ (qlook h)
theorem qJ_ok {k d : Nat} {Q : qQ} {stop : List Nat} (hg : qgood k) : ∀ (f t : Nat) (lo : qLo) (st : List qPV) (σ : qSg), qJ k d Q stop f t lo st σ → qV k d Q t lo st σ
  | 0, _, _, _, _, h => h
  | f + 1, t, lo, st, σ, h => by
    unfold qJ at h
    split at h
    · exact h
    · exact qW_ok (qJ_ok hg f) _ _ (qB_ok hg t) lo st σ h
/-- from pc on, through at most f blocks, till a place in 'stop' -/
theorem qV.go {k d : Nat} {Q : qQ} {pc : Nat} {lo : qLo} {st : List qPV} {σ : qSg} (f : Nat) (stop : List Nat) (hg : qgood k) (h : qW d (qJ k d Q stop f) Q (qB k pc) lo st σ) : qV k d Q pc lo st σ :=
  qW_ok (qJ_ok hg f) _ _ (qB_ok hg pc) lo st σ h
def qel : List qPV → qLo
  | [] => []
  | v :: t => if qil v then some v :: none :: qel t else some v :: qel t
def qlo0 (n : Nat) (a : List qPV) : qLo := qel a ++ List.replicate (n - (qel a).length) none
theorem qel_sl (ad : Nat → Nat) : ∀ a : List qPV, (lg_sl (a.map (qTV ad))).length = (qel a).length
  | [] => rfl
  | v :: t => by
    have ih := qel_sl ad t
    simp only [lg_sl, List.map_cons, List.flatMap_cons, List.length_append] at ih ⊢
    rw [ih, qTV_cat, show qel (v :: t) = if qil v = true then some v :: none :: qel t else some v :: qel t from rfl]
    by_cases hv : qil v = true
    · rw [if_pos hv, if_pos hv]; simp; omega
    · rw [if_neg hv, if_neg hv]; simp; omega
theorem qel_args (ad : Nat → Nat) : ∀ (a : List qPV) (o i : Nat) (v : qPV), (qel a)[i]? = some (some v) → (o + i, qTV ad v) ∈ lv_args o (a.map (qTV ad))
  | [], o, i, v, h => by simp [qel] at h
  | w :: t, o, i, v, h => by
    simp only [List.map_cons, lv_args]
    unfold qel at h
    rw [qTV_cat]
    by_cases hw : qil w = true
    · rw [if_pos hw] at h ⊢
      match i, h with
      | 0, h =>
        simp only [List.getElem?_cons_zero, Option.some.injEq] at h
        subst h
        exact List.mem_cons_self
      | 1, h => simp at h
      | i + 2, h =>
        have := qel_args ad t (o + 2) i v (by simpa using h)
        rw [show o + (i + 2) = o + 2 + i by omega]
        exact List.mem_cons_of_mem _ (by simpa using this)
    · rw [if_neg hw] at h ⊢
      match i, h with
      | 0, h =>
        simp only [List.getElem?_cons_zero, Option.some.injEq] at h
        subst h
        exact List.mem_cons_self
      | i + 1, h =>
        have := qel_args ad t (o + 1) i v (by simpa using h)
        rw [show o + (i + 1) = o + 1 + i by omega]
        exact List.mem_cons_of_mem _ (by simpa using this)
theorem qLR_entry (E : qE) {n : Nat} {a : List qPV} (hl : (qel a).length ≤ n) : qLR E (qlo0 n a) ((lg_sl (a.map (qTV E.2.1)) ++ List.replicate (n - (lg_sl (a.map (qTV E.2.1))).length) Slot.unset).toArray) n := by
  have h := lv_entry (a.map (qTV E.2.1)) (n := n) (by rw [qel_sl]; exact hl)
  refine ⟨h.1, h.2.1, fun i v hi => ?_⟩
  refine h.2.2 (i, qTV E.2.1 v) ?_
  unfold qlo0 at hi
  by_cases hii : i < (qel a).length
  · rw [List.getElem?_append_left hii] at hi
    have := qel_args E.2.1 a 0 i v hi
    rwa [Nat.zero_add] at this
  · rw [List.getElem?_append_right (by omega)] at hi
    rw [List.getElem?_replicate] at hi
    split at hi <;> simp at hi
theorem qmk_of {k : Nat} (hg : qgood k) : plainName (qMT k).1.cls = true ∧ (qMT k).1.cls = qCN (qMT k).2.2.2.2.1 := by
  obtain ⟨hmk, -, -⟩ := hg
  simp only [qmk, Bool.and_eq_true, decide_eq_true_eq] at hmk
  exact ⟨hmk.1.1.1.2, hmk.1.1.1.1.1.2⟩
theorem qC_of {k d : Nat} {a : List qPV} {σ : qSg} {Q : qQ} (hg : qgood k) (hl : (qel a).length ≤ (qMT k).2.2.1) (h : qV k d Q 0 (qlo0 (qMT k).2.2.1 a) [] σ) (l : Launch) (E : qE) :
    Met l (qMT k).1 (qAW (qMT k)) (qRm d) (va_Pc (a.map (qTV E.2.1)) (qWU E σ)) (qQc E Q) 0 0 (qA E) := by
  refine Met.ofW (cc := (qMT k).2.1) (maxL := (qMT k).2.2.1) (ret := (qMT k).2.2.2.1) (qmk_of hg).1 rfl ?_
  intro p e s m args below meth c s₁ B hml hv
  obtain ⟨rfl, hP, hK, hD, hStr, hbs⟩ := hv
  have hts := atoms_spec (ws := qAW (qMT k)) B.pre
  have hown : s.vm.findClass (qCN (qMT k).2.2.2.2.1) = some m.cls := by
    rw [← (qmk_of hg).2]
    exact findClass_of_methodNamed B.named
  rw [lg_entry_eq]
  exact h p l e s m _ below meth c E ⟨B.exec, B.bytes, hml, B.returns, B.notSynchronized, hown, fun w hw => hts w (List.mem_cons_of_mem _ hw), hK, hStr, hbs⟩ s.heap [] _ hP hD va_S.rf (qLR_entry E hl)
theorem qCI.of {k d : Nat} {a : List qPV} {σ : qSg} {Q : Int32 → qSg → Prop} (lo : qLo) (hg : qgood k) (hl : (qel a).length ≤ (qMT k).2.2.1) (hlo : qlo0 (qMT k).2.2.1 a = lo) (h : qV k d (.inl Q) 0 lo [] σ) : qCI d k a σ Q := ⟨hg, fun l E => qC_of hg hl (by rw [hlo]; exact h) l E⟩
theorem qCL.of {k d : Nat} {a : List qPV} {σ : qSg} {Q : Int64 → qSg → Prop} (lo : qLo) (hg : qgood k) (hl : (qel a).length ≤ (qMT k).2.2.1) (hlo : qlo0 (qMT k).2.2.1 a = lo) (h : qV k d (.inr (.inl Q)) 0 lo [] σ) : qCL d k a σ Q := ⟨hg, fun l E => qC_of hg hl (by rw [hlo]; exact h) l E⟩
theorem qCV.of {k d : Nat} {a : List qPV} {σ : qSg} {Q : qSg → Prop} (lo : qLo) (hg : qgood k) (hl : (qel a).length ≤ (qMT k).2.2.1) (hlo : qlo0 (qMT k).2.2.1 a = lo) (h : qV k d (.inr (.inr Q)) 0 lo [] σ) : qCV d k a σ Q := ⟨hg, fun l E => qC_of hg hl (by rw [hlo]; exact h) l E⟩
-- a contract used at a call
theorem qBI.of {d d' k : Nat} {a : List qPV} {σ : qSg} {P Q : Int32 → qSg → Prop} (h : qCI d' k a σ P) (hd : d' < d) (hk : ∀ r σ', P r σ' → Q r σ') : qBI d k a σ Q := ⟨d', P, hd, h, hk⟩
theorem qBL.of {d d' k : Nat} {a : List qPV} {σ : qSg} {P Q : Int64 → qSg → Prop} (h : qCL d' k a σ P) (hd : d' < d) (hk : ∀ r σ', P r σ' → Q r σ') : qBL d k a σ Q := ⟨d', P, hd, h, hk⟩
theorem qBV.of {d d' k : Nat} {a : List qPV} {σ : qSg} {P Q : qSg → Prop} (h : qCV d' k a σ P) (hd : d' < d) (hk : ∀ σ', P σ' → Q σ') : qBV d k a σ Q := ⟨d', P, hd, h, hk⟩
/-- a method that only answers -/
def qFI (d k : Nat) (a : List qPV) (σ : qSg) (v : Int32) : Prop := qCI d k a σ (fun r σ' => r = v ∧ σ' = σ)
def qFL (d k : Nat) (a : List qPV) (σ : qSg) (v : Int64) : Prop := qCL d k a σ (fun r σ' => r = v ∧ σ' = σ)
theorem qBI.fn {d d' k : Nat} {a : List qPV} {σ : qSg} {v : Int32} {Q : Int32 → qSg → Prop} (h : qFI d' k a σ v) (hd : d' < d) (hk : Q v σ) : qBI d k a σ Q := ⟨d', _, hd, h, fun r σ' hh => by obtain ⟨rfl, rfl⟩ := hh; exact hk⟩
theorem qBL.fn {d d' k : Nat} {a : List qPV} {σ : qSg} {v : Int64} {Q : Int64 → qSg → Prop} (h : qFL d' k a σ v) (hd : d' < d) (hk : Q v σ) : qBL d k a σ Q := ⟨d', _, hd, h, fun r σ' hh => by obtain ⟨rfl, rfl⟩ := hh; exact hk⟩
-- rows for simp: locals, constants, the shape of values
theorem qlg_0 (v : qPV) (t : qLo) : qlg (some v :: t) 0 = v := rfl
theorem qlg_s (h : Option qPV) (t : qLo) (n : Nat) : qlg (h :: t) (n + 1) = qlg t n := rfl
theorem qls_i0 (h : Option qPV) (t : qLo) (x : Int32) : qls (h :: t) 0 (.inl x) = some (.inl x) :: t := rfl
theorem qls_r0 (h : Option qPV) (t : qLo) (x : Option Nat) : qls (h :: t) 0 (.inr (.inr x)) = some (.inr (.inr x)) :: t := rfl
theorem qls_l0 (h h2 : Option qPV) (t : qLo) (x : Int64) : qls (h :: h2 :: t) 0 (.inr (.inl x)) = some (.inr (.inl x)) :: none :: t := rfl
theorem qls_1 (h : Option qPV) (t : qLo) (v : qPV) : qls (h :: t) 1 v = qkl h :: qls t 0 v := rfl
theorem qls_2 (h : Option qPV) (t : qLo) (n : Nat) (v : qPV) : qls (h :: t) (n + 2) v = h :: qls t (n + 1) v := rfl
theorem qkl_i (x : Int32) : qkl (some (.inl x)) = some (.inl x) := rfl
theorem qkl_r (x : Option Nat) : qkl (some (.inr (.inr x))) = some (.inr (.inr x)) := rfl
theorem qkl_l (x : Int64) : qkl (some (.inr (.inl x))) = none := rfl
theorem qkl_n : qkl none = none := rfl
theorem qIsI_i (x : Int32) : qIsI (.inl x) = True := rfl
theorem qIsL_l (x : Int64) : qIsL (.inr (.inl x)) = True := rfl
theorem qIsR_r (x : Nat) : qIsR (.inr (.inr (some x))) = True := rfl
theorem qint_i (x : Int32) : qint (.inl x) = x := rfl
theorem qil_i (x : Int32) : qil (.inl x) = false := rfl
theorem qil_r (x : Option Nat) : qil (.inr (.inr x)) = false := rfl
theorem qil_l (x : Int64) : qil (.inr (.inl x)) = true := rfl
theorem qf4_0 : ((0 : Fin 4) : Nat) = 0 := rfl
theorem qf4_1 : ((1 : Fin 4) : Nat) = 1 := rfl
theorem qf4_2 : ((2 : Fin 4) : Nat) = 2 := rfl
theorem qf4_3 : ((3 : Fin 4) : Nat) = 3 := rfl
theorem qf2_0 : ((0 : Fin 2) : Nat) = 0 := rfl
theorem qf2_1 : ((1 : Fin 2) : Nat) = 1 := rfl
theorem qcs_n : qcs [] = 0 := rfl
theorem qcs_i (x : Int32) (t : List qPV) : qcs (.inl x :: t) = 1 + qcs t := rfl
theorem qcs_r (x : Option Nat) (t : List qPV) : qcs (.inr (.inr x) :: t) = 1 + qcs t := rfl
theorem qcs_l (x : Int64) (t : List qPV) : qcs (.inr (.inl x) :: t) = 2 + qcs t := rfl
theorem qst_n (t : Nat) : qst [] t = false := rfl
theorem qst_c (a : Nat) (l : List Nat) (t : Nat) : qst (a :: l) t = (a == t || qst l t) := rfl
theorem qJ_0 {k d : Nat} {Q : qQ} {stop : List Nat} (t : Nat) (lo : qLo) (st : List qPV) (σ : qSg) : qJ k d Q stop 0 t lo st σ = qV k d Q t lo st σ := rfl
theorem qJ_st {k d : Nat} {Q : qQ} {stop : List Nat} (f t : Nat) (lo : qLo) (st : List qPV) (σ : qSg) (h : qst stop t = true) : qJ k d Q stop (f + 1) t lo st σ = qV k d Q t lo st σ := if_pos h
theorem qJ_go {k d : Nat} {Q : qQ} {stop : List Nat} (f t : Nat) (lo : qLo) (st : List qPV) (σ : qSg) (h : qst stop t = false) : qJ k d Q stop (f + 1) t lo st σ = qW d (qJ k d Q stop f) Q (qB k t) lo st σ := if_neg (by rw [h]; decide)
theorem qfl_I (σ : qSg) (a k : Nat) : qfl σ a k 0 = .inl (σ.1 a k) := rfl
theorem qfl_Z (σ : qSg) (a k : Nat) : qfl σ a k 3 = .inl (σ.1 a k) := rfl
theorem qfl_L (σ : qSg) (a k : Nat) : qfl σ a k 1 = .inr (.inl (σ.2 a k)) := rfl
theorem qfl_R (σ : qSg) (a k : Nat) : qfl σ a k 2 = .inr (.inr (qRf a k)) := rfl
theorem qrI_i (q : Int32 → qSg → Prop) (x : Int32) (σ : qSg) : qrI (.inl q) x σ = q x σ := rfl
theorem qrL_l (q : Int64 → qSg → Prop) (x : Int64) (σ : qSg) : qrL (.inr (.inl q)) x σ = q x σ := rfl
theorem qrV_v (q : qSg → Prop) (σ : qSg) : qrV (.inr (.inr q)) σ = q σ := rfl
theorem qRcv_0 (a : List qPV) : qRcv 0 a = True := by
  unfold qRcv
  split <;> simp
theorem qRcv_s (c a : Nat) (t : List qPV) : qRcv (c + 1) (.inr (.inr (some a)) :: t) = (if c = 90 then a = 1000 else (qKd a).1 = 10 + c) := by
  simp only [qRcv, Nat.add_one_ne_zero, if_false, Nat.add_right_cancel_iff, show (91 : Nat) = 90 + 1 from rfl]
  rw [show 9 + (c + 1) = 10 + c by omega]
theorem qnI0 (x : Int32) : (x = 0) = (x = nI 0) := by rw [nI_0]
end
section
/-! String.length, String.charAt: what the machine does there -/
def RS1 : String := "java/lang/StringLatin1"
def RS3 : String := "jdk/internal/util/Preconditions"
abbrev cJ0_coder_7d493 : ByteArray := prog_17_method_152_code
def yJ0_coder_7d493 : MethodName := ⟨RK90, "coder", "()B"⟩
abbrev cJ0_isLatin1_aae02 : ByteArray := prog_17_method_154_code
def yJ0_isLatin1_aae02 : MethodName := ⟨RK90, "isLatin1", "()Z"⟩
abbrev cJ0_checkIndex_df160 : ByteArray := prog_17_method_155_code
def yJ0_checkIndex_df160 : MethodName := ⟨RK90, "checkIndex", "(II)V"⟩
abbrev cJ1_charAt_3b067 : ByteArray := prog_18_method_2_code
def yJ1_charAt_3b067 : MethodName := ⟨RS1, "charAt", "([BI)C"⟩
abbrev cJ3_checkIndex_8e157 : ByteArray := prog_21_method_11_code
def yJ3_checkIndex_8e157 : MethodName := ⟨RS3, "checkIndex", "(IILjava/util/function/BiFunction;)I"⟩
theorem dJ0_length_8abf5_0 : decode cJ0_length_8abf5 0 = .ok (.aload_n 0, 1) := by decide +kernel
theorem dJ0_length_8abf5_1 : decode cJ0_length_8abf5 1 = .ok (.getfield 9, 3) := by decide +kernel
theorem dJ0_length_8abf5_4 : decode cJ0_length_8abf5 4 = .ok (.arraylength, 1) := by decide +kernel
theorem dJ0_length_8abf5_5 : decode cJ0_length_8abf5 5 = .ok (.aload_n 0, 1) := by decide +kernel
theorem dJ0_length_8abf5_6 : decode cJ0_length_8abf5 6 = .ok (.invokevirtual 335, 3) := by decide +kernel
theorem dJ0_length_8abf5_9 : decode cJ0_length_8abf5 9 = .ok (.ishr, 1) := by decide +kernel
theorem dJ0_length_8abf5_10 : decode cJ0_length_8abf5 10 = .ok (.ireturn, 1) := by decide +kernel
theorem dJ0_charAt_5068e_0 : decode cJ0_charAt_5068e 0 = .ok (.aload_n 0, 1) := by decide +kernel
theorem dJ0_charAt_5068e_1 : decode cJ0_charAt_5068e 1 = .ok (.invokevirtual 492, 3) := by decide +kernel
theorem dJ0_charAt_5068e_4 : decode cJ0_charAt_5068e 4 = .ok (.ifCond .eq 12, 3) := by decide +kernel
theorem dJ0_charAt_5068e_7 : decode cJ0_charAt_5068e 7 = .ok (.aload_n 0, 1) := by decide +kernel
theorem dJ0_charAt_5068e_8 : decode cJ0_charAt_5068e 8 = .ok (.getfield 9, 3) := by decide +kernel
theorem dJ0_charAt_5068e_11 : decode cJ0_charAt_5068e 11 = .ok (.iload_n 1, 1) := by decide +kernel
theorem dJ0_charAt_5068e_12 : decode cJ0_charAt_5068e 12 = .ok (.invokestatic 495, 3) := by decide +kernel
theorem dJ0_charAt_5068e_15 : decode cJ0_charAt_5068e 15 = .ok (.ireturn, 1) := by decide +kernel
theorem dJ0_charAt_5068e_16 : decode cJ0_charAt_5068e 16 = .ok (.aload_n 0, 1) := by decide +kernel
theorem dJ0_charAt_5068e_17 : decode cJ0_charAt_5068e 17 = .ok (.getfield 9, 3) := by decide +kernel
theorem dJ0_charAt_5068e_20 : decode cJ0_charAt_5068e 20 = .ok (.iload_n 1, 1) := by decide +kernel
theorem dJ0_charAt_5068e_21 : decode cJ0_charAt_5068e 21 = .ok (.invokestatic 498, 3) := by decide +kernel
theorem dJ0_charAt_5068e_24 : decode cJ0_charAt_5068e 24 = .ok (.ireturn, 1) := by decide +kernel
theorem dJ0_coder_7d493_0 : decode cJ0_coder_7d493 0 = .ok (.getstatic 38, 3) := by decide +kernel
theorem dJ0_coder_7d493_3 : decode cJ0_coder_7d493 3 = .ok (.ifCond .eq 10, 3) := by decide +kernel
theorem dJ0_coder_7d493_6 : decode cJ0_coder_7d493 6 = .ok (.aload_n 0, 1) := by decide +kernel
theorem dJ0_coder_7d493_7 : decode cJ0_coder_7d493 7 = .ok (.getfield 15, 3) := by decide +kernel
theorem dJ0_coder_7d493_10 : decode cJ0_coder_7d493 10 = .ok (.goto 4, 3) := by decide +kernel
theorem dJ0_coder_7d493_13 : decode cJ0_coder_7d493 13 = .ok (.iconst 1, 1) := by decide +kernel
theorem dJ0_coder_7d493_14 : decode cJ0_coder_7d493 14 = .ok (.ireturn, 1) := by decide +kernel
theorem dJ0_isLatin1_aae02_0 : decode cJ0_isLatin1_aae02 0 = .ok (.getstatic 38, 3) := by decide +kernel
theorem dJ0_isLatin1_aae02_3 : decode cJ0_isLatin1_aae02 3 = .ok (.ifCond .eq 14, 3) := by decide +kernel
theorem dJ0_isLatin1_aae02_6 : decode cJ0_isLatin1_aae02 6 = .ok (.aload_n 0, 1) := by decide +kernel
theorem dJ0_isLatin1_aae02_7 : decode cJ0_isLatin1_aae02 7 = .ok (.getfield 15, 3) := by decide +kernel
theorem dJ0_isLatin1_aae02_10 : decode cJ0_isLatin1_aae02 10 = .ok (.ifCond .ne 7, 3) := by decide +kernel
theorem dJ0_isLatin1_aae02_13 : decode cJ0_isLatin1_aae02 13 = .ok (.iconst 1, 1) := by decide +kernel
theorem dJ0_isLatin1_aae02_14 : decode cJ0_isLatin1_aae02 14 = .ok (.goto 4, 3) := by decide +kernel
theorem dJ0_isLatin1_aae02_17 : decode cJ0_isLatin1_aae02 17 = .ok (.iconst 0, 1) := by decide +kernel
theorem dJ0_isLatin1_aae02_18 : decode cJ0_isLatin1_aae02 18 = .ok (.ireturn, 1) := by decide +kernel
theorem dJ0_checkIndex_df160_0 : decode cJ0_checkIndex_df160 0 = .ok (.iload_n 0, 1) := by decide +kernel
theorem dJ0_checkIndex_df160_1 : decode cJ0_checkIndex_df160 1 = .ok (.iload_n 1, 1) := by decide +kernel
theorem dJ0_checkIndex_df160_2 : decode cJ0_checkIndex_df160 2 = .ok (.getstatic 1053, 3) := by decide +kernel
theorem dJ0_checkIndex_df160_5 : decode cJ0_checkIndex_df160 5 = .ok (.invokestatic 1059, 3) := by decide +kernel
theorem dJ0_checkIndex_df160_8 : decode cJ0_checkIndex_df160 8 = .ok (.pop, 1) := by decide +kernel
theorem dJ0_checkIndex_df160_9 : decode cJ0_checkIndex_df160 9 = .ok (.return_, 1) := by decide +kernel
theorem dJ1_charAt_3b067_0 : decode cJ1_charAt_3b067 0 = .ok (.iload_n 1, 1) := by decide +kernel
theorem dJ1_charAt_3b067_1 : decode cJ1_charAt_3b067 1 = .ok (.aload_n 0, 1) := by decide +kernel
theorem dJ1_charAt_3b067_2 : decode cJ1_charAt_3b067 2 = .ok (.arraylength, 1) := by decide +kernel
theorem dJ1_charAt_3b067_3 : decode cJ1_charAt_3b067 3 = .ok (.invokestatic 9, 3) := by decide +kernel
theorem dJ1_charAt_3b067_6 : decode cJ1_charAt_3b067 6 = .ok (.aload_n 0, 1) := by decide +kernel
theorem dJ1_charAt_3b067_7 : decode cJ1_charAt_3b067 7 = .ok (.iload_n 1, 1) := by decide +kernel
theorem dJ1_charAt_3b067_8 : decode cJ1_charAt_3b067 8 = .ok (.baload, 1) := by decide +kernel
theorem dJ1_charAt_3b067_9 : decode cJ1_charAt_3b067 9 = .ok (.sipush 255, 3) := by decide +kernel
theorem dJ1_charAt_3b067_12 : decode cJ1_charAt_3b067 12 = .ok (.iand, 1) := by decide +kernel
theorem dJ1_charAt_3b067_13 : decode cJ1_charAt_3b067 13 = .ok (.i2c, 1) := by decide +kernel
theorem dJ1_charAt_3b067_14 : decode cJ1_charAt_3b067 14 = .ok (.ireturn, 1) := by decide +kernel
theorem dJ3_checkIndex_8e157_0 : decode cJ3_checkIndex_8e157 0 = .ok (.iload_n 0, 1) := by decide +kernel
theorem dJ3_checkIndex_8e157_1 : decode cJ3_checkIndex_8e157 1 = .ok (.ifCond .lt 8, 3) := by decide +kernel
theorem dJ3_checkIndex_8e157_4 : decode cJ3_checkIndex_8e157 4 = .ok (.iload_n 0, 1) := by decide +kernel
theorem dJ3_checkIndex_8e157_5 : decode cJ3_checkIndex_8e157 5 = .ok (.iload_n 1, 1) := by decide +kernel
theorem dJ3_checkIndex_8e157_6 : decode cJ3_checkIndex_8e157 6 = .ok (.if_icmp .lt 10, 3) := by decide +kernel
theorem dJ3_checkIndex_8e157_9 : decode cJ3_checkIndex_8e157 9 = .ok (.aload_n 2, 1) := by decide +kernel
theorem dJ3_checkIndex_8e157_10 : decode cJ3_checkIndex_8e157 10 = .ok (.iload_n 0, 1) := by decide +kernel
theorem dJ3_checkIndex_8e157_11 : decode cJ3_checkIndex_8e157 11 = .ok (.iload_n 1, 1) := by decide +kernel
theorem dJ3_checkIndex_8e157_12 : decode cJ3_checkIndex_8e157 12 = .ok (.invokestatic 95, 3) := by decide +kernel
theorem dJ3_checkIndex_8e157_15 : decode cJ3_checkIndex_8e157 15 = .ok (.athrow, 1) := by decide +kernel
theorem dJ3_checkIndex_8e157_16 : decode cJ3_checkIndex_8e157 16 = .ok (.iload_n 0, 1) := by decide +kernel
theorem dJ3_checkIndex_8e157_17 : decode cJ3_checkIndex_8e157 17 = .ok (.ireturn, 1) := by decide +kernel
theorem s_cb {R : Room} {s : State} {args : Array Value} {own : String} {index : Nat} {y : MethodName} {bytes : ByteArray} {maxL n mc ms : Nat} {ret : Option FieldType} {rm : Room} (hts : ∀ w ∈ qAL, w.before args s = true) {h1 h2 h3 : Nat} (hl : qIs h1 (.methodLink own index y) = true) (hi : qIs h2 (.initialized y.cls) = true) (hc : qIs h3 (.code y bytes maxL ret) = true) (hy : y.cls ≠ "java/lang/invoke/MethodHandle" ∧ y.cls ≠ "java/lang/invoke/VarHandle") (hd : (parseMethodDescriptor y.desc).map (fun d => d.parameters.length) = some n) (hR : rm.frames + 1 ≤ R.frames ∧ 8 + (maxL + 11) + rm.locals ≤ R.locals) (hrc : rm.cells = mc) (hrs : rm.slots = ms) :
    CallB R s args own index y bytes maxL ret (.code y bytes maxL ret :: qAL) rm mc ms n := by
  refine ⟨hrc, hrs, hR.1, hR.2, fun w hw a' U hW => ?_, List.mem_cons_self, hts _ (qIs_in hc), hts _ (qIs_in hi), hy, fun sig h => ?_, hts _ (qIs_in hl)⟩
  · have hw' : w ∈ qAL := by
      rcases List.mem_cons.mp hw with rfl | h
      · exact qIs_in hc
      · exact h
    exact word_at hW (qAL_good hw') (hts w hw')
  · rw [h] at hd
    exact (Option.some.inj hd).symm
/-- a text constant at a, its bytes at v -/
def sW (a v : Nat) (byt : List Int32) (A : Nat → Prop) (U : State) : Prop := vk_S 1 [byt.length] [byt] (fun _ => a) (fun _ => v) A U U.heap ∧ va_Z "java/lang/String" "COMPACT_STRINGS" "Z" (.int 1) A U U.heap ∧ va_Zq "jdk/internal/util/Preconditions" "SIOOBE_FORMATTER" "Ljava/util/function/BiFunction;" A U U.heap
theorem sW_blind {a v : Nat} {byt : List Int32} {A : Nat → Prop} {av : List Value} : FrameBlind (va_Pc av (sW a v byt A)) := by
  intro x U g mk ⟨h0, h1, h2, h3⟩
  exact ⟨h0, vk_S.moved (u := U) (U := U.calling g mk x) (Vm.Alike.refl U.vm) h1, va_Z.moved (u := U) (U := U.calling g mk x) (Vm.Alike.refl U.vm) h2, va_Zq.moved (u := U) (U := U.calling g mk x) (Vm.Alike.refl U.vm) h3⟩
theorem sT_blind {av : List Value} : FrameBlind (va_Pc av (fun _ => True)) := by
  intro x U g mk ⟨h0, _⟩
  exact ⟨h0, trivial⟩
theorem sW_of {a v : Nat} {byt : List Int32} {A : Nat → Prop} {s U : State} {H : Heap} {locs : List Loc} (h : sW a v byt A s) (hS : va_S (fun _ => False) s.heap H locs) (hU : U.heap = H) (hW : s.WarmedH U.vm) : sW a v byt A U := by
  subst hU
  have kp : ∀ q : Nat, q < s.heap.size → ¬ A q → U.heap[q]? = s.heap[q]? := fun q h1 _ => hS.2.1 q h1 (fun h => h)
  exact ⟨(vk_S.moved hW.alike h.1).kept kp, (va_Z.moved hW.alike h.2.1).kept kp, (va_Zq.moved hW.alike h.2.2).kept kp⟩
theorem s_wk {A : Nat → Prop} {H0 H : Heap} {locs : List Loc} (hS : va_S (fun _ => False) H0 H locs) : va_S A H0 H locs := ⟨hS.1, fun q h1 _ => hS.2.1 q h1 (fun h => h), fun q hq => (hS.2.2 q hq).elim⟩
set_option maxRecDepth 100000 in
theorem c_coder (l : Launch) {a v : Nat} {byt : List Int32} {A : Nat → Prop} : Met l yJ0_coder_7d493 (.code yJ0_coder_7d493 cJ0_coder_7d493 1 (some .byte) :: qAL) (qRm 1) (va_Pc [.ref a] (sW a v byt A)) (va_Qi (fun r (_ : Unit) => r = 0) (fun _ _ => True) (fun _ => False)) 0 0 (fun _ => False) := by
  refine Met.ofW (cc := cJ0_coder_7d493) (maxL := 1) (ret := some .byte) (by decide) rfl ?_
  intro p e s m args below meth c s₁ B hml hv
  obtain ⟨rfl, hw⟩ := hv
  have hx := B.exec
  have hb := B.bytes
  have hr := B.returns
  have hts : ∀ w ∈ qAL, w.before _ s = true := fun w hw => atoms_spec (ws := .code yJ0_coder_7d493 cJ0_coder_7d493 1 (some .byte) :: qAL) B.pre w (List.mem_cons_of_mem _ hw)
  have hown : s.vm.findClass RK90 = some m.cls := findClass_of_methodNamed B.named
  have hlocks := B.notSynchronized
  have hS : va_S (fun _ => False) s.heap s.heap [] := va_S.rf
  have hl := lv_entry ([.ref a]) (n := 1) (Nat.le_of_ble_eq_true rfl)
  rw [lg_entry_eq]
  generalize (lg_sl ([.ref a]) ++ List.replicate (1 - (lg_sl ([.ref a])).length) Slot.unset).toArray = ls at hl ⊢
  have hl : lv_has ls 1 [(0, .ref a)] := hl
  refine va_gets hx hb hw.2.1 (s_wk hS) hown (hts _ (qIs_in (h := 519) (w := .fieldLink RK90 38 "java/lang/String" "COMPACT_STRINGS" "Z") (by decide +kernel))) (fun _ h => h) dJ0_coder_7d493_0 ?_
  refine lv_if_eq hx hb (tgt := 13) dJ0_coder_7d493_3 rfl (fun h => absurd h (by decide)) (fun _ => ?_)
  refine lv_aload_n hx hb dJ0_coder_7d493_6 rfl (lv_at hl 0 rfl) ?_
  refine vk_getf hx hb (hw.1.1 0 (by decide)).2.1 (s_wk hS) hown (hts _ (qIs_in (h := 2565) (w := .fieldLink RK90 15 "java/lang/String" "coder" "B") (by decide +kernel))) (fun _ h => h) dJ0_coder_7d493_7 ?_
  refine lv_goto hx hb (tgt := 14) dJ0_coder_7d493_10 rfl ?_
  exact W.zret (ty := .byte) hx hb hr rfl (fun t ht hW => ⟨⟨0, (), rfl, rfl, trivial⟩, hS.F ht⟩) hS.2.2 dJ0_coder_7d493_14 hlocks
set_option maxRecDepth 100000 in
theorem c_isLatin1 (l : Launch) {a v : Nat} {byt : List Int32} {A : Nat → Prop} : Met l yJ0_isLatin1_aae02 (.code yJ0_isLatin1_aae02 cJ0_isLatin1_aae02 1 (some .boolean) :: qAL) (qRm 1) (va_Pc [.ref a] (sW a v byt A)) (va_Qi (fun r (_ : Unit) => r = 1) (fun _ _ => True) (fun _ => False)) 0 0 (fun _ => False) := by
  refine Met.ofW (cc := cJ0_isLatin1_aae02) (maxL := 1) (ret := some .boolean) (by decide) rfl ?_
  intro p e s m args below meth c s₁ B hml hv
  obtain ⟨rfl, hw⟩ := hv
  have hx := B.exec
  have hb := B.bytes
  have hr := B.returns
  have hts : ∀ w ∈ qAL, w.before _ s = true := fun w hw => atoms_spec (ws := .code yJ0_isLatin1_aae02 cJ0_isLatin1_aae02 1 (some .boolean) :: qAL) B.pre w (List.mem_cons_of_mem _ hw)
  have hown : s.vm.findClass RK90 = some m.cls := findClass_of_methodNamed B.named
  have hlocks := B.notSynchronized
  have hS : va_S (fun _ => False) s.heap s.heap [] := va_S.rf
  have hl := lv_entry ([.ref a]) (n := 1) (Nat.le_of_ble_eq_true rfl)
  rw [lg_entry_eq]
  generalize (lg_sl ([.ref a]) ++ List.replicate (1 - (lg_sl ([.ref a])).length) Slot.unset).toArray = ls at hl ⊢
  have hl : lv_has ls 1 [(0, .ref a)] := hl
  refine va_gets hx hb hw.2.1 (s_wk hS) hown (hts _ (qIs_in (h := 519) (w := .fieldLink RK90 38 "java/lang/String" "COMPACT_STRINGS" "Z") (by decide +kernel))) (fun _ h => h) dJ0_isLatin1_aae02_0 ?_
  refine lv_if_eq hx hb (tgt := 17) dJ0_isLatin1_aae02_3 rfl (fun h => absurd h (by decide)) (fun _ => ?_)
  refine lv_aload_n hx hb dJ0_isLatin1_aae02_6 rfl (lv_at hl 0 rfl) ?_
  refine vk_getf hx hb (hw.1.1 0 (by decide)).2.1 (s_wk hS) hown (hts _ (qIs_in (h := 2565) (w := .fieldLink RK90 15 "java/lang/String" "coder" "B") (by decide +kernel))) (fun _ h => h) dJ0_isLatin1_aae02_7 ?_
  refine lv_if_ne hx hb (tgt := 17) dJ0_isLatin1_aae02_10 rfl (fun h => absurd rfl h) (fun _ => ?_)
  refine lv_iconst hx hb (v := 1) dJ0_isLatin1_aae02_13 rfl ?_
  refine lv_goto hx hb (tgt := 18) dJ0_isLatin1_aae02_14 rfl ?_
  exact W.zret (ty := .boolean) hx hb hr rfl (fun t ht hW => ⟨⟨1, (), rfl, rfl, trivial⟩, hS.F ht⟩) hS.2.2 dJ0_isLatin1_aae02_18 hlocks
set_option maxRecDepth 100000 in
theorem c_pcheck (l : Launch) {i n : Nat} (hi : i < n) (hn : n < 2147483648) {vv : Value} (hvv : vv = .null ∨ ∃ t, vv = .ref t) : Met l yJ3_checkIndex_8e157 (.code yJ3_checkIndex_8e157 cJ3_checkIndex_8e157 3 (some .int) :: qAL) (qRm 1) (va_Pc [.int (nI i), .int (nI n), vv] (fun _ => True)) (va_Qi (fun r (_ : Unit) => r = nI i) (fun _ _ => True) (fun _ => False)) 0 0 (fun _ => False) := by
  refine Met.ofW (cc := cJ3_checkIndex_8e157) (maxL := 3) (ret := some .int) (by decide) rfl ?_
  intro p e s m args below meth c s₁ B hml hv
  obtain ⟨rfl, -⟩ := hv
  have hx := B.exec
  have hb := B.bytes
  have hr := B.returns
  have hlocks := B.notSynchronized
  have hS : va_S (fun _ => False) s.heap s.heap [] := va_S.rf
  have key : ∀ ls, lv_has ls 3 [(0, .int (nI i)), (1, .int (nI n))] → W p l e (qRm 1) s m [Value.int (nI i), .int (nI n), vv].toArray below meth c s.heap [] 0 0 (MQ below (va_Qi (fun r (_ : Unit) => r = nI i) (fun _ _ => True) (fun _ => False)) [Value.int (nI i), .int (nI n), vv].toArray s 0 0 (fun _ => False)) (F0 m 0 ls []) := by
    intro ls hl
    refine lv_iload_n hx hb dJ3_checkIndex_8e157_0 rfl (lv_at hl 0 rfl) ?_
    refine lv_if_lt hx hb (tgt := 9) dJ3_checkIndex_8e157_1 rfl (fun h => absurd h (nI_pos (by omega))) (fun _ => ?_)
    refine lv_iload_n hx hb dJ3_checkIndex_8e157_4 rfl (lv_at hl 0 rfl) ?_
    refine lv_iload_n hx hb dJ3_checkIndex_8e157_5 rfl (lv_at hl 1 rfl) ?_
    refine lv_icmp_lt hx hb (tgt := 16) dJ3_checkIndex_8e157_6 rfl (fun _ => ?_) (fun h => absurd (nI_lt hi (by omega)) h)
    refine lv_iload_n hx hb dJ3_checkIndex_8e157_16 rfl (lv_at hl 0 rfl) ?_
    exact W.iret hx hb hr (fun t ht hW => ⟨⟨nI i, (), rfl, rfl, trivial⟩, hS.F ht⟩) hS.2.2 dJ3_checkIndex_8e157_17 hlocks
  rw [lg_entry_eq]
  rcases hvv with rfl | ⟨t, rfl⟩
  · have hl := lv_entry ([.int (nI i), .int (nI n), .null]) (n := 3) (Nat.le_of_ble_eq_true rfl)
    generalize (lg_sl ([.int (nI i), .int (nI n), .null]) ++ List.replicate (3 - (lg_sl ([.int (nI i), .int (nI n), .null])).length) Slot.unset).toArray = ls at hl ⊢
    exact key ls (lv_sub hl [0, 1] rfl)
  · have hl := lv_entry ([.int (nI i), .int (nI n), .ref t]) (n := 3) (Nat.le_of_ble_eq_true rfl)
    generalize (lg_sl ([.int (nI i), .int (nI n), .ref t]) ++ List.replicate (3 - (lg_sl ([.int (nI i), .int (nI n), .ref t])).length) Slot.unset).toArray = ls at hl ⊢
    exact key ls (lv_sub hl [0, 1] rfl)
set_option maxRecDepth 100000 in
theorem c_scheck (l : Launch) {a v : Nat} {byt : List Int32} {A : Nat → Prop} {i n : Nat} (hi : i < n) (hn : n < 2147483648) : Met l yJ0_checkIndex_df160 (.code yJ0_checkIndex_df160 cJ0_checkIndex_df160 2 none :: qAL) (qRm 2) (va_Pc [.int (nI i), .int (nI n)] (sW a v byt A)) (va_Qv (fun (_ : Unit) => True) (fun _ _ => True) (fun _ => False)) 0 0 (fun _ => False) := by
  refine Met.ofW (cc := cJ0_checkIndex_df160) (maxL := 2) (ret := none) (by decide) rfl ?_
  intro p e s m args below meth c s₁ B hml hv
  obtain ⟨rfl, hw⟩ := hv
  have hx := B.exec
  have hb := B.bytes
  have hr := B.returns
  have hts : ∀ w ∈ qAL, w.before _ s = true := fun w hw => atoms_spec (ws := .code yJ0_checkIndex_df160 cJ0_checkIndex_df160 2 none :: qAL) B.pre w (List.mem_cons_of_mem _ hw)
  have hown : s.vm.findClass RK90 = some m.cls := findClass_of_methodNamed B.named
  have hlocks := B.notSynchronized
  have hS : va_S (fun _ => False) s.heap s.heap [] := va_S.rf
  have hl := lv_entry ([.int (nI i), .int (nI n)]) (n := 2) (Nat.le_of_ble_eq_true rfl)
  rw [lg_entry_eq]
  generalize (lg_sl ([.int (nI i), .int (nI n)]) ++ List.replicate (2 - (lg_sl ([.int (nI i), .int (nI n)])).length) Slot.unset).toArray = ls at hl ⊢
  have hl : lv_has ls 2 [(0, .int (nI i)), (1, .int (nI n))] := hl
  refine lv_iload_n hx hb dJ0_checkIndex_df160_0 rfl (lv_at hl 0 rfl) ?_
  refine lv_iload_n hx hb dJ0_checkIndex_df160_1 rfl (lv_at hl 1 rfl) ?_
  have go : ∀ vv : Value, (vv = .null ∨ ∃ t, vv = .ref t) → W p l e (qRm 2) s m [Value.int (nI i), .int (nI n)].toArray below meth c s.heap [] 0 0 (MQ below (va_Qv (fun (_ : Unit) => True) (fun _ _ => True) (fun _ => False)) [Value.int (nI i), .int (nI n)].toArray s 0 0 (fun _ => False)) (F0 m 5 ls [vv, .int (nI n), .int (nI i)]) := by
    intro vv hvv
    refine va_calli (va_runS (As := [.int (nI i), .int (nI n), vv]) (rest := []) ⟨hx, hb, hml, hown, hts⟩ (c_pcheck l hi hn hvv) ⟨s_cb (n := 3) hts (h1 := 537) (h2 := 267) (h3 := 539) (by decide +kernel) (by decide +kernel) (by decide +kernel) (by decide) (by decide +kernel) ⟨Nat.le_of_ble_eq_true rfl, Nat.le_of_ble_eq_true rfl⟩ rfl rfl, hts _ (qIs_in (h := 538) (w := .static yJ3_checkIndex_8e157) (by decide +kernel))⟩ ⟨sT_blind, fun U hU hW => ⟨rfl, trivial⟩⟩ rfl rfl hl.1 rfl (Nat.le_of_ble_eq_true rfl) dJ0_checkIndex_df160_5 ⟨Nat.zero_le _, Nat.zero_le _⟩) hS (fun _ _ h => h) (fun _ h => h) (fun r _ t H1 locs1 ht hvm hp hB hz hk hS1 => ?_)
    refine lv_pop hx hb dJ0_checkIndex_df160_8 rfl ?_
    exact W.vret hx hb hr (fun t ht hW => ⟨⟨(), rfl, trivial, trivial⟩, hS1.F ht⟩) hS1.2.2 dJ0_checkIndex_df160_9 hlocks
  have hlk := hts _ (qIs_in (h := 535) (w := .fieldLink RK90 1053 "jdk/internal/util/Preconditions" "SIOOBE_FORMATTER" "Ljava/util/function/BiFunction;") (by decide +kernel))
  rcases hw.2.2 with hz | ⟨t, hz⟩
  · exact va_gets hx hb hz (s_wk hS) hown hlk (fun _ h => h) dJ0_checkIndex_df160_2 (go _ (Or.inl rfl))
  · exact va_gets hx hb hz (s_wk hS) hown hlk (fun _ h => h) dJ0_checkIndex_df160_2 (go _ (Or.inr ⟨t, rfl⟩))
set_option maxRecDepth 100000 in
theorem c_lcharAt (l : Launch) {a v : Nat} {byt : List Int32} {A : Nat → Prop} {k : Nat} (hk : k < byt.length) (hn : byt.length < 2147483648) : Met l yJ1_charAt_3b067 (.code yJ1_charAt_3b067 cJ1_charAt_3b067 2 (some .char) :: qAL) (qRm 3) (va_Pc [.ref v, .int (nI k)] (sW a v byt A)) (va_Qi (fun r (_ : Unit) => r = byt.getD k 0 &&& 255) (fun _ _ => True) (fun _ => False)) 0 0 (fun _ => False) := by
  refine Met.ofW (cc := cJ1_charAt_3b067) (maxL := 2) (ret := some .char) (by decide) rfl ?_
  intro p e s m args below meth c s₁ B hml hv
  obtain ⟨rfl, hw⟩ := hv
  have hx := B.exec
  have hb := B.bytes
  have hr := B.returns
  have hts : ∀ w ∈ qAL, w.before _ s = true := fun w hw => atoms_spec (ws := .code yJ1_charAt_3b067 cJ1_charAt_3b067 2 (some .char) :: qAL) B.pre w (List.mem_cons_of_mem _ hw)
  have hown : s.vm.findClass RS1 = some m.cls := findClass_of_methodNamed B.named
  have hlocks := B.notSynchronized
  have hS : va_S (fun _ => False) s.heap s.heap [] := va_S.rf
  have hl := lv_entry ([.ref v, .int (nI k)]) (n := 2) (Nat.le_of_ble_eq_true rfl)
  rw [lg_entry_eq]
  generalize (lg_sl ([.ref v, .int (nI k)]) ++ List.replicate (2 - (lg_sl ([.ref v, .int (nI k)])).length) Slot.unset).toArray = ls at hl ⊢
  have hl : lv_has ls 2 [(0, .ref v), (1, .int (nI k))] := hl
  have hT := (hw.1.1 0 (by decide)).2.2.2
  refine lv_iload_n hx hb dJ1_charAt_3b067_0 rfl (lv_at hl 1 rfl) ?_
  refine lv_aload_n hx hb dJ1_charAt_3b067_1 rfl (lv_at hl 0 rfl) ?_
  refine va_tlen hx hb hT (s_wk hS) (v := nI byt.length) rfl dJ1_charAt_3b067_2 ?_
  refine va_callv (va_runS (As := [.int (nI k), .int (nI byt.length)]) (rest := []) ⟨hx, hb, hml, hown, hts⟩ (c_scheck l (a := a) (v := v) (byt := byt) (A := A) hk hn) ⟨s_cb (n := 2) hts (h1 := 532) (h2 := 265) (h3 := 534) (by decide +kernel) (by decide +kernel) (by decide +kernel) (by decide) (by decide +kernel) ⟨Nat.le_of_ble_eq_true rfl, Nat.le_of_ble_eq_true rfl⟩ rfl rfl, hts _ (qIs_in (h := 533) (w := .static yJ0_checkIndex_df160) (by decide +kernel))⟩ ⟨sW_blind, fun U hU hW => ⟨rfl, sW_of hw hS hU hW⟩⟩ rfl rfl hl.1 rfl (Nat.le_of_ble_eq_true rfl) dJ1_charAt_3b067_3 ⟨Nat.zero_le _, Nat.zero_le _⟩) hS (fun _ _ h => h) (fun _ h => h) (fun _ t H1 locs1 ht hvm hp hB hz hk1 hS1 => ?_)
  refine lv_aload_n hx hb dJ1_charAt_3b067_6 rfl (lv_at hl 0 rfl) ?_
  refine lv_iload_n hx hb dJ1_charAt_3b067_7 rfl (lv_at hl 1 rfl) ?_
  refine va_tb hx hb hT (s_wk hS1) (vp_in_nI (show k < [byt.length].getD 0 0 from hk) (show [byt.length].getD 0 0 < _ from hn)) (v := .int (byt.getD k 0)) (by rw [nI_clamp (by omega)]; rfl) dJ1_charAt_3b067_8 ?_
  refine lv_sipush hx hb (v := 255) dJ1_charAt_3b067_9 rfl ?_
  refine lv_iand hx hb dJ1_charAt_3b067_12 ?_
  refine lv_i2c hx hb (v := byt.getD k 0 &&& 255) dJ1_charAt_3b067_13 (sc_c2 _) ?_
  exact W.zret (ty := .char) hx hb hr (sc_nar _) (fun t ht hW => ⟨⟨_, (), rfl, rfl, trivial⟩, hS1.F ht⟩) hS1.2.2 dJ1_charAt_3b067_14 hlocks
set_option maxRecDepth 100000 in
theorem c_charAt (l : Launch) {a v : Nat} {byt : List Int32} {A : Nat → Prop} {k : Nat} (hk : k < byt.length) (hn : byt.length < 2147483648) : Met l yJ0_charAt_5068e (.code yJ0_charAt_5068e cJ0_charAt_5068e 2 (some .char) :: qAL) (qRm 4) (va_Pc [.ref a, .int (nI k)] (sW a v byt A)) (va_Qi (fun r (_ : Unit) => r = byt.getD k 0 &&& 255) (fun _ _ => True) (fun _ => False)) 0 0 (fun _ => False) := by
  refine Met.ofW (cc := cJ0_charAt_5068e) (maxL := 2) (ret := some .char) (by decide) rfl ?_
  intro p e s m args below meth c s₁ B hml hv
  obtain ⟨rfl, hw⟩ := hv
  have hx := B.exec
  have hb := B.bytes
  have hr := B.returns
  have hts : ∀ w ∈ qAL, w.before _ s = true := fun w hw => atoms_spec (ws := .code yJ0_charAt_5068e cJ0_charAt_5068e 2 (some .char) :: qAL) B.pre w (List.mem_cons_of_mem _ hw)
  have hown : s.vm.findClass RK90 = some m.cls := findClass_of_methodNamed B.named
  have hlocks := B.notSynchronized
  have hS : va_S (fun _ => False) s.heap s.heap [] := va_S.rf
  have hl := lv_entry ([.ref a, .int (nI k)]) (n := 2) (Nat.le_of_ble_eq_true rfl)
  rw [lg_entry_eq]
  generalize (lg_sl ([.ref a, .int (nI k)]) ++ List.replicate (2 - (lg_sl ([.ref a, .int (nI k)])).length) Slot.unset).toArray = ls at hl ⊢
  have hl : lv_has ls 2 [(0, .ref a), (1, .int (nI k))] := hl
  refine lv_aload_n hx hb dJ0_charAt_5068e_0 rfl (lv_at hl 0 rfl) ?_
  refine va_calli (va_runV (C := RK90) (b := a) (As := []) (rest := []) ⟨hx, hb, hml, hown, hts⟩ (c_isLatin1 l (a := a) (v := v) (byt := byt) (A := A)) ⟨s_cb hts (h1 := 525) (h2 := 265) (h3 := 528) (by decide +kernel) (by decide +kernel) (by decide +kernel) (by decide) (by decide +kernel) ⟨Nat.le_of_ble_eq_true rfl, Nat.le_of_ble_eq_true rfl⟩ rfl rfl, hts _ (qIs_in (h := 526) (w := .instanceMethod yJ0_isLatin1_aae02) (by decide +kernel)), hts _ (qIs_in (h := 527) (w := .selects RK90 yJ0_isLatin1_aae02 yJ0_isLatin1_aae02) (by decide +kernel))⟩ ⟨sW_blind, vk_recv (i := 0) hw.1 (by decide) (s_wk hS), fun U hU hW => ⟨rfl, sW_of hw hS hU hW⟩⟩ rfl rfl hl.1 rfl (Nat.le_of_ble_eq_true rfl) dJ0_charAt_5068e_1 ⟨Nat.zero_le _, Nat.zero_le _⟩) hS (fun _ _ h => h) (fun _ h => h) (fun r _ t H1 locs1 ht hvm hp hB hz hk1 hS1 => ?_)
  subst hp
  refine lv_if_eq hx hb (tgt := 16) dJ0_charAt_5068e_4 rfl (fun h => absurd h (by decide)) (fun _ => ?_)
  refine lv_aload_n hx hb dJ0_charAt_5068e_7 rfl (lv_at hl 0 rfl) ?_
  refine vk_getf hx hb (hw.1.1 0 (by decide)).2.2.1 (s_wk hS1) hown (hts _ (qIs_in (h := 2564) (w := .fieldLink RK90 9 "java/lang/String" "value" "[B") (by decide +kernel))) (fun _ h => h) dJ0_charAt_5068e_8 ?_
  refine lv_iload_n hx hb dJ0_charAt_5068e_11 rfl (lv_at hl 1 rfl) ?_
  refine va_calli (va_runS (As := [.ref v, .int (nI k)]) (rest := []) ⟨hx, hb, hml, hown, hts⟩ (c_lcharAt l (a := a) (v := v) (byt := byt) (A := A) hk hn) ⟨s_cb (n := 2) hts (h1 := 529) (h2 := 266) (h3 := 531) (by decide +kernel) (by decide +kernel) (by decide +kernel) (by decide) (by decide +kernel) ⟨Nat.le_of_ble_eq_true rfl, Nat.le_of_ble_eq_true rfl⟩ rfl rfl, hts _ (qIs_in (h := 530) (w := .static yJ1_charAt_3b067) (by decide +kernel))⟩ ⟨sW_blind, fun U hU hW => ⟨rfl, sW_of hw hS1 hU hW⟩⟩ rfl rfl hl.1 rfl (Nat.le_of_ble_eq_true rfl) dJ0_charAt_5068e_12 ⟨Nat.zero_le _, Nat.zero_le _⟩) hS1 (fun _ _ h => h) (fun _ h => h) (fun r _ t H2 locs2 ht2 hvm2 hp2 hB2 hz2 hk2 hS2 => ?_)
  subst hp2
  exact W.zret (ty := .char) hx hb hr (sc_nar _) (fun t ht hW => ⟨⟨_, (), rfl, rfl, trivial⟩, hS2.F ht⟩) hS2.2.2 dJ0_charAt_5068e_15 hlocks
set_option maxRecDepth 100000 in
theorem c_length (l : Launch) {a v : Nat} {byt : List Int32} {A : Nat → Prop} (hn : byt.length < 2147483648) : Met l yJ0_length_8abf5 (.code yJ0_length_8abf5 cJ0_length_8abf5 1 (some .int) :: qAL) (qRm 4) (va_Pc [.ref a] (sW a v byt A)) (va_Qi (fun r (_ : Unit) => r = nI byt.length) (fun _ _ => True) (fun _ => False)) 0 0 (fun _ => False) := by
  refine Met.ofW (cc := cJ0_length_8abf5) (maxL := 1) (ret := some .int) (by decide) rfl ?_
  intro p e s m args below meth c s₁ B hml hv
  obtain ⟨rfl, hw⟩ := hv
  have hx := B.exec
  have hb := B.bytes
  have hr := B.returns
  have hts : ∀ w ∈ qAL, w.before _ s = true := fun w hw => atoms_spec (ws := .code yJ0_length_8abf5 cJ0_length_8abf5 1 (some .int) :: qAL) B.pre w (List.mem_cons_of_mem _ hw)
  have hown : s.vm.findClass RK90 = some m.cls := findClass_of_methodNamed B.named
  have hlocks := B.notSynchronized
  have hS : va_S (fun _ => False) s.heap s.heap [] := va_S.rf
  have hl := lv_entry ([.ref a]) (n := 1) (Nat.le_of_ble_eq_true rfl)
  rw [lg_entry_eq]
  generalize (lg_sl ([.ref a]) ++ List.replicate (1 - (lg_sl ([.ref a])).length) Slot.unset).toArray = ls at hl ⊢
  have hl : lv_has ls 1 [(0, .ref a)] := hl
  refine lv_aload_n hx hb dJ0_length_8abf5_0 rfl (lv_at hl 0 rfl) ?_
  refine vk_getf hx hb (hw.1.1 0 (by decide)).2.2.1 (s_wk hS) hown (hts _ (qIs_in (h := 2564) (w := .fieldLink RK90 9 "java/lang/String" "value" "[B") (by decide +kernel))) (fun _ h => h) dJ0_length_8abf5_1 ?_
  refine va_tlen hx hb (hw.1.1 0 (by decide)).2.2.2 (s_wk hS) (v := nI byt.length) rfl dJ0_length_8abf5_4 ?_
  refine lv_aload_n hx hb dJ0_length_8abf5_5 rfl (lv_at hl 0 rfl) ?_
  refine va_calli (va_runV (C := RK90) (b := a) (As := []) (rest := [.int (nI byt.length)]) ⟨hx, hb, hml, hown, hts⟩ (c_coder l (a := a) (v := v) (byt := byt) (A := A)) ⟨s_cb hts (h1 := 515) (h2 := 265) (h3 := 518) (by decide +kernel) (by decide +kernel) (by decide +kernel) (by decide) (by decide +kernel) ⟨Nat.le_of_ble_eq_true rfl, Nat.le_of_ble_eq_true rfl⟩ rfl rfl, hts _ (qIs_in (h := 516) (w := .instanceMethod yJ0_coder_7d493) (by decide +kernel)), hts _ (qIs_in (h := 517) (w := .selects RK90 yJ0_coder_7d493 yJ0_coder_7d493) (by decide +kernel))⟩ ⟨sW_blind, vk_recv (i := 0) hw.1 (by decide) (s_wk hS), fun U hU hW => ⟨rfl, sW_of hw hS hU hW⟩⟩ rfl rfl hl.1 rfl (Nat.le_of_ble_eq_true rfl) dJ0_length_8abf5_6 ⟨Nat.zero_le _, Nat.zero_le _⟩) hS (fun _ _ h => h) (fun _ h => h) (fun r _ t H1 locs1 ht hvm hp hB hz hk1 hS1 => ?_)
  subst hp
  refine lv_ishr hx hb dJ0_length_8abf5_9 ?_
  rw [sc_shr0 (by omega)]
  exact W.iret hx hb hr (fun t ht hW => ⟨⟨_, (), rfl, rfl, trivial⟩, hS1.F ht⟩) hS1.2.2 dJ0_length_8abf5_10 hlocks
-- the same in the pure machine's words
theorem s_met {l : Launch} {E : qE} {σ : qSg} {y : MethodName} {ws : List Cond} {rm : Room} {args : List Value} {post : Int32 → Prop} (h : Met l y ws rm (va_Pc args (sW (E.2.1 1000) (E.2.1 1001) qKEYb (qA E))) (va_Qi (fun r (_ : Unit) => post r) (fun _ _ => True) (fun _ => False)) 0 0 (fun _ => False)) :
    Met l y ws rm (va_Pc args (qWU E σ)) (va_Qi (fun r σ' => post r ∧ σ' = σ) (qWU E) (qA E)) 0 0 (qA E) := by
  refine MetFree.mono h (fun a s hP => ?_) (fun _ _ _ _ _ _ => trivial) (fun a s o t hP hQ => ?_)
  · obtain ⟨h0, -, -, -, h4, -⟩ := hP
    exact ⟨h0, h4.2.1, h4.2.2.1, h4.2.2.2⟩
  · obtain ⟨h0, hP, hK, hD, hStr, hb⟩ := hP
    obtain ⟨⟨⟨r, _, rfl, hr, -⟩, hF⟩, L, hFE, hL⟩ := hQ
    have hS : va_S (qA E) s.heap t.heap [] := ⟨hF.1, fun q h1 _ => hF.2 q h1 (fun h => h), fun _ h => by cases h⟩
    have hP' : va_P E.1 vwCl (qws E σ) t.heap := fun k q hq => (hP k q hq).kept (hF.2 q.1 (hP k q hq).lt (fun h => h))
    exact ⟨⟨⟨r, σ, rfl, ⟨hr, rfl⟩, qWU_of hK hStr hb hP' hD hS rfl hFE.2.1⟩, ⟨hF.1, fun q h1 _ => hF.2 q h1 (fun h => h)⟩⟩, L, hFE, fun q hq => (hL q hq).elim⟩
theorem s_length (σ : qSg) : qFI 4 369 [qr 1000] σ (nI qKEYb.length) := ⟨ok_369, fun l E => s_met (c_length l (by decide))⟩
theorem s_charAt (σ : qSg) {k : Nat} (hk : k < qKEYb.length) : qFI 4 370 [qr 1000, qi (nI k)] σ (qKEYb.getD k 0 &&& 255) := ⟨ok_370, fun l E => s_met (c_charAt l hk (by decide))⟩
end
