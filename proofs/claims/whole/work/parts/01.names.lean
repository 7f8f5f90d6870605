-- ===== PART A: goes FIRST, ahead of the names: the tables' words, and 'selects' of the private methods out of them =====
/-- a private method of a class that the tables say can be made, by its rows of tables_1 -/
def lw_okq (q : MethodName × Nat) : Prop := (q.1.cls ≠ "java/lang/invoke/MethodHandle" ∧ q.1.cls ≠ "java/lang/invoke/VarHandle") ∧ Cond.instantiable q.1.cls q.2 ∈ tables_1 ∧ Cond.privateMethod q.1 ∈ tables_1 ∧ Cond.instanceMethod q.1 ∈ tables_1
theorem lw_p0 : lw_okq (⟨"LongStrike$Pit", "waterAfter", "(II)I"⟩, 7) := ⟨⟨by decide +kernel, by decide +kernel⟩, List.mem_of_getElem? (i := 178) (by decide +kernel), List.mem_of_getElem? (i := 557) (by decide +kernel), List.mem_of_getElem? (i := 558) (by decide +kernel)⟩
theorem lw_p1 : lw_okq (⟨"LongStrike$Valley", "shareIfDue", "()V"⟩, 19) := ⟨⟨by decide +kernel, by decide +kernel⟩, List.mem_of_getElem? (i := 30) (by decide +kernel), List.mem_of_getElem? (i := 564) (by decide +kernel), List.mem_of_getElem? (i := 565) (by decide +kernel)⟩
theorem lw_p2 : lw_okq (⟨"LongStrike$Rules", "holds", "(ILLongStrike$Household;)Z"⟩, 7) := ⟨⟨by decide +kernel, by decide +kernel⟩, List.mem_of_getElem? (i := 293) (by decide +kernel), List.mem_of_getElem? (i := 580) (by decide +kernel), List.mem_of_getElem? (i := 581) (by decide +kernel)⟩
theorem lw_p3 : lw_okq (⟨"LongStrike$Valley", "drawByRank", "(II)I"⟩, 19) := ⟨⟨by decide +kernel, by decide +kernel⟩, List.mem_of_getElem? (i := 30) (by decide +kernel), List.mem_of_getElem? (i := 598) (by decide +kernel), List.mem_of_getElem? (i := 599) (by decide +kernel)⟩
theorem lw_p4 : lw_okq (⟨"LongStrike$Valley", "liveOn", "(LLongStrike$Household;I)V"⟩, 19) := ⟨⟨by decide +kernel, by decide +kernel⟩, List.mem_of_getElem? (i := 30) (by decide +kernel), List.mem_of_getElem? (i := 614) (by decide +kernel), List.mem_of_getElem? (i := 615) (by decide +kernel)⟩
theorem lw_p5 : lw_okq (⟨"LongStrike$Works", "stockAfter", "(IIZ)I"⟩, 5) := ⟨⟨by decide +kernel, by decide +kernel⟩, List.mem_of_getElem? (i := 46) (by decide +kernel), List.mem_of_getElem? (i := 637) (by decide +kernel), List.mem_of_getElem? (i := 638) (by decide +kernel)⟩
theorem lw_p6 : lw_okq (⟨"LongStrike", "chooseCold", "(I)I"⟩, 17) := ⟨⟨by decide +kernel, by decide +kernel⟩, List.mem_of_getElem? (i := 22) (by decide +kernel), List.mem_of_getElem? (i := 731) (by decide +kernel), List.mem_of_getElem? (i := 732) (by decide +kernel)⟩
theorem lw_p7 : lw_okq (⟨"LongStrike", "chooseBurn", "(I)I"⟩, 17) := ⟨⟨by decide +kernel, by decide +kernel⟩, List.mem_of_getElem? (i := 22) (by decide +kernel), List.mem_of_getElem? (i := 735) (by decide +kernel), List.mem_of_getElem? (i := 736) (by decide +kernel)⟩
theorem lw_p8 : lw_okq (⟨"LongStrike", "chooseMiles", "(I)I"⟩, 17) := ⟨⟨by decide +kernel, by decide +kernel⟩, List.mem_of_getElem? (i := 22) (by decide +kernel), List.mem_of_getElem? (i := 739) (by decide +kernel), List.mem_of_getElem? (i := 740) (by decide +kernel)⟩
theorem lw_p9 : lw_okq (⟨"LongStrike", "chooseWant", "(II)I"⟩, 17) := ⟨⟨by decide +kernel, by decide +kernel⟩, List.mem_of_getElem? (i := 22) (by decide +kernel), List.mem_of_getElem? (i := 743) (by decide +kernel), List.mem_of_getElem? (i := 744) (by decide +kernel)⟩
theorem lw_p10 : lw_okq (⟨"LongStrike$TextReader", "splitTape", "()V"⟩, 8) := ⟨⟨by decide +kernel, by decide +kernel⟩, List.mem_of_getElem? (i := 403) (by decide +kernel), List.mem_of_getElem? (i := 781) (by decide +kernel), List.mem_of_getElem? (i := 782) (by decide +kernel)⟩
theorem lw_p11 : lw_okq (⟨"LongStrike$TextReader", "endOfRun", "(ICC)I"⟩, 8) := ⟨⟨by decide +kernel, by decide +kernel⟩, List.mem_of_getElem? (i := 403) (by decide +kernel), List.mem_of_getElem? (i := 785) (by decide +kernel), List.mem_of_getElem? (i := 786) (by decide +kernel)⟩
theorem lw_p12 : lw_okq (⟨"LongStrike$TextReader", "wordBetween", "(II)I"⟩, 8) := ⟨⟨by decide +kernel, by decide +kernel⟩, List.mem_of_getElem? (i := 403) (by decide +kernel), List.mem_of_getElem? (i := 790) (by decide +kernel), List.mem_of_getElem? (i := 791) (by decide +kernel)⟩
theorem lw_p13 : lw_okq (⟨"LongStrike$TextReader", "isSame", "(III)Z"⟩, 8) := ⟨⟨by decide +kernel, by decide +kernel⟩, List.mem_of_getElem? (i := 403) (by decide +kernel), List.mem_of_getElem? (i := 843) (by decide +kernel), List.mem_of_getElem? (i := 844) (by decide +kernel)⟩
theorem lw_p14 : lw_okq (⟨"LongStrike$TextReader", "numberBetween", "(II)I"⟩, 8) := ⟨⟨by decide +kernel, by decide +kernel⟩, List.mem_of_getElem? (i := 403) (by decide +kernel), List.mem_of_getElem? (i := 847) (by decide +kernel), List.mem_of_getElem? (i := 848) (by decide +kernel)⟩
theorem lw_p15 : lw_okq (⟨"LongStrike$TextReader", "readLine", "()Z"⟩, 8) := ⟨⟨by decide +kernel, by decide +kernel⟩, List.mem_of_getElem? (i := 403) (by decide +kernel), List.mem_of_getElem? (i := 858) (by decide +kernel), List.mem_of_getElem? (i := 859) (by decide +kernel)⟩
def lw_privs_1 : List (MethodName × Nat) := [(⟨"LongStrike$Pit", "waterAfter", "(II)I"⟩, 7), (⟨"LongStrike$Valley", "shareIfDue", "()V"⟩, 19), (⟨"LongStrike$Rules", "holds", "(ILLongStrike$Household;)Z"⟩, 7), (⟨"LongStrike$Valley", "drawByRank", "(II)I"⟩, 19), (⟨"LongStrike$Valley", "liveOn", "(LLongStrike$Household;I)V"⟩, 19), (⟨"LongStrike$Works", "stockAfter", "(IIZ)I"⟩, 5), (⟨"LongStrike", "chooseCold", "(I)I"⟩, 17), (⟨"LongStrike", "chooseBurn", "(I)I"⟩, 17), (⟨"LongStrike", "chooseMiles", "(I)I"⟩, 17), (⟨"LongStrike", "chooseWant", "(II)I"⟩, 17), (⟨"LongStrike$TextReader", "splitTape", "()V"⟩, 8), (⟨"LongStrike$TextReader", "endOfRun", "(ICC)I"⟩, 8), (⟨"LongStrike$TextReader", "wordBetween", "(II)I"⟩, 8), (⟨"LongStrike$TextReader", "isSame", "(III)Z"⟩, 8), (⟨"LongStrike$TextReader", "numberBetween", "(II)I"⟩, 8), (⟨"LongStrike$TextReader", "readLine", "()Z"⟩, 8)]
theorem lw_r1 : ∀ q ∈ lw_privs_1, lw_okq q := List.forall_mem_cons.mpr ⟨lw_p0, List.forall_mem_cons.mpr ⟨lw_p1, List.forall_mem_cons.mpr ⟨lw_p2, List.forall_mem_cons.mpr ⟨lw_p3, List.forall_mem_cons.mpr ⟨lw_p4, List.forall_mem_cons.mpr ⟨lw_p5, List.forall_mem_cons.mpr ⟨lw_p6, List.forall_mem_cons.mpr ⟨lw_p7, List.forall_mem_cons.mpr ⟨lw_p8, List.forall_mem_cons.mpr ⟨lw_p9, List.forall_mem_cons.mpr ⟨lw_p10, List.forall_mem_cons.mpr ⟨lw_p11, List.forall_mem_cons.mpr ⟨lw_p12, List.forall_mem_cons.mpr ⟨lw_p13, List.forall_mem_cons.mpr ⟨lw_p14, List.forall_mem_cons.mpr ⟨lw_p15, fun _ h => absurd h List.not_mem_nil⟩⟩⟩⟩⟩⟩⟩⟩⟩⟩⟩⟩⟩⟩⟩⟩
theorem lw_p16 : lw_okq (⟨"LongStrike$TextReader", "step", "()V"⟩, 8) := ⟨⟨by decide +kernel, by decide +kernel⟩, List.mem_of_getElem? (i := 403) (by decide +kernel), List.mem_of_getElem? (i := 862) (by decide +kernel), List.mem_of_getElem? (i := 863) (by decide +kernel)⟩
theorem lw_p17 : lw_okq (⟨"LongStrike$TextReader", "isNumberUpTo", "(I)Z"⟩, 8) := ⟨⟨by decide +kernel, by decide +kernel⟩, List.mem_of_getElem? (i := 403) (by decide +kernel), List.mem_of_getElem? (i := 866) (by decide +kernel), List.mem_of_getElem? (i := 867) (by decide +kernel)⟩
theorem lw_p18 : lw_okq (⟨"LongStrike$TextReader", "readCond", "(I)Z"⟩, 8) := ⟨⟨by decide +kernel, by decide +kernel⟩, List.mem_of_getElem? (i := 403) (by decide +kernel), List.mem_of_getElem? (i := 877) (by decide +kernel), List.mem_of_getElem? (i := 878) (by decide +kernel)⟩
theorem lw_p19 : lw_okq (⟨"LongStrike$TextReader", "readAll", "(I)Z"⟩, 8) := ⟨⟨by decide +kernel, by decide +kernel⟩, List.mem_of_getElem? (i := 403) (by decide +kernel), List.mem_of_getElem? (i := 881) (by decide +kernel), List.mem_of_getElem? (i := 882) (by decide +kernel)⟩
theorem lw_p20 : lw_okq (⟨"LongStrike$TextReader", "readOne", "(I)Z"⟩, 8) := ⟨⟨by decide +kernel, by decide +kernel⟩, List.mem_of_getElem? (i := 403) (by decide +kernel), List.mem_of_getElem? (i := 885) (by decide +kernel), List.mem_of_getElem? (i := 886) (by decide +kernel)⟩
theorem lw_p21 : lw_okq (⟨"LongStrike$TextReader", "readBrackets", "(I)Z"⟩, 8) := ⟨⟨by decide +kernel, by decide +kernel⟩, List.mem_of_getElem? (i := 403) (by decide +kernel), List.mem_of_getElem? (i := 889) (by decide +kernel), List.mem_of_getElem? (i := 890) (by decide +kernel)⟩
theorem lw_p22 : lw_okq (⟨"LongStrike$TextReader", "readTest", "()Z"⟩, 8) := ⟨⟨by decide +kernel, by decide +kernel⟩, List.mem_of_getElem? (i := 403) (by decide +kernel), List.mem_of_getElem? (i := 893) (by decide +kernel), List.mem_of_getElem? (i := 894) (by decide +kernel)⟩
theorem lw_p23 : lw_okq (⟨"LongStrike$Pickets", "leastFrom", "(II[[I)I"⟩, 7) := ⟨⟨by decide +kernel, by decide +kernel⟩, List.mem_of_getElem? (i := 115) (by decide +kernel), List.mem_of_getElem? (i := 1066) (by decide +kernel), List.mem_of_getElem? (i := 1067) (by decide +kernel)⟩
theorem lw_p24 : lw_okq (⟨"LongStrike$Pickets", "leastIfAt", "(III[[I)I"⟩, 7) := ⟨⟨by decide +kernel, by decide +kernel⟩, List.mem_of_getElem? (i := 115) (by decide +kernel), List.mem_of_getElem? (i := 1070) (by decide +kernel), List.mem_of_getElem? (i := 1071) (by decide +kernel)⟩
theorem lw_p25 : lw_okq (⟨"LongStrike$Pickets", "sendMen", "([[I)V"⟩, 7) := ⟨⟨by decide +kernel, by decide +kernel⟩, List.mem_of_getElem? (i := 115) (by decide +kernel), List.mem_of_getElem? (i := 1079) (by decide +kernel), List.mem_of_getElem? (i := 1080) (by decide +kernel)⟩
theorem lw_p26 : lw_okq (⟨"LongStrike", "tellRows", "()V"⟩, 17) := ⟨⟨by decide +kernel, by decide +kernel⟩, List.mem_of_getElem? (i := 22) (by decide +kernel), List.mem_of_getElem? (i := 1083) (by decide +kernel), List.mem_of_getElem? (i := 1084) (by decide +kernel)⟩
theorem lw_p27 : lw_okq (⟨"LongStrike", "hasRow", "(II)Z"⟩, 17) := ⟨⟨by decide +kernel, by decide +kernel⟩, List.mem_of_getElem? (i := 22) (by decide +kernel), List.mem_of_getElem? (i := 1093) (by decide +kernel), List.mem_of_getElem? (i := 1094) (by decide +kernel)⟩
theorem lw_p28 : lw_okq (⟨"LongStrike", "refuseItems", "(IIII)I"⟩, 17) := ⟨⟨by decide +kernel, by decide +kernel⟩, List.mem_of_getElem? (i := 22) (by decide +kernel), List.mem_of_getElem? (i := 1189) (by decide +kernel), List.mem_of_getElem? (i := 1190) (by decide +kernel)⟩
theorem lw_p29 : lw_okq (⟨"LongStrike", "holdThing", "(IIIZ)I"⟩, 17) := ⟨⟨by decide +kernel, by decide +kernel⟩, List.mem_of_getElem? (i := 22) (by decide +kernel), List.mem_of_getElem? (i := 1205) (by decide +kernel), List.mem_of_getElem? (i := 1206) (by decide +kernel)⟩
theorem lw_p30 : lw_okq (⟨"LongStrike", "holdRow", "(II)I"⟩, 17) := ⟨⟨by decide +kernel, by decide +kernel⟩, List.mem_of_getElem? (i := 22) (by decide +kernel), List.mem_of_getElem? (i := 1209) (by decide +kernel), List.mem_of_getElem? (i := 1210) (by decide +kernel)⟩
theorem lw_p31 : lw_okq (⟨"LongStrike", "isBare", "(I)Z"⟩, 17) := ⟨⟨by decide +kernel, by decide +kernel⟩, List.mem_of_getElem? (i := 22) (by decide +kernel), List.mem_of_getElem? (i := 1217) (by decide +kernel), List.mem_of_getElem? (i := 1218) (by decide +kernel)⟩
def lw_privs_2 : List (MethodName × Nat) := [(⟨"LongStrike$TextReader", "step", "()V"⟩, 8), (⟨"LongStrike$TextReader", "isNumberUpTo", "(I)Z"⟩, 8), (⟨"LongStrike$TextReader", "readCond", "(I)Z"⟩, 8), (⟨"LongStrike$TextReader", "readAll", "(I)Z"⟩, 8), (⟨"LongStrike$TextReader", "readOne", "(I)Z"⟩, 8), (⟨"LongStrike$TextReader", "readBrackets", "(I)Z"⟩, 8), (⟨"LongStrike$TextReader", "readTest", "()Z"⟩, 8), (⟨"LongStrike$Pickets", "leastFrom", "(II[[I)I"⟩, 7), (⟨"LongStrike$Pickets", "leastIfAt", "(III[[I)I"⟩, 7), (⟨"LongStrike$Pickets", "sendMen", "([[I)V"⟩, 7), (⟨"LongStrike", "tellRows", "()V"⟩, 17), (⟨"LongStrike", "hasRow", "(II)Z"⟩, 17), (⟨"LongStrike", "refuseItems", "(IIII)I"⟩, 17), (⟨"LongStrike", "holdThing", "(IIIZ)I"⟩, 17), (⟨"LongStrike", "holdRow", "(II)I"⟩, 17), (⟨"LongStrike", "isBare", "(I)Z"⟩, 17)]
theorem lw_r2 : ∀ q ∈ lw_privs_2, lw_okq q := List.forall_mem_cons.mpr ⟨lw_p16, List.forall_mem_cons.mpr ⟨lw_p17, List.forall_mem_cons.mpr ⟨lw_p18, List.forall_mem_cons.mpr ⟨lw_p19, List.forall_mem_cons.mpr ⟨lw_p20, List.forall_mem_cons.mpr ⟨lw_p21, List.forall_mem_cons.mpr ⟨lw_p22, List.forall_mem_cons.mpr ⟨lw_p23, List.forall_mem_cons.mpr ⟨lw_p24, List.forall_mem_cons.mpr ⟨lw_p25, List.forall_mem_cons.mpr ⟨lw_p26, List.forall_mem_cons.mpr ⟨lw_p27, List.forall_mem_cons.mpr ⟨lw_p28, List.forall_mem_cons.mpr ⟨lw_p29, List.forall_mem_cons.mpr ⟨lw_p30, List.forall_mem_cons.mpr ⟨lw_p31, fun _ h => absurd h List.not_mem_nil⟩⟩⟩⟩⟩⟩⟩⟩⟩⟩⟩⟩⟩⟩⟩⟩
theorem lw_p32 : lw_okq (⟨"LongStrike", "kindOn", "(I)I"⟩, 17) := ⟨⟨by decide +kernel, by decide +kernel⟩, List.mem_of_getElem? (i := 22) (by decide +kernel), List.mem_of_getElem? (i := 1221) (by decide +kernel), List.mem_of_getElem? (i := 1222) (by decide +kernel)⟩
theorem lw_p33 : lw_okq (⟨"LongStrike$Deals", "eats", "(II)I"⟩, 7) := ⟨⟨by decide +kernel, by decide +kernel⟩, List.mem_of_getElem? (i := 439) (by decide +kernel), List.mem_of_getElem? (i := 1247) (by decide +kernel), List.mem_of_getElem? (i := 1248) (by decide +kernel)⟩
theorem lw_p34 : lw_okq (⟨"LongStrike$Deals", "begin", "(I)V"⟩, 7) := ⟨⟨by decide +kernel, by decide +kernel⟩, List.mem_of_getElem? (i := 439) (by decide +kernel), List.mem_of_getElem? (i := 1251) (by decide +kernel), List.mem_of_getElem? (i := 1252) (by decide +kernel)⟩
theorem lw_p35 : lw_okq (⟨"LongStrike$Deals", "owes", "(II)I"⟩, 7) := ⟨⟨by decide +kernel, by decide +kernel⟩, List.mem_of_getElem? (i := 439) (by decide +kernel), List.mem_of_getElem? (i := 1255) (by decide +kernel), List.mem_of_getElem? (i := 1256) (by decide +kernel)⟩
theorem lw_p36 : lw_okq (⟨"LongStrike$Deals", "votes", "(II)I"⟩, 7) := ⟨⟨by decide +kernel, by decide +kernel⟩, List.mem_of_getElem? (i := 439) (by decide +kernel), List.mem_of_getElem? (i := 1259) (by decide +kernel), List.mem_of_getElem? (i := 1260) (by decide +kernel)⟩
theorem lw_p37 : lw_okq (⟨"LongStrike$Deals", "parts", "(II)I"⟩, 7) := ⟨⟨by decide +kernel, by decide +kernel⟩, List.mem_of_getElem? (i := 439) (by decide +kernel), List.mem_of_getElem? (i := 1263) (by decide +kernel), List.mem_of_getElem? (i := 1264) (by decide +kernel)⟩
theorem lw_p38 : lw_okq (⟨"LongStrike$Deals", "quotient", "(II)I"⟩, 7) := ⟨⟨by decide +kernel, by decide +kernel⟩, List.mem_of_getElem? (i := 439) (by decide +kernel), List.mem_of_getElem? (i := 1267) (by decide +kernel), List.mem_of_getElem? (i := 1268) (by decide +kernel)⟩
theorem lw_p39 : lw_okq (⟨"LongStrikeModel", "is", "(II)Z"⟩, 39) := ⟨⟨by decide +kernel, by decide +kernel⟩, List.mem_of_getElem? (i := 1288) (by decide +kernel), List.mem_of_getElem? (i := 1420) (by decide +kernel), List.mem_of_getElem? (i := 1421) (by decide +kernel)⟩
theorem lw_p40 : lw_okq (⟨"LongStrikeModel", "roadOf", "(II)I"⟩, 39) := ⟨⟨by decide +kernel, by decide +kernel⟩, List.mem_of_getElem? (i := 1288) (by decide +kernel), List.mem_of_getElem? (i := 1427) (by decide +kernel), List.mem_of_getElem? (i := 1428) (by decide +kernel)⟩
theorem lw_p41 : lw_okq (⟨"LongStrikeModel", "house", "(II)I"⟩, 39) := ⟨⟨by decide +kernel, by decide +kernel⟩, List.mem_of_getElem? (i := 1288) (by decide +kernel), List.mem_of_getElem? (i := 1453) (by decide +kernel), List.mem_of_getElem? (i := 1454) (by decide +kernel)⟩
theorem lw_p42 : lw_okq (⟨"LongStrikeModel", "ticket", "(I)I"⟩, 39) := ⟨⟨by decide +kernel, by decide +kernel⟩, List.mem_of_getElem? (i := 1288) (by decide +kernel), List.mem_of_getElem? (i := 1457) (by decide +kernel), List.mem_of_getElem? (i := 1458) (by decide +kernel)⟩
theorem lw_p43 : lw_okq (⟨"LongStrikeModel", "firstOf", "(III)I"⟩, 39) := ⟨⟨by decide +kernel, by decide +kernel⟩, List.mem_of_getElem? (i := 1288) (by decide +kernel), List.mem_of_getElem? (i := 1461) (by decide +kernel), List.mem_of_getElem? (i := 1462) (by decide +kernel)⟩
theorem lw_p44 : lw_okq (⟨"LongStrikeModel", "lineOf", "(III)I"⟩, 39) := ⟨⟨by decide +kernel, by decide +kernel⟩, List.mem_of_getElem? (i := 1288) (by decide +kernel), List.mem_of_getElem? (i := 1465) (by decide +kernel), List.mem_of_getElem? (i := 1466) (by decide +kernel)⟩
theorem lw_p45 : lw_okq (⟨"LongStrikeModel", "holds", "(III)Z"⟩, 39) := ⟨⟨by decide +kernel, by decide +kernel⟩, List.mem_of_getElem? (i := 1288) (by decide +kernel), List.mem_of_getElem? (i := 1469) (by decide +kernel), List.mem_of_getElem? (i := 1470) (by decide +kernel)⟩
theorem lw_p46 : lw_okq (⟨"LongStrikeModel", "rank", "(I)I"⟩, 39) := ⟨⟨by decide +kernel, by decide +kernel⟩, List.mem_of_getElem? (i := 1288) (by decide +kernel), List.mem_of_getElem? (i := 1476) (by decide +kernel), List.mem_of_getElem? (i := 1477) (by decide +kernel)⟩
theorem lw_p47 : lw_okq (⟨"LongStrikeModel", "relief", "(I)I"⟩, 39) := ⟨⟨by decide +kernel, by decide +kernel⟩, List.mem_of_getElem? (i := 1288) (by decide +kernel), List.mem_of_getElem? (i := 1480) (by decide +kernel), List.mem_of_getElem? (i := 1481) (by decide +kernel)⟩
def lw_privs_3 : List (MethodName × Nat) := [(⟨"LongStrike", "kindOn", "(I)I"⟩, 17), (⟨"LongStrike$Deals", "eats", "(II)I"⟩, 7), (⟨"LongStrike$Deals", "begin", "(I)V"⟩, 7), (⟨"LongStrike$Deals", "owes", "(II)I"⟩, 7), (⟨"LongStrike$Deals", "votes", "(II)I"⟩, 7), (⟨"LongStrike$Deals", "parts", "(II)I"⟩, 7), (⟨"LongStrike$Deals", "quotient", "(II)I"⟩, 7), (⟨"LongStrikeModel", "is", "(II)Z"⟩, 39), (⟨"LongStrikeModel", "roadOf", "(II)I"⟩, 39), (⟨"LongStrikeModel", "house", "(II)I"⟩, 39), (⟨"LongStrikeModel", "ticket", "(I)I"⟩, 39), (⟨"LongStrikeModel", "firstOf", "(III)I"⟩, 39), (⟨"LongStrikeModel", "lineOf", "(III)I"⟩, 39), (⟨"LongStrikeModel", "holds", "(III)Z"⟩, 39), (⟨"LongStrikeModel", "rank", "(I)I"⟩, 39), (⟨"LongStrikeModel", "relief", "(I)I"⟩, 39)]
theorem lw_r3 : ∀ q ∈ lw_privs_3, lw_okq q := List.forall_mem_cons.mpr ⟨lw_p32, List.forall_mem_cons.mpr ⟨lw_p33, List.forall_mem_cons.mpr ⟨lw_p34, List.forall_mem_cons.mpr ⟨lw_p35, List.forall_mem_cons.mpr ⟨lw_p36, List.forall_mem_cons.mpr ⟨lw_p37, List.forall_mem_cons.mpr ⟨lw_p38, List.forall_mem_cons.mpr ⟨lw_p39, List.forall_mem_cons.mpr ⟨lw_p40, List.forall_mem_cons.mpr ⟨lw_p41, List.forall_mem_cons.mpr ⟨lw_p42, List.forall_mem_cons.mpr ⟨lw_p43, List.forall_mem_cons.mpr ⟨lw_p44, List.forall_mem_cons.mpr ⟨lw_p45, List.forall_mem_cons.mpr ⟨lw_p46, List.forall_mem_cons.mpr ⟨lw_p47, fun _ h => absurd h List.not_mem_nil⟩⟩⟩⟩⟩⟩⟩⟩⟩⟩⟩⟩⟩⟩⟩⟩
theorem lw_p48 : lw_okq (⟨"LongStrikeModel", "mayVote", "(I)Z"⟩, 39) := ⟨⟨by decide +kernel, by decide +kernel⟩, List.mem_of_getElem? (i := 1288) (by decide +kernel), List.mem_of_getElem? (i := 1484) (by decide +kernel), List.mem_of_getElem? (i := 1485) (by decide +kernel)⟩
theorem lw_p49 : lw_okq (⟨"LongStrikeModel", "waterBehind", "(II)I"⟩, 39) := ⟨⟨by decide +kernel, by decide +kernel⟩, List.mem_of_getElem? (i := 1288) (by decide +kernel), List.mem_of_getElem? (i := 1492) (by decide +kernel), List.mem_of_getElem? (i := 1493) (by decide +kernel)⟩
theorem lw_p50 : lw_okq (⟨"LongStrikeModel", "ruled", "(I)I"⟩, 39) := ⟨⟨by decide +kernel, by decide +kernel⟩, List.mem_of_getElem? (i := 1288) (by decide +kernel), List.mem_of_getElem? (i := 1496) (by decide +kernel), List.mem_of_getElem? (i := 1497) (by decide +kernel)⟩
theorem lw_p51 : lw_okq (⟨"LongStrikeModel", "firstNumber", "(III)I"⟩, 39) := ⟨⟨by decide +kernel, by decide +kernel⟩, List.mem_of_getElem? (i := 1288) (by decide +kernel), List.mem_of_getElem? (i := 1500) (by decide +kernel), List.mem_of_getElem? (i := 1501) (by decide +kernel)⟩
theorem lw_p52 : lw_okq (⟨"LongStrikeModel", "next", "()V"⟩, 39) := ⟨⟨by decide +kernel, by decide +kernel⟩, List.mem_of_getElem? (i := 1288) (by decide +kernel), List.mem_of_getElem? (i := 1532) (by decide +kernel), List.mem_of_getElem? (i := 1533) (by decide +kernel)⟩
theorem lw_p53 : lw_okq (⟨"LongStrikeModel", "isIn", "(III)Z"⟩, 39) := ⟨⟨by decide +kernel, by decide +kernel⟩, List.mem_of_getElem? (i := 1288) (by decide +kernel), List.mem_of_getElem? (i := 1536) (by decide +kernel), List.mem_of_getElem? (i := 1537) (by decide +kernel)⟩
theorem lw_p54 : lw_okq (⟨"LongStrikeModel", "lineAt", "(I)V"⟩, 39) := ⟨⟨by decide +kernel, by decide +kernel⟩, List.mem_of_getElem? (i := 1288) (by decide +kernel), List.mem_of_getElem? (i := 1540) (by decide +kernel), List.mem_of_getElem? (i := 1541) (by decide +kernel)⟩
theorem lw_p55 : lw_okq (⟨"LongStrikeModel", "isName", "(Ljava/lang/String;)Z"⟩, 39) := ⟨⟨by decide +kernel, by decide +kernel⟩, List.mem_of_getElem? (i := 1288) (by decide +kernel), List.mem_of_getElem? (i := 1546) (by decide +kernel), List.mem_of_getElem? (i := 1547) (by decide +kernel)⟩
theorem lw_p56 : lw_okq (⟨"LongStrikeModel", "need", "(Z)V"⟩, 39) := ⟨⟨by decide +kernel, by decide +kernel⟩, List.mem_of_getElem? (i := 1288) (by decide +kernel), List.mem_of_getElem? (i := 1552) (by decide +kernel), List.mem_of_getElem? (i := 1553) (by decide +kernel)⟩
theorem lw_p57 : lw_okq (⟨"LongStrikeModel", "number", "(I)I"⟩, 39) := ⟨⟨by decide +kernel, by decide +kernel⟩, List.mem_of_getElem? (i := 1288) (by decide +kernel), List.mem_of_getElem? (i := 1556) (by decide +kernel), List.mem_of_getElem? (i := 1557) (by decide +kernel)⟩
theorem lw_p58 : lw_okq (⟨"LongStrikeModel", "either", "()V"⟩, 39) := ⟨⟨by decide +kernel, by decide +kernel⟩, List.mem_of_getElem? (i := 1288) (by decide +kernel), List.mem_of_getElem? (i := 1561) (by decide +kernel), List.mem_of_getElem? (i := 1562) (by decide +kernel)⟩
theorem lw_p59 : lw_okq (⟨"LongStrikeModel", "all", "()V"⟩, 39) := ⟨⟨by decide +kernel, by decide +kernel⟩, List.mem_of_getElem? (i := 1288) (by decide +kernel), List.mem_of_getElem? (i := 1565) (by decide +kernel), List.mem_of_getElem? (i := 1566) (by decide +kernel)⟩
theorem lw_p60 : lw_okq (⟨"LongStrikeModel", "one", "()V"⟩, 39) := ⟨⟨by decide +kernel, by decide +kernel⟩, List.mem_of_getElem? (i := 1288) (by decide +kernel), List.mem_of_getElem? (i := 1569) (by decide +kernel), List.mem_of_getElem? (i := 1570) (by decide +kernel)⟩
theorem lw_p61 : lw_okq (⟨"LongStrikeModel", "isSign", "(I)Z"⟩, 39) := ⟨⟨by decide +kernel, by decide +kernel⟩, List.mem_of_getElem? (i := 1288) (by decide +kernel), List.mem_of_getElem? (i := 1574) (by decide +kernel), List.mem_of_getElem? (i := 1575) (by decide +kernel)⟩
theorem lw_p62 : lw_okq (⟨"LongStrikeModel", "codes", "(I)V"⟩, 39) := ⟨⟨by decide +kernel, by decide +kernel⟩, List.mem_of_getElem? (i := 1288) (by decide +kernel), List.mem_of_getElem? (i := 1580) (by decide +kernel), List.mem_of_getElem? (i := 1581) (by decide +kernel)⟩
theorem lw_p63 : lw_okq (⟨"LongStrikeModel", "pitsGo", "()V"⟩, 39) := ⟨⟨by decide +kernel, by decide +kernel⟩, List.mem_of_getElem? (i := 1288) (by decide +kernel), List.mem_of_getElem? (i := 1602) (by decide +kernel), List.mem_of_getElem? (i := 1603) (by decide +kernel)⟩
def lw_privs_4 : List (MethodName × Nat) := [(⟨"LongStrikeModel", "mayVote", "(I)Z"⟩, 39), (⟨"LongStrikeModel", "waterBehind", "(II)I"⟩, 39), (⟨"LongStrikeModel", "ruled", "(I)I"⟩, 39), (⟨"LongStrikeModel", "firstNumber", "(III)I"⟩, 39), (⟨"LongStrikeModel", "next", "()V"⟩, 39), (⟨"LongStrikeModel", "isIn", "(III)Z"⟩, 39), (⟨"LongStrikeModel", "lineAt", "(I)V"⟩, 39), (⟨"LongStrikeModel", "isName", "(Ljava/lang/String;)Z"⟩, 39), (⟨"LongStrikeModel", "need", "(Z)V"⟩, 39), (⟨"LongStrikeModel", "number", "(I)I"⟩, 39), (⟨"LongStrikeModel", "either", "()V"⟩, 39), (⟨"LongStrikeModel", "all", "()V"⟩, 39), (⟨"LongStrikeModel", "one", "()V"⟩, 39), (⟨"LongStrikeModel", "isSign", "(I)Z"⟩, 39), (⟨"LongStrikeModel", "codes", "(I)V"⟩, 39), (⟨"LongStrikeModel", "pitsGo", "()V"⟩, 39)]
theorem lw_r4 : ∀ q ∈ lw_privs_4, lw_okq q := List.forall_mem_cons.mpr ⟨lw_p48, List.forall_mem_cons.mpr ⟨lw_p49, List.forall_mem_cons.mpr ⟨lw_p50, List.forall_mem_cons.mpr ⟨lw_p51, List.forall_mem_cons.mpr ⟨lw_p52, List.forall_mem_cons.mpr ⟨lw_p53, List.forall_mem_cons.mpr ⟨lw_p54, List.forall_mem_cons.mpr ⟨lw_p55, List.forall_mem_cons.mpr ⟨lw_p56, List.forall_mem_cons.mpr ⟨lw_p57, List.forall_mem_cons.mpr ⟨lw_p58, List.forall_mem_cons.mpr ⟨lw_p59, List.forall_mem_cons.mpr ⟨lw_p60, List.forall_mem_cons.mpr ⟨lw_p61, List.forall_mem_cons.mpr ⟨lw_p62, List.forall_mem_cons.mpr ⟨lw_p63, fun _ h => absurd h List.not_mem_nil⟩⟩⟩⟩⟩⟩⟩⟩⟩⟩⟩⟩⟩⟩⟩⟩
theorem lw_p64 : lw_okq (⟨"LongStrikeModel", "valleyGoes", "(Z)V"⟩, 39) := ⟨⟨by decide +kernel, by decide +kernel⟩, List.mem_of_getElem? (i := 1288) (by decide +kernel), List.mem_of_getElem? (i := 1606) (by decide +kernel), List.mem_of_getElem? (i := 1607) (by decide +kernel)⟩
theorem lw_p65 : lw_okq (⟨"LongStrikeModel", "share", "()V"⟩, 39) := ⟨⟨by decide +kernel, by decide +kernel⟩, List.mem_of_getElem? (i := 1288) (by decide +kernel), List.mem_of_getElem? (i := 1610) (by decide +kernel), List.mem_of_getElem? (i := 1611) (by decide +kernel)⟩
theorem lw_p66 : lw_okq (⟨"LongStrikeModel", "findDraws", "()V"⟩, 39) := ⟨⟨by decide +kernel, by decide +kernel⟩, List.mem_of_getElem? (i := 1288) (by decide +kernel), List.mem_of_getElem? (i := 1614) (by decide +kernel), List.mem_of_getElem? (i := 1615) (by decide +kernel)⟩
theorem lw_p67 : lw_okq (⟨"LongStrikeModel", "eats", "(IZ)V"⟩, 39) := ⟨⟨by decide +kernel, by decide +kernel⟩, List.mem_of_getElem? (i := 1288) (by decide +kernel), List.mem_of_getElem? (i := 1618) (by decide +kernel), List.mem_of_getElem? (i := 1619) (by decide +kernel)⟩
theorem lw_p68 : lw_okq (⟨"LongStrikeModel", "lent", "(II)I"⟩, 39) := ⟨⟨by decide +kernel, by decide +kernel⟩, List.mem_of_getElem? (i := 1288) (by decide +kernel), List.mem_of_getElem? (i := 1622) (by decide +kernel), List.mem_of_getElem? (i := 1623) (by decide +kernel)⟩
theorem lw_p69 : lw_okq (⟨"LongStrikeModel", "heardNow", "(I)I"⟩, 39) := ⟨⟨by decide +kernel, by decide +kernel⟩, List.mem_of_getElem? (i := 1288) (by decide +kernel), List.mem_of_getElem? (i := 1626) (by decide +kernel), List.mem_of_getElem? (i := 1627) (by decide +kernel)⟩
theorem lw_p70 : lw_okq (⟨"LongStrikeModel", "wayOfNews", "(II)I"⟩, 39) := ⟨⟨by decide +kernel, by decide +kernel⟩, List.mem_of_getElem? (i := 1288) (by decide +kernel), List.mem_of_getElem? (i := 1630) (by decide +kernel), List.mem_of_getElem? (i := 1631) (by decide +kernel)⟩
theorem lw_p71 : lw_okq (⟨"LongStrikeModel", "worksGo", "(Z)V"⟩, 39) := ⟨⟨by decide +kernel, by decide +kernel⟩, List.mem_of_getElem? (i := 1288) (by decide +kernel), List.mem_of_getElem? (i := 1634) (by decide +kernel), List.mem_of_getElem? (i := 1635) (by decide +kernel)⟩
theorem lw_p72 : lw_okq (⟨"LongStrikeModel", "isGone", "(I)Z"⟩, 39) := ⟨⟨by decide +kernel, by decide +kernel⟩, List.mem_of_getElem? (i := 1288) (by decide +kernel), List.mem_of_getElem? (i := 1654) (by decide +kernel), List.mem_of_getElem? (i := 1655) (by decide +kernel)⟩
theorem lw_p73 : lw_okq (⟨"LongStrikeModel", "valleyLasts", "()I"⟩, 39) := ⟨⟨by decide +kernel, by decide +kernel⟩, List.mem_of_getElem? (i := 1288) (by decide +kernel), List.mem_of_getElem? (i := 1674) (by decide +kernel), List.mem_of_getElem? (i := 1675) (by decide +kernel)⟩
theorem lw_p74 : lw_okq (⟨"LongStrikeModel", "gaveIn", "()Z"⟩, 39) := ⟨⟨by decide +kernel, by decide +kernel⟩, List.mem_of_getElem? (i := 1288) (by decide +kernel), List.mem_of_getElem? (i := 1678) (by decide +kernel), List.mem_of_getElem? (i := 1679) (by decide +kernel)⟩
theorem lw_p75 : lw_okq (⟨"LongStrikeModel", "companyLasts", "(Z)I"⟩, 39) := ⟨⟨by decide +kernel, by decide +kernel⟩, List.mem_of_getElem? (i := 1288) (by decide +kernel), List.mem_of_getElem? (i := 1682) (by decide +kernel), List.mem_of_getElem? (i := 1683) (by decide +kernel)⟩
theorem lw_p76 : lw_okq (⟨"LongStrikeModel", "findWatch", "()V"⟩, 39) := ⟨⟨by decide +kernel, by decide +kernel⟩, List.mem_of_getElem? (i := 1288) (by decide +kernel), List.mem_of_getElem? (i := 1694) (by decide +kernel), List.mem_of_getElem? (i := 1695) (by decide +kernel)⟩
theorem lw_p77 : lw_okq (⟨"LongStrikeModel", "walk", "(II)I"⟩, 39) := ⟨⟨by decide +kernel, by decide +kernel⟩, List.mem_of_getElem? (i := 1288) (by decide +kernel), List.mem_of_getElem? (i := 1699) (by decide +kernel), List.mem_of_getElem? (i := 1700) (by decide +kernel)⟩
theorem lw_p78 : lw_okq (⟨"LongStrikeModel", "isRow", "(II)Z"⟩, 39) := ⟨⟨by decide +kernel, by decide +kernel⟩, List.mem_of_getElem? (i := 1288) (by decide +kernel), List.mem_of_getElem? (i := 1707) (by decide +kernel), List.mem_of_getElem? (i := 1708) (by decide +kernel)⟩
theorem lw_p79 : lw_okq (⟨"LongStrikeModel", "contentBy", "(I)I"⟩, 39) := ⟨⟨by decide +kernel, by decide +kernel⟩, List.mem_of_getElem? (i := 1288) (by decide +kernel), List.mem_of_getElem? (i := 1735) (by decide +kernel), List.mem_of_getElem? (i := 1736) (by decide +kernel)⟩
def lw_privs_5 : List (MethodName × Nat) := [(⟨"LongStrikeModel", "valleyGoes", "(Z)V"⟩, 39), (⟨"LongStrikeModel", "share", "()V"⟩, 39), (⟨"LongStrikeModel", "findDraws", "()V"⟩, 39), (⟨"LongStrikeModel", "eats", "(IZ)V"⟩, 39), (⟨"LongStrikeModel", "lent", "(II)I"⟩, 39), (⟨"LongStrikeModel", "heardNow", "(I)I"⟩, 39), (⟨"LongStrikeModel", "wayOfNews", "(II)I"⟩, 39), (⟨"LongStrikeModel", "worksGo", "(Z)V"⟩, 39), (⟨"LongStrikeModel", "isGone", "(I)Z"⟩, 39), (⟨"LongStrikeModel", "valleyLasts", "()I"⟩, 39), (⟨"LongStrikeModel", "gaveIn", "()Z"⟩, 39), (⟨"LongStrikeModel", "companyLasts", "(Z)I"⟩, 39), (⟨"LongStrikeModel", "findWatch", "()V"⟩, 39), (⟨"LongStrikeModel", "walk", "(II)I"⟩, 39), (⟨"LongStrikeModel", "isRow", "(II)Z"⟩, 39), (⟨"LongStrikeModel", "contentBy", "(I)I"⟩, 39)]
theorem lw_r5 : ∀ q ∈ lw_privs_5, lw_okq q := List.forall_mem_cons.mpr ⟨lw_p64, List.forall_mem_cons.mpr ⟨lw_p65, List.forall_mem_cons.mpr ⟨lw_p66, List.forall_mem_cons.mpr ⟨lw_p67, List.forall_mem_cons.mpr ⟨lw_p68, List.forall_mem_cons.mpr ⟨lw_p69, List.forall_mem_cons.mpr ⟨lw_p70, List.forall_mem_cons.mpr ⟨lw_p71, List.forall_mem_cons.mpr ⟨lw_p72, List.forall_mem_cons.mpr ⟨lw_p73, List.forall_mem_cons.mpr ⟨lw_p74, List.forall_mem_cons.mpr ⟨lw_p75, List.forall_mem_cons.mpr ⟨lw_p76, List.forall_mem_cons.mpr ⟨lw_p77, List.forall_mem_cons.mpr ⟨lw_p78, List.forall_mem_cons.mpr ⟨lw_p79, fun _ h => absurd h List.not_mem_nil⟩⟩⟩⟩⟩⟩⟩⟩⟩⟩⟩⟩⟩⟩⟩⟩
theorem lw_p80 : lw_okq (⟨"LongStrikeModel", "sumOf", "(II)I"⟩, 39) := ⟨⟨by decide +kernel, by decide +kernel⟩, List.mem_of_getElem? (i := 1288) (by decide +kernel), List.mem_of_getElem? (i := 1739) (by decide +kernel), List.mem_of_getElem? (i := 1740) (by decide +kernel)⟩
theorem lw_p81 : lw_okq (⟨"LongStrikeModel", "say", "(IZ)I"⟩, 39) := ⟨⟨by decide +kernel, by decide +kernel⟩, List.mem_of_getElem? (i := 1288) (by decide +kernel), List.mem_of_getElem? (i := 1743) (by decide +kernel), List.mem_of_getElem? (i := 1744) (by decide +kernel)⟩
theorem lw_p82 : lw_okq (⟨"LongStrikeModel", "isCarried", "(I)Z"⟩, 39) := ⟨⟨by decide +kernel, by decide +kernel⟩, List.mem_of_getElem? (i := 1288) (by decide +kernel), List.mem_of_getElem? (i := 1747) (by decide +kernel), List.mem_of_getElem? (i := 1748) (by decide +kernel)⟩
theorem lw_p83 : lw_okq (⟨"LongStrikeModel", "notThere", "(IIII)I"⟩, 39) := ⟨⟨by decide +kernel, by decide +kernel⟩, List.mem_of_getElem? (i := 1288) (by decide +kernel), List.mem_of_getElem? (i := 1770) (by decide +kernel), List.mem_of_getElem? (i := 1771) (by decide +kernel)⟩
theorem lw_p84 : lw_okq (⟨"LongStrikeModel", "kindOn", "(I)I"⟩, 39) := ⟨⟨by decide +kernel, by decide +kernel⟩, List.mem_of_getElem? (i := 1288) (by decide +kernel), List.mem_of_getElem? (i := 1787) (by decide +kernel), List.mem_of_getElem? (i := 1788) (by decide +kernel)⟩
theorem lw_p85 : lw_okq (⟨"LongStrikeModel", "dealt", "(II)I"⟩, 39) := ⟨⟨by decide +kernel, by decide +kernel⟩, List.mem_of_getElem? (i := 1288) (by decide +kernel), List.mem_of_getElem? (i := 1798) (by decide +kernel), List.mem_of_getElem? (i := 1799) (by decide +kernel)⟩
theorem lw_p86 : lw_okq (⟨"LongStrikeModel", "bodyFrom", "(III)I"⟩, 39) := ⟨⟨by decide +kernel, by decide +kernel⟩, List.mem_of_getElem? (i := 1288) (by decide +kernel), List.mem_of_getElem? (i := 1802) (by decide +kernel), List.mem_of_getElem? (i := 1803) (by decide +kernel)⟩
theorem lw_p87 : lw_okq (⟨"LongStrikeModel", "body", "(III)I"⟩, 39) := ⟨⟨by decide +kernel, by decide +kernel⟩, List.mem_of_getElem? (i := 1288) (by decide +kernel), List.mem_of_getElem? (i := 1809) (by decide +kernel), List.mem_of_getElem? (i := 1810) (by decide +kernel)⟩
theorem lw_p88 : lw_okq (⟨"LongStrikeModel", "began", "(I)V"⟩, 39) := ⟨⟨by decide +kernel, by decide +kernel⟩, List.mem_of_getElem? (i := 1288) (by decide +kernel), List.mem_of_getElem? (i := 1813) (by decide +kernel), List.mem_of_getElem? (i := 1814) (by decide +kernel)⟩
def lw_privs_6 : List (MethodName × Nat) := [(⟨"LongStrikeModel", "sumOf", "(II)I"⟩, 39), (⟨"LongStrikeModel", "say", "(IZ)I"⟩, 39), (⟨"LongStrikeModel", "isCarried", "(I)Z"⟩, 39), (⟨"LongStrikeModel", "notThere", "(IIII)I"⟩, 39), (⟨"LongStrikeModel", "kindOn", "(I)I"⟩, 39), (⟨"LongStrikeModel", "dealt", "(II)I"⟩, 39), (⟨"LongStrikeModel", "bodyFrom", "(III)I"⟩, 39), (⟨"LongStrikeModel", "body", "(III)I"⟩, 39), (⟨"LongStrikeModel", "began", "(I)V"⟩, 39)]
theorem lw_r6 : ∀ q ∈ lw_privs_6, lw_okq q := List.forall_mem_cons.mpr ⟨lw_p80, List.forall_mem_cons.mpr ⟨lw_p81, List.forall_mem_cons.mpr ⟨lw_p82, List.forall_mem_cons.mpr ⟨lw_p83, List.forall_mem_cons.mpr ⟨lw_p84, List.forall_mem_cons.mpr ⟨lw_p85, List.forall_mem_cons.mpr ⟨lw_p86, List.forall_mem_cons.mpr ⟨lw_p87, List.forall_mem_cons.mpr ⟨lw_p88, fun _ h => absurd h List.not_mem_nil⟩⟩⟩⟩⟩⟩⟩⟩⟩
def lw_privs : List (MethodName × Nat) := lw_privs_1 ++ (lw_privs_2 ++ (lw_privs_3 ++ (lw_privs_4 ++ (lw_privs_5 ++ (lw_privs_6)))))
def lw_tbl : List Cond := k2_sels lw_privs ++ tables_1
theorem lw_privs_ok : ∀ q ∈ lw_privs, lw_okq q := by
  show ∀ q ∈ lw_privs_1 ++ (lw_privs_2 ++ (lw_privs_3 ++ (lw_privs_4 ++ (lw_privs_5 ++ (lw_privs_6))))), lw_okq q
  exact List.forall_mem_append.mpr ⟨lw_r1, List.forall_mem_append.mpr ⟨lw_r2, List.forall_mem_append.mpr ⟨lw_r3, List.forall_mem_append.mpr ⟨lw_r4, List.forall_mem_append.mpr ⟨lw_r5, lw_r6⟩⟩⟩⟩⟩
def RX0 : String := "LongStrike$Deals"
def TX0 : u_T := fun k => match k with
  | 0 => ("LongStrike$Deals", "bodies", "[I", true)
  | 1 => ("LongStrike$Deals", "bodyCount", "I", false)
  | 2 => ("LongStrike$Deals", "kind", "I", false)
  | 3 => ("LongStrike$Deals", "number", "I", false)
  | 4 => ("LongStrike$Deals", "village", "I", false)
  | 5 => ("LongStrike$Deals", "measure", "I", false)
  | _ => ("LongStrike$Deals", "isParted", "Z", false)
def tyX0 : Nat → FieldType := fun k => match k with
  | 0 => .array .int
  | 1 => .int
  | 2 => .int
  | 3 => .int
  | 4 => .int
  | 5 => .int
  | _ => .boolean
abbrev wsX00 : List Cond := u_ws RX0 TX0 7
theorem nmX0 : ∀ a, a < 7 → ∀ b, b < 7 → a ≠ b → (TX0 a).2.1 ≠ (TX0 b).2.1 := by decide +kernel
theorem tyX0_ok : ∀ k, k < 7 → parseFieldDescriptor (TX0 k).2.2.1 = some (tyX0 k) := by decide +kernel
abbrev cX0_init : ByteArray := prog_2_method_1_code
def yX0_init : MethodName := ⟨RX0, "<init>", "()V"⟩
abbrev cX0_isOrIsUnder : ByteArray := prog_2_method_2_code
def yX0_isOrIsUnder : MethodName := ⟨RX0, "isOrIsUnder", "(II)Z"⟩
abbrev cX0_kindAbove : ByteArray := prog_2_method_3_code
def yX0_kindAbove : MethodName := ⟨RX0, "kindAbove", "(I)I"⟩
abbrev cX0_forget : ByteArray := prog_2_method_4_code
def yX0_forget : MethodName := ⟨RX0, "forget", "()V"⟩
abbrev cX0_meet : ByteArray := prog_2_method_5_code
def yX0_meet : MethodName := ⟨RX0, "meet", "(IIII)V"⟩
abbrev cX0_run : ByteArray := prog_2_method_6_code
def yX0_run : MethodName := ⟨RX0, "run", "(II)I"⟩
abbrev cX0_begin : ByteArray := prog_2_method_7_code
def yX0_begin : MethodName := ⟨RX0, "begin", "(I)V"⟩
abbrev cX0_eats : ByteArray := prog_2_method_8_code
def yX0_eats : MethodName := ⟨RX0, "eats", "(II)I"⟩
abbrev cX0_owes : ByteArray := prog_2_method_9_code
def yX0_owes : MethodName := ⟨RX0, "owes", "(II)I"⟩
abbrev cX0_votes : ByteArray := prog_2_method_10_code
def yX0_votes : MethodName := ⟨RX0, "votes", "(II)I"⟩
abbrev cX0_parts : ByteArray := prog_2_method_11_code
def yX0_parts : MethodName := ⟨RX0, "parts", "(II)I"⟩
abbrev cX0_quotient : ByteArray := prog_2_method_12_code
def yX0_quotient : MethodName := ⟨RX0, "quotient", "(II)I"⟩
def RX1 : String := "LongStrike$Household"
def TX1 : u_T := fun k => match k with
  | 0 => ("LongStrike$Household", "village", "I", false)
  | 1 => ("LongStrike$Household", "pit", "I", false)
  | 2 => ("LongStrike$Household", "mouths", "I", false)
  | 3 => ("LongStrike$Household", "garden", "I", false)
  | 4 => ("LongStrike$Household", "coal", "I", false)
  | 5 => ("LongStrike$Household", "will", "I", false)
  | 6 => ("LongStrike$Household", "larder", "I", false)
  | 7 => ("LongStrike$Household", "owes", "I", false)
  | 8 => ("LongStrike$Household", "hungryDays", "I", false)
  | 9 => ("LongStrike$Household", "coldDays", "I", false)
  | 10 => ("LongStrike$Household", "isBack", "Z", false)
  | _ => ("LongStrike$Household", "isEvicted", "Z", false)
def tyX1 : Nat → FieldType := fun k => match k with
  | 0 => .int
  | 1 => .int
  | 2 => .int
  | 3 => .int
  | 4 => .int
  | 5 => .int
  | 6 => .int
  | 7 => .int
  | 8 => .int
  | 9 => .int
  | 10 => .boolean
  | _ => .boolean
abbrev wsX10 : List Cond := u_ws RX1 TX1 12
theorem nmX1 : ∀ a, a < 12 → ∀ b, b < 12 → a ≠ b → (TX1 a).2.1 ≠ (TX1 b).2.1 := by decide +kernel
theorem tyX1_ok : ∀ k, k < 12 → parseFieldDescriptor (TX1 k).2.2.1 = some (tyX1 k) := by decide +kernel
abbrev cX1_init : ByteArray := prog_3_method_1_code
def yX1_init : MethodName := ⟨RX1, "<init>", "()V"⟩
abbrev cX1_settle : ByteArray := prog_3_method_2_code
def yX1_settle : MethodName := ⟨RX1, "settle", "(IIIII)V"⟩
abbrev cX1_takeFrom : ByteArray := prog_3_method_3_code
def yX1_takeFrom : MethodName := ⟨RX1, "takeFrom", "(LLongStrike$Household;)V"⟩
abbrev cX1_fact : ByteArray := prog_3_method_4_code
def yX1_fact : MethodName := ⟨RX1, "fact", "(I)I"⟩
abbrev cX1_leaveHome : ByteArray := prog_3_method_5_code
def yX1_leaveHome : MethodName := ⟨RX1, "leaveHome", "()V"⟩
abbrev cX1_eatOwn : ByteArray := prog_3_method_6_code
def yX1_eatOwn : MethodName := ⟨RX1, "eatOwn", "()I"⟩
abbrev cX1_endDay : ByteArray := prog_3_method_7_code
def yX1_endDay : MethodName := ⟨RX1, "endDay", "(ZZI)V"⟩
def RX2 : String := "LongStrike$Offers"
def TX2 : u_T := fun k => match k with
  | 0 => ("LongStrike$Offers", "count", "I", false)
  | 1 => ("LongStrike$Offers", "costs", "[I", true)
  | 2 => ("LongStrike$Offers", "worths", "[[I", true)
  | 3 => ("LongStrike$Offers", "always", "I", false)
  | 4 => ("LongStrike$Offers", "never", "I", false)
  | _ => ("LongStrike$Offers", "withPit", "[I", true)
def tyX2 : Nat → FieldType := fun k => match k with
  | 0 => .int
  | 1 => .array .int
  | 2 => .array (.array .int)
  | 3 => .int
  | 4 => .int
  | _ => .array .int
abbrev wsX20 : List Cond := u_ws RX2 TX2 6
theorem nmX2 : ∀ a, a < 6 → ∀ b, b < 6 → a ≠ b → (TX2 a).2.1 ≠ (TX2 b).2.1 := by decide +kernel
theorem tyX2_ok : ∀ k, k < 6 → parseFieldDescriptor (TX2 k).2.2.1 = some (tyX2 k) := by decide +kernel
abbrev cX2_init : ByteArray := prog_4_method_1_code
def yX2_init : MethodName := ⟨RX2, "<init>", "()V"⟩
abbrev cX2_takeFrom : ByteArray := prog_4_method_2_code
def yX2_takeFrom : MethodName := ⟨RX2, "takeFrom", "(LLongStrike$Offers;)V"⟩
abbrev cX2_addClause : ByteArray := prog_4_method_3_code
def yX2_addClause : MethodName := ⟨RX2, "addClause", "(I)I"⟩
abbrev cX2_setCount : ByteArray := prog_4_method_4_code
def yX2_setCount : MethodName := ⟨RX2, "setCount", "()I"⟩
abbrev cX2_costOf : ByteArray := prog_4_method_5_code
def yX2_costOf : MethodName := ⟨RX2, "costOf", "(I)I"⟩
abbrev cX2_callVoters : ByteArray := prog_4_method_6_code
def yX2_callVoters : MethodName := ⟨RX2, "callVoters", "(LLongStrike$Valley;)V"⟩
abbrev cX2_votes : ByteArray := prog_4_method_7_code
def yX2_votes : MethodName := ⟨RX2, "votes", "()I"⟩
abbrev cX2_yesOf : ByteArray := prog_4_method_8_code
def yX2_yesOf : MethodName := ⟨RX2, "yesOf", "(I)I"⟩
abbrev cX2_contentPits : ByteArray := prog_4_method_9_code
def yX2_contentPits : MethodName := ⟨RX2, "contentPits", "(ILLongStrike$Valley;)I"⟩
abbrev cX2_isCarried : ByteArray := prog_4_method_10_code
def yX2_isCarried : MethodName := ⟨RX2, "isCarried", "(ILLongStrike$Valley;)Z"⟩
abbrev cX2_leastOffer : ByteArray := prog_4_method_11_code
def yX2_leastOffer : MethodName := ⟨RX2, "leastOffer", "(LLongStrike$Valley;)I"⟩
def RX3 : String := "LongStrike$Pickets"
def TX3 : u_T := fun k => match k with
  | 0 => ("LongStrike$Pickets", "miles", "I", false)
  | 1 => ("LongStrike$Pickets", "gateCount", "I", false)
  | 2 => ("LongStrike$Pickets", "manCount", "I", false)
  | 3 => ("LongStrike$Pickets", "gateVillage", "[I", true)
  | 4 => ("LongStrike$Pickets", "manVillage", "[I", true)
  | 5 => ("LongStrike$Pickets", "gateOfMan", "[I", true)
  | _ => ("LongStrike$Pickets", "leastWalk", "[[I", true)
def tyX3 : Nat → FieldType := fun k => match k with
  | 0 => .int
  | 1 => .int
  | 2 => .int
  | 3 => .array .int
  | 4 => .array .int
  | 5 => .array .int
  | _ => .array (.array .int)
abbrev wsX30 : List Cond := u_ws RX3 TX3 7
theorem nmX3 : ∀ a, a < 7 → ∀ b, b < 7 → a ≠ b → (TX3 a).2.1 ≠ (TX3 b).2.1 := by decide +kernel
theorem tyX3_ok : ∀ k, k < 7 → parseFieldDescriptor (TX3 k).2.2.1 = some (tyX3 k) := by decide +kernel
abbrev cX3_init : ByteArray := prog_5_method_1_code
def yX3_init : MethodName := ⟨RX3, "<init>", "()V"⟩
abbrev cX3_takeFrom : ByteArray := prog_5_method_2_code
def yX3_takeFrom : MethodName := ⟨RX3, "takeFrom", "(LLongStrike$Pickets;)V"⟩
abbrev cX3_addGate : ByteArray := prog_5_method_3_code
def yX3_addGate : MethodName := ⟨RX3, "addGate", "(I)I"⟩
abbrev cX3_addMan : ByteArray := prog_5_method_4_code
def yX3_addMan : MethodName := ⟨RX3, "addMan", "(I)I"⟩
abbrev cX3_plan : ByteArray := prog_5_method_5_code
def yX3_plan : MethodName := ⟨RX3, "plan", "([[I)Z"⟩
abbrev cX3_leastSum : ByteArray := prog_5_method_6_code
def yX3_leastSum : MethodName := ⟨RX3, "leastSum", "()I"⟩
abbrev cX3_leastFrom : ByteArray := prog_5_method_7_code
def yX3_leastFrom : MethodName := ⟨RX3, "leastFrom", "(II[[I)I"⟩
abbrev cX3_leastIfAt : ByteArray := prog_5_method_8_code
def yX3_leastIfAt : MethodName := ⟨RX3, "leastIfAt", "(III[[I)I"⟩
abbrev cX3_sendMen : ByteArray := prog_5_method_9_code
def yX3_sendMen : MethodName := ⟨RX3, "sendMen", "([[I)V"⟩
def RX4 : String := "LongStrike$Pit"
def TX4 : u_T := fun k => match k with
  | 0 => ("LongStrike$Pit", "village", "I", false)
  | 1 => ("LongStrike$Pit", "inflow", "I", false)
  | 2 => ("LongStrike$Pit", "pumped", "I", false)
  | 3 => ("LongStrike$Pit", "limit", "I", false)
  | 4 => ("LongStrike$Pit", "water", "I", false)
  | 5 => ("LongStrike$Pit", "lostOn", "I", false)
  | _ => ("LongStrike$Pit", "want", "I", false)
def tyX4 : Nat → FieldType := fun k => match k with
  | 0 => .int
  | 1 => .int
  | 2 => .int
  | 3 => .int
  | 4 => .int
  | 5 => .int
  | _ => .int
abbrev wsX40 : List Cond := u_ws RX4 TX4 7
theorem nmX4 : ∀ a, a < 7 → ∀ b, b < 7 → a ≠ b → (TX4 a).2.1 ≠ (TX4 b).2.1 := by decide +kernel
theorem tyX4_ok : ∀ k, k < 7 → parseFieldDescriptor (TX4 k).2.2.1 = some (tyX4 k) := by decide +kernel
abbrev cX4_init : ByteArray := prog_6_method_1_code
def yX4_init : MethodName := ⟨RX4, "<init>", "()V"⟩
abbrev cX4_dig : ByteArray := prog_6_method_2_code
def yX4_dig : MethodName := ⟨RX4, "dig", "(IIII)V"⟩
abbrev cX4_takeFrom : ByteArray := prog_6_method_3_code
def yX4_takeFrom : MethodName := ⟨RX4, "takeFrom", "(LLongStrike$Pit;)V"⟩
abbrev cX4_isLost : ByteArray := prog_6_method_4_code
def yX4_isLost : MethodName := ⟨RX4, "isLost", "()Z"⟩
abbrev cX4_fill : ByteArray := prog_6_method_5_code
def yX4_fill : MethodName := ⟨RX4, "fill", "(II)V"⟩
abbrev cX4_waterAfter : ByteArray := prog_6_method_6_code
def yX4_waterAfter : MethodName := ⟨RX4, "waterAfter", "(II)I"⟩
abbrev cX4_daysAbove : ByteArray := prog_6_method_7_code
def yX4_daysAbove : MethodName := ⟨RX4, "daysAbove", "(I)I"⟩
def RX5 : String := "LongStrike$Rules"
def TX5 : u_T := fun k => match k with
  | 0 => ("LongStrike$Rules", "count", "I", false)
  | 1 => ("LongStrike$Rules", "sorts", "[I", true)
  | 2 => ("LongStrike$Rules", "numbers", "[I", true)
  | 3 => ("LongStrike$Rules", "codeFrom", "[I", true)
  | 4 => ("LongStrike$Rules", "codeTo", "[I", true)
  | 5 => ("LongStrike$Rules", "codeSize", "I", false)
  | _ => ("LongStrike$Rules", "code", "[I", true)
def tyX5 : Nat → FieldType := fun k => match k with
  | 0 => .int
  | 1 => .array .int
  | 2 => .array .int
  | 3 => .array .int
  | 4 => .array .int
  | 5 => .int
  | _ => .array .int
abbrev wsX50 : List Cond := u_ws RX5 TX5 7
theorem nmX5 : ∀ a, a < 7 → ∀ b, b < 7 → a ≠ b → (TX5 a).2.1 ≠ (TX5 b).2.1 := by decide +kernel
theorem tyX5_ok : ∀ k, k < 7 → parseFieldDescriptor (TX5 k).2.2.1 = some (tyX5 k) := by decide +kernel
abbrev cX5_init : ByteArray := prog_7_method_1_code
def yX5_init : MethodName := ⟨RX5, "<init>", "()V"⟩
abbrev cX5_clear : ByteArray := prog_7_method_2_code
def yX5_clear : MethodName := ⟨RX5, "clear", "()V"⟩
abbrev cX5_takeFrom : ByteArray := prog_7_method_3_code
def yX5_takeFrom : MethodName := ⟨RX5, "takeFrom", "(LLongStrike$Rules;)V"⟩
abbrev cX5_addLine : ByteArray := prog_7_method_4_code
def yX5_addLine : MethodName := ⟨RX5, "addLine", "(III)V"⟩
abbrev cX5_codeEnd : ByteArray := prog_7_method_5_code
def yX5_codeEnd : MethodName := ⟨RX5, "codeEnd", "()I"⟩
abbrev cX5_addCode : ByteArray := prog_7_method_6_code
def yX5_addCode : MethodName := ⟨RX5, "addCode", "(I)V"⟩
abbrev cX5_codeOfTest : ByteArray := prog_7_method_7_code
def yX5_codeOfTest : MethodName := ⟨RX5, "codeOfTest", "(III)I"⟩
abbrev cX5_hasCond : ByteArray := prog_7_method_8_code
def yX5_hasCond : MethodName := ⟨RX5, "hasCond", "(I)Z"⟩
abbrev cX5_firstOf : ByteArray := prog_7_method_9_code
def yX5_firstOf : MethodName := ⟨RX5, "firstOf", "(I)I"⟩
abbrev cX5_firstHolding : ByteArray := prog_7_method_10_code
def yX5_firstHolding : MethodName := ⟨RX5, "firstHolding", "(ILLongStrike$Household;)I"⟩
abbrev cX5_numberOf : ByteArray := prog_7_method_11_code
def yX5_numberOf : MethodName := ⟨RX5, "numberOf", "(II)I"⟩
abbrev cX5_numberFor : ByteArray := prog_7_method_12_code
def yX5_numberFor : MethodName := ⟨RX5, "numberFor", "(ILLongStrike$Household;I)I"⟩
abbrev cX5_holds : ByteArray := prog_7_method_13_code
def yX5_holds : MethodName := ⟨RX5, "holds", "(ILLongStrike$Household;)Z"⟩
abbrev cX5_isTrue : ByteArray := prog_7_method_14_code
def yX5_isTrue : MethodName := ⟨RX5, "isTrue", "(II)Z"⟩
def RX6 : String := "LongStrike$Shop"
def TX6 : u_T := fun k => match k with
  | 0 => ("LongStrike$Shop", "village", "I", false)
  | 1 => ("LongStrike$Shop", "credit", "I", false)
  | _ => ("LongStrike$Shop", "lent", "I", false)
def tyX6 : Nat → FieldType := fun k => match k with
  | 0 => .int
  | 1 => .int
  | _ => .int
abbrev wsX60 : List Cond := u_ws RX6 TX6 3
theorem nmX6 : ∀ a, a < 3 → ∀ b, b < 3 → a ≠ b → (TX6 a).2.1 ≠ (TX6 b).2.1 := by decide +kernel
theorem tyX6_ok : ∀ k, k < 3 → parseFieldDescriptor (TX6 k).2.2.1 = some (tyX6 k) := by decide +kernel
abbrev cX6_init : ByteArray := prog_8_method_1_code
def yX6_init : MethodName := ⟨RX6, "<init>", "()V"⟩
abbrev cX6_open : ByteArray := prog_8_method_2_code
def yX6_open : MethodName := ⟨RX6, "open", "(II)V"⟩
abbrev cX6_takeFrom : ByteArray := prog_8_method_3_code
def yX6_takeFrom : MethodName := ⟨RX6, "takeFrom", "(LLongStrike$Shop;)V"⟩
abbrev cX6_lend : ByteArray := prog_8_method_4_code
def yX6_lend : MethodName := ⟨RX6, "lend", "(I)I"⟩
def RX7 : String := "LongStrike$Talk"
def TX7 : u_T := fun k => match k with
  | 0 => ("LongStrike$Talk", "newsCount", "I", false)
  | 1 => ("LongStrike$Talk", "newsVillage", "[I", true)
  | 2 => ("LongStrike$Talk", "newsWeight", "[I", true)
  | 3 => ("LongStrike$Talk", "newsDay", "[I", true)
  | 4 => ("LongStrike$Talk", "paperCount", "I", false)
  | 5 => ("LongStrike$Talk", "paperHousehold", "[I", true)
  | 6 => ("LongStrike$Talk", "paperDay", "[I", true)
  | 7 => ("LongStrike$Talk", "paperVoid", "[Z", true)
  | 8 => ("LongStrike$Talk", "pressOfFund", "I", false)
  | _ => ("LongStrike$Talk", "pressOfStock", "I", false)
def tyX7 : Nat → FieldType := fun k => match k with
  | 0 => .int
  | 1 => .array .int
  | 2 => .array .int
  | 3 => .array .int
  | 4 => .int
  | 5 => .array .int
  | 6 => .array .int
  | 7 => .array .boolean
  | 8 => .int
  | _ => .int
abbrev wsX70 : List Cond := u_ws RX7 TX7 10
theorem nmX7 : ∀ a, a < 10 → ∀ b, b < 10 → a ≠ b → (TX7 a).2.1 ≠ (TX7 b).2.1 := by decide +kernel
theorem tyX7_ok : ∀ k, k < 10 → parseFieldDescriptor (TX7 k).2.2.1 = some (tyX7 k) := by decide +kernel
abbrev cX7_init : ByteArray := prog_9_method_1_code
def yX7_init : MethodName := ⟨RX7, "<init>", "()V"⟩
abbrev cX7_takeFrom : ByteArray := prog_9_method_2_code
def yX7_takeFrom : MethodName := ⟨RX7, "takeFrom", "(LLongStrike$Talk;)V"⟩
abbrev cX7_tell : ByteArray := prog_9_method_3_code
def yX7_tell : MethodName := ⟨RX7, "tell", "(III)I"⟩
abbrev cX7_dayHeard : ByteArray := prog_9_method_4_code
def yX7_dayHeard : MethodName := ⟨RX7, "dayHeard", "(II[[I)I"⟩
abbrev cX7_weightHeard : ByteArray := prog_9_method_5_code
def yX7_weightHeard : MethodName := ⟨RX7, "weightHeard", "(LLongStrike$Household;I[[I)I"⟩
abbrev cX7_writePaper : ByteArray := prog_9_method_6_code
def yX7_writePaper : MethodName := ⟨RX7, "writePaper", "(II)I"⟩
abbrev cX7_findPaper : ByteArray := prog_9_method_7_code
def yX7_findPaper : MethodName := ⟨RX7, "findPaper", "(III)I"⟩
def RX8 : String := "LongStrike$TextReader"
def TX8 : u_T := fun k => match k with
  | 0 => ("LongStrike$TextReader", "bytes", "[B", true)
  | 1 => ("LongStrike$TextReader", "size", "I", false)
  | 2 => ("LongStrike$TextReader", "draft", "LLongStrike$Rules;", true)
  | 3 => ("LongStrike$TextReader", "parts", "[I", true)
  | 4 => ("LongStrike$TextReader", "places", "[I", true)
  | 5 => ("LongStrike$TextReader", "values", "[I", true)
  | 6 => ("LongStrike$TextReader", "at", "I", false)
  | _ => ("LongStrike$TextReader", "next", "I", false)
def tyX8 : Nat → FieldType := fun k => match k with
  | 0 => .array .byte
  | 1 => .int
  | 2 => .object "LongStrike$Rules"
  | 3 => .array .int
  | 4 => .array .int
  | 5 => .array .int
  | 6 => .int
  | _ => .int
abbrev wsX80 : List Cond := u_ws RX8 TX8 8
theorem nmX8 : ∀ a, a < 8 → ∀ b, b < 8 → a ≠ b → (TX8 a).2.1 ≠ (TX8 b).2.1 := by decide +kernel
theorem tyX8_ok : ∀ k, k < 8 → parseFieldDescriptor (TX8 k).2.2.1 = some (tyX8 k) := by decide +kernel
abbrev cX8_init : ByteArray := prog_10_method_1_code
def yX8_init : MethodName := ⟨RX8, "<init>", "()V"⟩
abbrev cX8_take : ByteArray := prog_10_method_2_code
def yX8_take : MethodName := ⟨RX8, "take", "(B)V"⟩
abbrev cX8_useUp : ByteArray := prog_10_method_3_code
def yX8_useUp : MethodName := ⟨RX8, "useUp", "()I"⟩
abbrev cX8_splitTape : ByteArray := prog_10_method_4_code
def yX8_splitTape : MethodName := ⟨RX8, "splitTape", "()V"⟩
abbrev cX8_step : ByteArray := prog_10_method_5_code
def yX8_step : MethodName := ⟨RX8, "step", "()V"⟩
abbrev cX8_readLine : ByteArray := prog_10_method_6_code
def yX8_readLine : MethodName := ⟨RX8, "readLine", "()Z"⟩
abbrev cX8_mayHaveCond : ByteArray := prog_10_method_7_code
def yX8_mayHaveCond : MethodName := ⟨RX8, "mayHaveCond", "(I)Z"⟩
abbrev cX8_isNumberUpTo : ByteArray := prog_10_method_8_code
def yX8_isNumberUpTo : MethodName := ⟨RX8, "isNumberUpTo", "(I)Z"⟩
abbrev cX8_readCond : ByteArray := prog_10_method_9_code
def yX8_readCond : MethodName := ⟨RX8, "readCond", "(I)Z"⟩
abbrev cX8_readAll : ByteArray := prog_10_method_10_code
def yX8_readAll : MethodName := ⟨RX8, "readAll", "(I)Z"⟩
abbrev cX8_readOne : ByteArray := prog_10_method_11_code
def yX8_readOne : MethodName := ⟨RX8, "readOne", "(I)Z"⟩
abbrev cX8_readBrackets : ByteArray := prog_10_method_12_code
def yX8_readBrackets : MethodName := ⟨RX8, "readBrackets", "(I)Z"⟩
abbrev cX8_readTest : ByteArray := prog_10_method_13_code
def yX8_readTest : MethodName := ⟨RX8, "readTest", "()Z"⟩
abbrev cX8_isSign : ByteArray := prog_10_method_14_code
def yX8_isSign : MethodName := ⟨RX8, "isSign", "(I)Z"⟩
abbrev cX8_endOfRun : ByteArray := prog_10_method_15_code
def yX8_endOfRun : MethodName := ⟨RX8, "endOfRun", "(ICC)I"⟩
abbrev cX8_numberBetween : ByteArray := prog_10_method_16_code
def yX8_numberBetween : MethodName := ⟨RX8, "numberBetween", "(II)I"⟩
abbrev cX8_wordBetween : ByteArray := prog_10_method_17_code
def yX8_wordBetween : MethodName := ⟨RX8, "wordBetween", "(II)I"⟩
abbrev cX8_isSame : ByteArray := prog_10_method_18_code
def yX8_isSame : MethodName := ⟨RX8, "isSame", "(III)Z"⟩
def RX9 : String := "LongStrike$Valley"
def TX9 : u_T := fun k => match k with
  | 0 => ("LongStrike$Valley", "today", "I", false)
  | 1 => ("LongStrike$Valley", "villageCount", "I", false)
  | 2 => ("LongStrike$Valley", "pitCount", "I", false)
  | 3 => ("LongStrike$Valley", "shopCount", "I", false)
  | 4 => ("LongStrike$Valley", "householdCount", "I", false)
  | 5 => ("LongStrike$Valley", "fund", "I", false)
  | 6 => ("LongStrike$Valley", "isCold", "Z", false)
  | 7 => ("LongStrike$Valley", "roads", "[[I", true)
  | 8 => ("LongStrike$Valley", "pits", "[LLongStrike$Pit;", true)
  | 9 => ("LongStrike$Valley", "shops", "[LLongStrike$Shop;", true)
  | 10 => ("LongStrike$Valley", "households", "[LLongStrike$Household;", true)
  | 11 => ("LongStrike$Valley", "rules", "[LLongStrike$Rules;", true)
  | 12 => ("LongStrike$Valley", "works", "LLongStrike$Works;", true)
  | 13 => ("LongStrike$Valley", "talk", "LLongStrike$Talk;", true)
  | 14 => ("LongStrike$Valley", "pickets", "LLongStrike$Pickets;", true)
  | 15 => ("LongStrike$Valley", "offers", "LLongStrike$Offers;", true)
  | 16 => ("LongStrike$Valley", "drawn", "[I", true)
  | 17 => ("LongStrike$Valley", "tickets", "[I", true)
  | _ => ("LongStrike$Valley", "ranks", "[I", true)
def tyX9 : Nat → FieldType := fun k => match k with
  | 0 => .int
  | 1 => .int
  | 2 => .int
  | 3 => .int
  | 4 => .int
  | 5 => .int
  | 6 => .boolean
  | 7 => .array (.array .int)
  | 8 => .array (.object "LongStrike$Pit")
  | 9 => .array (.object "LongStrike$Shop")
  | 10 => .array (.object "LongStrike$Household")
  | 11 => .array (.object "LongStrike$Rules")
  | 12 => .object "LongStrike$Works"
  | 13 => .object "LongStrike$Talk"
  | 14 => .object "LongStrike$Pickets"
  | 15 => .object "LongStrike$Offers"
  | 16 => .array .int
  | 17 => .array .int
  | _ => .array .int
abbrev wsX90 : List Cond := u_ws RX9 TX9 19
theorem nmX9 : ∀ a, a < 19 → ∀ b, b < 19 → a ≠ b → (TX9 a).2.1 ≠ (TX9 b).2.1 := by decide +kernel
theorem tyX9_ok : ∀ k, k < 19 → parseFieldDescriptor (TX9 k).2.2.1 = some (tyX9 k) := by decide +kernel
abbrev cX9_init : ByteArray := prog_11_method_1_code
def yX9_init : MethodName := ⟨RX9, "<init>", "()V"⟩
abbrev cX9_takeFrom : ByteArray := prog_11_method_2_code
def yX9_takeFrom : MethodName := ⟨RX9, "takeFrom", "(LLongStrike$Valley;)V"⟩
abbrev cX9_hasVillage : ByteArray := prog_11_method_3_code
def yX9_hasVillage : MethodName := ⟨RX9, "hasVillage", "(I)Z"⟩
abbrev cX9_hasPit : ByteArray := prog_11_method_4_code
def yX9_hasPit : MethodName := ⟨RX9, "hasPit", "(I)Z"⟩
abbrev cX9_hasShop : ByteArray := prog_11_method_5_code
def yX9_hasShop : MethodName := ⟨RX9, "hasShop", "(I)Z"⟩
abbrev cX9_hasHousehold : ByteArray := prog_11_method_6_code
def yX9_hasHousehold : MethodName := ⟨RX9, "hasHousehold", "(I)Z"⟩
abbrev cX9_ticketOf : ByteArray := prog_11_method_7_code
def yX9_ticketOf : MethodName := ⟨RX9, "ticketOf", "(LLongStrike$Household;)I"⟩
abbrev cX9_rankOf : ByteArray := prog_11_method_8_code
def yX9_rankOf : MethodName := ⟨RX9, "rankOf", "(LLongStrike$Household;)I"⟩
abbrev cX9_reliefOf : ByteArray := prog_11_method_9_code
def yX9_reliefOf : MethodName := ⟨RX9, "reliefOf", "(LLongStrike$Household;)I"⟩
abbrev cX9_mayVote : ByteArray := prog_11_method_10_code
def yX9_mayVote : MethodName := ⟨RX9, "mayVote", "(LLongStrike$Household;)Z"⟩
abbrev cX9_quorum : ByteArray := prog_11_method_11_code
def yX9_quorum : MethodName := ⟨RX9, "quorum", "()I"⟩
abbrev cX9_safety : ByteArray := prog_11_method_12_code
def yX9_safety : MethodName := ⟨RX9, "safety", "()I"⟩
abbrev cX9_evictWeeks : ByteArray := prog_11_method_13_code
def yX9_evictWeeks : MethodName := ⟨RX9, "evictWeeks", "()I"⟩
abbrev cX9_backCount : ByteArray := prog_11_method_14_code
def yX9_backCount : MethodName := ⟨RX9, "backCount", "()I"⟩
abbrev cX9_goOn : ByteArray := prog_11_method_15_code
def yX9_goOn : MethodName := ⟨RX9, "goOn", "()V"⟩
abbrev cX9_holdOut : ByteArray := prog_11_method_16_code
def yX9_holdOut : MethodName := ⟨RX9, "holdOut", "(I)I"⟩
abbrev cX9_shareIfDue : ByteArray := prog_11_method_17_code
def yX9_shareIfDue : MethodName := ⟨RX9, "shareIfDue", "()V"⟩
abbrev cX9_reckonShares : ByteArray := prog_11_method_18_code
def yX9_reckonShares : MethodName := ⟨RX9, "reckonShares", "()I"⟩
abbrev cX9_drawByRank : ByteArray := prog_11_method_19_code
def yX9_drawByRank : MethodName := ⟨RX9, "drawByRank", "(II)I"⟩
abbrev cX9_leastGift : ByteArray := prog_11_method_20_code
def yX9_leastGift : MethodName := ⟨RX9, "leastGift", "(I)I"⟩
abbrev cX9_liveOn : ByteArray := prog_11_method_21_code
def yX9_liveOn : MethodName := ⟨RX9, "liveOn", "(LLongStrike$Household;I)V"⟩
def RX10 : String := "LongStrike$Works"
def TX10 : u_T := fun k => match k with
  | 0 => ("LongStrike$Works", "stock", "I", false)
  | 1 => ("LongStrike$Works", "burn", "I", false)
  | 2 => ("LongStrike$Works", "shipCount", "I", false)
  | 3 => ("LongStrike$Works", "shipDay", "[I", true)
  | _ => ("LongStrike$Works", "shipLoad", "[I", true)
def tyX10 : Nat → FieldType := fun k => match k with
  | 0 => .int
  | 1 => .int
  | 2 => .int
  | 3 => .array .int
  | _ => .array .int
abbrev wsX100 : List Cond := u_ws RX10 TX10 5
theorem nmX10 : ∀ a, a < 5 → ∀ b, b < 5 → a ≠ b → (TX10 a).2.1 ≠ (TX10 b).2.1 := by decide +kernel
theorem tyX10_ok : ∀ k, k < 5 → parseFieldDescriptor (TX10 k).2.2.1 = some (tyX10 k) := by decide +kernel
abbrev cX10_init : ByteArray := prog_12_method_1_code
def yX10_init : MethodName := ⟨RX10, "<init>", "()V"⟩
abbrev cX10_takeFrom : ByteArray := prog_12_method_2_code
def yX10_takeFrom : MethodName := ⟨RX10, "takeFrom", "(LLongStrike$Works;)V"⟩
abbrev cX10_bring : ByteArray := prog_12_method_3_code
def yX10_bring : MethodName := ⟨RX10, "bring", "(I)V"⟩
abbrev cX10_expect : ByteArray := prog_12_method_4_code
def yX10_expect : MethodName := ⟨RX10, "expect", "(II)V"⟩
abbrev cX10_goOn : ByteArray := prog_12_method_5_code
def yX10_goOn : MethodName := ⟨RX10, "goOn", "(I)V"⟩
abbrev cX10_stockAfter : ByteArray := prog_12_method_6_code
def yX10_stockAfter : MethodName := ⟨RX10, "stockAfter", "(IIZ)I"⟩
abbrev cX10_daysLeft : ByteArray := prog_12_method_7_code
def yX10_daysLeft : MethodName := ⟨RX10, "daysLeft", "(IIZ)I"⟩
def RX11 : String := "LongStrike"
def TX11 : u_T := fun k => match k with
  | 0 => ("LongStrike", "now", "LLongStrike$Valley;", true)
  | 1 => ("LongStrike", "kept", "LLongStrike$Valley;", true)
  | 2 => ("LongStrike", "imagined", "LLongStrike$Valley;", true)
  | 3 => ("LongStrike", "isKept", "Z", false)
  | 4 => ("LongStrike", "reader", "LLongStrike$TextReader;", true)
  | 5 => ("LongStrike", "deals", "LLongStrike$Deals;", true)
  | 6 => ("LongStrike", "rows", "[I", true)
  | 7 => ("LongStrike", "toldRows", "[I", true)
  | 8 => ("LongStrike", "rowCount", "I", false)
  | 9 => ("LongStrike", "toldCount", "I", false)
  | 10 => ("LongStrike", "isWatchTold", "Z", false)
  | 11 => ("LongStrike", "sheetSort", "[I", true)
  | 12 => ("LongStrike", "sheetSize", "[I", true)
  | 13 => ("LongStrike", "sheetItems", "[[I", true)
  | 14 => ("LongStrike", "shelfHolds", "[I", true)
  | 15 => ("LongStrike", "shelfNumber", "[I", true)
  | _ => ("LongStrike", "shelfSize", "[I", true)
def tyX11 : Nat → FieldType := fun k => match k with
  | 0 => .object "LongStrike$Valley"
  | 1 => .object "LongStrike$Valley"
  | 2 => .object "LongStrike$Valley"
  | 3 => .boolean
  | 4 => .object "LongStrike$TextReader"
  | 5 => .object "LongStrike$Deals"
  | 6 => .array .int
  | 7 => .array .int
  | 8 => .int
  | 9 => .int
  | 10 => .boolean
  | 11 => .array .int
  | 12 => .array .int
  | 13 => .array (.array .int)
  | 14 => .array .int
  | 15 => .array .int
  | _ => .array .int
abbrev wsX110 : List Cond := u_ws RX11 TX11 17
theorem nmX11 : ∀ a, a < 17 → ∀ b, b < 17 → a ≠ b → (TX11 a).2.1 ≠ (TX11 b).2.1 := by decide +kernel
theorem tyX11_ok : ∀ k, k < 17 → parseFieldDescriptor (TX11 k).2.2.1 = some (tyX11 k) := by decide +kernel
abbrev cX11_init : ByteArray := prog_1_method_1_code
def yX11_init : MethodName := ⟨RX11, "<init>", "()V"⟩
abbrev cX11_days : ByteArray := prog_1_method_2_code
def yX11_days : MethodName := ⟨RX11, "days", "(I)I"⟩
abbrev cX11_village : ByteArray := prog_1_method_3_code
def yX11_village : MethodName := ⟨RX11, "village", "()I"⟩
abbrev cX11_road : ByteArray := prog_1_method_4_code
def yX11_road : MethodName := ⟨RX11, "road", "(III)I"⟩
abbrev cX11_pit : ByteArray := prog_1_method_5_code
def yX11_pit : MethodName := ⟨RX11, "pit", "(IIII)I"⟩
abbrev cX11_shop : ByteArray := prog_1_method_6_code
def yX11_shop : MethodName := ⟨RX11, "shop", "(II)I"⟩
abbrev cX11_household : ByteArray := prog_1_method_7_code
def yX11_household : MethodName := ⟨RX11, "household", "(IIIII)I"⟩
abbrev cX11_of : ByteArray := prog_1_method_8_code
def yX11_of : MethodName := ⟨RX11, "of", "(II)I"⟩
abbrev cX11_pitOf : ByteArray := prog_1_method_9_code
def yX11_pitOf : MethodName := ⟨RX11, "pitOf", "(II)I"⟩
abbrev cX11_shopOf : ByteArray := prog_1_method_10_code
def yX11_shopOf : MethodName := ⟨RX11, "shopOf", "(II)I"⟩
abbrev cX11_set : ByteArray := prog_1_method_11_code
def yX11_set : MethodName := ⟨RX11, "set", "(II)I"⟩
abbrev cX11_chooseCold : ByteArray := prog_1_method_12_code
def yX11_chooseCold : MethodName := ⟨RX11, "chooseCold", "(I)I"⟩
abbrev cX11_chooseBurn : ByteArray := prog_1_method_13_code
def yX11_chooseBurn : MethodName := ⟨RX11, "chooseBurn", "(I)I"⟩
abbrev cX11_chooseMiles : ByteArray := prog_1_method_14_code
def yX11_chooseMiles : MethodName := ⟨RX11, "chooseMiles", "(I)I"⟩
abbrev cX11_chooseWant : ByteArray := prog_1_method_15_code
def yX11_chooseWant : MethodName := ⟨RX11, "chooseWant", "(II)I"⟩
abbrev cX11_gift : ByteArray := prog_1_method_16_code
def yX11_gift : MethodName := ⟨RX11, "gift", "(ZI)I"⟩
abbrev cX11_ship : ByteArray := prog_1_method_17_code
def yX11_ship : MethodName := ⟨RX11, "ship", "(II)I"⟩
abbrev cX11_feed : ByteArray := prog_1_method_18_code
def yX11_feed : MethodName := ⟨RX11, "feed", "(JI)I"⟩
abbrev cX11_read : ByteArray := prog_1_method_19_code
def yX11_read : MethodName := ⟨RX11, "read", "(I)I"⟩
abbrev cX11_line : ByteArray := prog_1_method_20_code
def yX11_line : MethodName := ⟨RX11, "line", "(III)I"⟩
abbrev cX11_rule : ByteArray := prog_1_method_21_code
def yX11_rule : MethodName := ⟨RX11, "rule", "(I)I"⟩
abbrev cX11_why : ByteArray := prog_1_method_22_code
def yX11_why : MethodName := ⟨RX11, "why", "(II)I"⟩
abbrev cX11_news : ByteArray := prog_1_method_23_code
def yX11_news : MethodName := ⟨RX11, "news", "(II)I"⟩
abbrev cX11_hears : ByteArray := prog_1_method_24_code
def yX11_hears : MethodName := ⟨RX11, "hears", "(II)I"⟩
abbrev cX11_press : ByteArray := prog_1_method_25_code
def yX11_press : MethodName := ⟨RX11, "press", "(Z)I"⟩
abbrev cX11_paper : ByteArray := prog_1_method_26_code
def yX11_paper : MethodName := ⟨RX11, "paper", "(I)I"⟩
abbrev cX11_evict : ByteArray := prog_1_method_27_code
def yX11_evict : MethodName := ⟨RX11, "evict", "(I)I"⟩
abbrev cX11_draws : ByteArray := prog_1_method_28_code
def yX11_draws : MethodName := ⟨RX11, "draws", "(I)I"⟩
abbrev cX11_least : ByteArray := prog_1_method_29_code
def yX11_least : MethodName := ⟨RX11, "least", "(I)I"⟩
abbrev cX11_last : ByteArray := prog_1_method_30_code
def yX11_last : MethodName := ⟨RX11, "last", "(I)I"⟩
abbrev cX11_post : ByteArray := prog_1_method_31_code
def yX11_post : MethodName := ⟨RX11, "post", "(ZI)I"⟩
abbrev cX11_watch : ByteArray := prog_1_method_32_code
def yX11_watch : MethodName := ⟨RX11, "watch", "(I)I"⟩
abbrev cX11_tellRows : ByteArray := prog_1_method_33_code
def yX11_tellRows : MethodName := ⟨RX11, "tellRows", "()V"⟩
abbrev cX11_row : ByteArray := prog_1_method_34_code
def yX11_row : MethodName := ⟨RX11, "row", "(II)I"⟩
abbrev cX11_alterRow : ByteArray := prog_1_method_35_code
def yX11_alterRow : MethodName := ⟨RX11, "alterRow", "(III)I"⟩
abbrev cX11_hasRow : ByteArray := prog_1_method_36_code
def yX11_hasRow : MethodName := ⟨RX11, "hasRow", "(II)Z"⟩
abbrev cX11_dropRow : ByteArray := prog_1_method_37_code
def yX11_dropRow : MethodName := ⟨RX11, "dropRow", "()I"⟩
abbrev cX11_judge : ByteArray := prog_1_method_38_code
def yX11_judge : MethodName := ⟨RX11, "judge", "()I"⟩
abbrev cX11_clause : ByteArray := prog_1_method_39_code
def yX11_clause : MethodName := ⟨RX11, "clause", "(I)I"⟩
abbrev cX11_worth : ByteArray := prog_1_method_40_code
def yX11_worth : MethodName := ⟨RX11, "worth", "(III)I"⟩
abbrev cX11_ballot : ByteArray := prog_1_method_41_code
def yX11_ballot : MethodName := ⟨RX11, "ballot", "(II)I"⟩
abbrev cX11_offer : ByteArray := prog_1_method_42_code
def yX11_offer : MethodName := ⟨RX11, "offer", "()I"⟩
abbrev cX11_sheet : ByteArray := prog_1_method_43_code
def yX11_sheet : MethodName := ⟨RX11, "sheet", "(III)I"⟩
abbrev cX11_put : ByteArray := prog_1_method_44_code
def yX11_put : MethodName := ⟨RX11, "put", "(III)I"⟩
abbrev cX11_narrowed : ByteArray := prog_1_method_45_code
def yX11_narrowed : MethodName := ⟨RX11, "narrowed", "(II)I"⟩
abbrev cX11_item : ByteArray := prog_1_method_46_code
def yX11_item : MethodName := ⟨RX11, "item", "(III)I"⟩
abbrev cX11_comes : ByteArray := prog_1_method_47_code
def yX11_comes : MethodName := ⟨RX11, "comes", "(II)I"⟩
abbrev cX11_refuseItems : ByteArray := prog_1_method_48_code
def yX11_refuseItems : MethodName := ⟨RX11, "refuseItems", "(IIII)I"⟩
abbrev cX11_isSheet : ByteArray := prog_1_method_49_code
def yX11_isSheet : MethodName := ⟨RX11, "isSheet", "(I)Z"⟩
abbrev cX11_shelf : ByteArray := prog_1_method_50_code
def yX11_shelf : MethodName := ⟨RX11, "shelf", "(III)I"⟩
abbrev cX11_holdThing : ByteArray := prog_1_method_51_code
def yX11_holdThing : MethodName := ⟨RX11, "holdThing", "(IIIZ)I"⟩
abbrev cX11_holdRow : ByteArray := prog_1_method_52_code
def yX11_holdRow : MethodName := ⟨RX11, "holdRow", "(II)I"⟩
abbrev cX11_taken : ByteArray := prog_1_method_53_code
def yX11_taken : MethodName := ⟨RX11, "taken", "(II)I"⟩
abbrev cX11_deal : ByteArray := prog_1_method_54_code
def yX11_deal : MethodName := ⟨RX11, "deal", "(III)I"⟩
abbrev cX11_isShelf : ByteArray := prog_1_method_55_code
def yX11_isShelf : MethodName := ⟨RX11, "isShelf", "(I)Z"⟩
abbrev cX11_isBare : ByteArray := prog_1_method_56_code
def yX11_isBare : MethodName := ⟨RX11, "isBare", "(I)Z"⟩
abbrev cX11_kindOn : ByteArray := prog_1_method_57_code
def yX11_kindOn : MethodName := ⟨RX11, "kindOn", "(I)I"⟩
abbrev cX11_trace : ByteArray := prog_1_method_58_code
def yX11_trace : MethodName := ⟨RX11, "trace", "(I)I"⟩
abbrev cX11_many : ByteArray := prog_1_method_59_code
def yX11_many : MethodName := ⟨RX11, "many", "(I)I"⟩
abbrev cX11_keep : ByteArray := prog_1_method_60_code
def yX11_keep : MethodName := ⟨RX11, "keep", "()I"⟩
abbrev cX11_again : ByteArray := prog_1_method_61_code
def yX11_again : MethodName := ⟨RX11, "again", "()I"⟩
abbrev cX11_isIn : ByteArray := prog_1_method_62_code
def yX11_isIn : MethodName := ⟨RX11, "isIn", "(III)Z"⟩
abbrev cX11_asBit : ByteArray := prog_1_method_63_code
def yX11_asBit : MethodName := ⟨RX11, "asBit", "(Z)I"⟩
def RX12 : String := "LongStrikeModel"
def TX12 : u_T := fun k => match k with
  | 0 => ("LongStrikeModel", "now", "[I", true)
  | 1 => ("LongStrikeModel", "kept", "[I", true)
  | 2 => ("LongStrikeModel", "aside", "[I", true)
  | 3 => ("LongStrikeModel", "hasKept", "Z", false)
  | 4 => ("LongStrikeModel", "tape", "[I", true)
  | 5 => ("LongStrikeModel", "taped", "I", false)
  | 6 => ("LongStrikeModel", "rows", "[I", true)
  | 7 => ("LongStrikeModel", "told", "[I", true)
  | 8 => ("LongStrikeModel", "rowMany", "I", false)
  | 9 => ("LongStrikeModel", "toldMany", "I", false)
  | 10 => ("LongStrikeModel", "from", "I", false)
  | 11 => ("LongStrikeModel", "to", "I", false)
  | 12 => ("LongStrikeModel", "sort", "I", false)
  | 13 => ("LongStrikeModel", "isFault", "Z", false)
  | 14 => ("LongStrikeModel", "deep", "I", false)
  | 15 => ("LongStrikeModel", "coded", "I", false)
  | 16 => ("LongStrikeModel", "lines", "I", false)
  | 17 => ("LongStrikeModel", "line", "[I", true)
  | 18 => ("LongStrikeModel", "code", "[I", true)
  | 19 => ("LongStrikeModel", "pile", "[I", true)
  | 20 => ("LongStrikeModel", "want", "[I", true)
  | 21 => ("LongStrikeModel", "ranks", "[I", true)
  | 22 => ("LongStrikeModel", "draw", "[I", true)
  | 23 => ("LongStrikeModel", "comes", "[I", true)
  | 24 => ("LongStrikeModel", "ahead", "[I", true)
  | 25 => ("LongStrikeModel", "stands", "[I", true)
  | 26 => ("LongStrikeModel", "sorts", "[I", true)
  | 27 => ("LongStrikeModel", "sizes", "[I", true)
  | 28 => ("LongStrikeModel", "items", "[I", true)
  | 29 => ("LongStrikeModel", "shelves", "[I", true)
  | 30 => ("LongStrikeModel", "shelfOf", "[I", true)
  | 31 => ("LongStrikeModel", "shelfSize", "[I", true)
  | 32 => ("LongStrikeModel", "trace", "[I", true)
  | 33 => ("LongStrikeModel", "traced", "I", false)
  | 34 => ("LongStrikeModel", "dealer", "I", false)
  | 35 => ("LongStrikeModel", "number", "I", false)
  | 36 => ("LongStrikeModel", "place", "I", false)
  | 37 => ("LongStrikeModel", "size", "I", false)
  | _ => ("LongStrikeModel", "isParted", "Z", false)
def tyX12 : Nat → FieldType := fun k => match k with
  | 0 => .array .int
  | 1 => .array .int
  | 2 => .array .int
  | 3 => .boolean
  | 4 => .array .int
  | 5 => .int
  | 6 => .array .int
  | 7 => .array .int
  | 8 => .int
  | 9 => .int
  | 10 => .int
  | 11 => .int
  | 12 => .int
  | 13 => .boolean
  | 14 => .int
  | 15 => .int
  | 16 => .int
  | 17 => .array .int
  | 18 => .array .int
  | 19 => .array .int
  | 20 => .array .int
  | 21 => .array .int
  | 22 => .array .int
  | 23 => .array .int
  | 24 => .array .int
  | 25 => .array .int
  | 26 => .array .int
  | 27 => .array .int
  | 28 => .array .int
  | 29 => .array .int
  | 30 => .array .int
  | 31 => .array .int
  | 32 => .array .int
  | 33 => .int
  | 34 => .int
  | 35 => .int
  | 36 => .int
  | 37 => .int
  | _ => .boolean
abbrev wsX120 : List Cond := u_ws RX12 TX12 39
theorem nmX12 : ∀ a, a < 39 → ∀ b, b < 39 → a ≠ b → (TX12 a).2.1 ≠ (TX12 b).2.1 := by decide +kernel
theorem tyX12_ok : ∀ k, k < 39 → parseFieldDescriptor (TX12 k).2.2.1 = some (tyX12 k) := by decide +kernel
abbrev cX12_init : ByteArray := prog_14_method_1_code
def yX12_init : MethodName := ⟨RX12, "<init>", "()V"⟩
abbrev cX12_within : ByteArray := prog_14_method_2_code
def yX12_within : MethodName := ⟨RX12, "within", "(III)Z"⟩
abbrev cX12_is : ByteArray := prog_14_method_3_code
def yX12_is : MethodName := ⟨RX12, "is", "(II)Z"⟩
abbrev cX12_house : ByteArray := prog_14_method_4_code
def yX12_house : MethodName := ⟨RX12, "house", "(II)I"⟩
abbrev cX12_ofPit : ByteArray := prog_14_method_5_code
def yX12_ofPit : MethodName := ⟨RX12, "ofPit", "(II)I"⟩
abbrev cX12_ofShop : ByteArray := prog_14_method_6_code
def yX12_ofShop : MethodName := ⟨RX12, "ofShop", "(II)I"⟩
abbrev cX12_roadOf : ByteArray := prog_14_method_7_code
def yX12_roadOf : MethodName := ⟨RX12, "roadOf", "(II)I"⟩
abbrev cX12_village : ByteArray := prog_14_method_9_code
def yX12_village : MethodName := ⟨RX12, "village", "()I"⟩
abbrev cX12_road : ByteArray := prog_14_method_10_code
def yX12_road : MethodName := ⟨RX12, "road", "(III)I"⟩
abbrev cX12_pit : ByteArray := prog_14_method_11_code
def yX12_pit : MethodName := ⟨RX12, "pit", "(IIII)I"⟩
abbrev cX12_shop : ByteArray := prog_14_method_12_code
def yX12_shop : MethodName := ⟨RX12, "shop", "(II)I"⟩
abbrev cX12_household : ByteArray := prog_14_method_13_code
def yX12_household : MethodName := ⟨RX12, "household", "(IIIII)I"⟩
abbrev cX12_of : ByteArray := prog_14_method_14_code
def yX12_of : MethodName := ⟨RX12, "of", "(II)I"⟩
abbrev cX12_waterBehind : ByteArray := prog_14_method_15_code
def yX12_waterBehind : MethodName := ⟨RX12, "waterBehind", "(II)I"⟩
abbrev cX12_pitOf : ByteArray := prog_14_method_16_code
def yX12_pitOf : MethodName := ⟨RX12, "pitOf", "(II)I"⟩
abbrev cX12_shopOf : ByteArray := prog_14_method_17_code
def yX12_shopOf : MethodName := ⟨RX12, "shopOf", "(II)I"⟩
abbrev cX12_set : ByteArray := prog_14_method_18_code
def yX12_set : MethodName := ⟨RX12, "set", "(II)I"⟩
abbrev cX12_gift : ByteArray := prog_14_method_19_code
def yX12_gift : MethodName := ⟨RX12, "gift", "(ZI)I"⟩
abbrev cX12_ship : ByteArray := prog_14_method_20_code
def yX12_ship : MethodName := ⟨RX12, "ship", "(II)I"⟩
abbrev cX12_feed : ByteArray := prog_14_method_21_code
def yX12_feed : MethodName := ⟨RX12, "feed", "(JI)I"⟩
abbrev cX12_isIn : ByteArray := prog_14_method_22_code
def yX12_isIn : MethodName := ⟨RX12, "isIn", "(III)Z"⟩
abbrev cX12_next : ByteArray := prog_14_method_23_code
def yX12_next : MethodName := ⟨RX12, "next", "()V"⟩
abbrev cX12_isName : ByteArray := prog_14_method_24_code
def yX12_isName : MethodName := ⟨RX12, "isName", "(Ljava/lang/String;)Z"⟩
abbrev cX12_isSign : ByteArray := prog_14_method_25_code
def yX12_isSign : MethodName := ⟨RX12, "isSign", "(I)Z"⟩
abbrev cX12_need : ByteArray := prog_14_method_26_code
def yX12_need : MethodName := ⟨RX12, "need", "(Z)V"⟩
abbrev cX12_number : ByteArray := prog_14_method_27_code
def yX12_number : MethodName := ⟨RX12, "number", "(I)I"⟩
abbrev cX12_codes : ByteArray := prog_14_method_28_code
def yX12_codes : MethodName := ⟨RX12, "codes", "(I)V"⟩
abbrev cX12_either : ByteArray := prog_14_method_29_code
def yX12_either : MethodName := ⟨RX12, "either", "()V"⟩
abbrev cX12_all : ByteArray := prog_14_method_30_code
def yX12_all : MethodName := ⟨RX12, "all", "()V"⟩
abbrev cX12_one : ByteArray := prog_14_method_31_code
def yX12_one : MethodName := ⟨RX12, "one", "()V"⟩
abbrev cX12_lineAt : ByteArray := prog_14_method_32_code
def yX12_lineAt : MethodName := ⟨RX12, "lineAt", "(I)V"⟩
abbrev cX12_read : ByteArray := prog_14_method_33_code
def yX12_read : MethodName := ⟨RX12, "read", "(I)I"⟩
abbrev cX12_lineOf : ByteArray := prog_14_method_34_code
def yX12_lineOf : MethodName := ⟨RX12, "lineOf", "(III)I"⟩
abbrev cX12_line : ByteArray := prog_14_method_35_code
def yX12_line : MethodName := ⟨RX12, "line", "(III)I"⟩
abbrev cX12_factOf : ByteArray := prog_14_method_36_code
def yX12_factOf : MethodName := ⟨RX12, "factOf", "(I)I"⟩
abbrev cX12_holds : ByteArray := prog_14_method_37_code
def yX12_holds : MethodName := ⟨RX12, "holds", "(III)Z"⟩
abbrev cX12_firstOf : ByteArray := prog_14_method_38_code
def yX12_firstOf : MethodName := ⟨RX12, "firstOf", "(III)I"⟩
abbrev cX12_ticket : ByteArray := prog_14_method_39_code
def yX12_ticket : MethodName := ⟨RX12, "ticket", "(I)I"⟩
abbrev cX12_rank : ByteArray := prog_14_method_40_code
def yX12_rank : MethodName := ⟨RX12, "rank", "(I)I"⟩
abbrev cX12_relief : ByteArray := prog_14_method_41_code
def yX12_relief : MethodName := ⟨RX12, "relief", "(I)I"⟩
abbrev cX12_mayVote : ByteArray := prog_14_method_42_code
def yX12_mayVote : MethodName := ⟨RX12, "mayVote", "(I)Z"⟩
abbrev cX12_firstNumber : ByteArray := prog_14_method_43_code
def yX12_firstNumber : MethodName := ⟨RX12, "firstNumber", "(III)I"⟩
abbrev cX12_ruled : ByteArray := prog_14_method_44_code
def yX12_ruled : MethodName := ⟨RX12, "ruled", "(I)I"⟩
abbrev cX12_rule : ByteArray := prog_14_method_45_code
def yX12_rule : MethodName := ⟨RX12, "rule", "(I)I"⟩
abbrev cX12_why : ByteArray := prog_14_method_46_code
def yX12_why : MethodName := ⟨RX12, "why", "(II)I"⟩
abbrev cX12_findDraws : ByteArray := prog_14_method_47_code
def yX12_findDraws : MethodName := ⟨RX12, "findDraws", "()V"⟩
abbrev cX12_share : ByteArray := prog_14_method_48_code
def yX12_share : MethodName := ⟨RX12, "share", "()V"⟩
abbrev cX12_lent : ByteArray := prog_14_method_49_code
def yX12_lent : MethodName := ⟨RX12, "lent", "(II)I"⟩
abbrev cX12_wayOfNews : ByteArray := prog_14_method_50_code
def yX12_wayOfNews : MethodName := ⟨RX12, "wayOfNews", "(II)I"⟩
abbrev cX12_heardNow : ByteArray := prog_14_method_51_code
def yX12_heardNow : MethodName := ⟨RX12, "heardNow", "(I)I"⟩
abbrev cX12_eats : ByteArray := prog_14_method_52_code
def yX12_eats : MethodName := ⟨RX12, "eats", "(IZ)V"⟩
abbrev cX12_valleyGoes : ByteArray := prog_14_method_53_code
def yX12_valleyGoes : MethodName := ⟨RX12, "valleyGoes", "(Z)V"⟩
abbrev cX12_pitsGo : ByteArray := prog_14_method_54_code
def yX12_pitsGo : MethodName := ⟨RX12, "pitsGo", "()V"⟩
abbrev cX12_worksGo : ByteArray := prog_14_method_55_code
def yX12_worksGo : MethodName := ⟨RX12, "worksGo", "(Z)V"⟩
abbrev cX12_days : ByteArray := prog_14_method_56_code
def yX12_days : MethodName := ⟨RX12, "days", "(I)I"⟩
abbrev cX12_news : ByteArray := prog_14_method_57_code
def yX12_news : MethodName := ⟨RX12, "news", "(II)I"⟩
abbrev cX12_hears : ByteArray := prog_14_method_58_code
def yX12_hears : MethodName := ⟨RX12, "hears", "(II)I"⟩
abbrev cX12_press : ByteArray := prog_14_method_59_code
def yX12_press : MethodName := ⟨RX12, "press", "(Z)I"⟩
abbrev cX12_isGone : ByteArray := prog_14_method_60_code
def yX12_isGone : MethodName := ⟨RX12, "isGone", "(I)Z"⟩
abbrev cX12_paper : ByteArray := prog_14_method_61_code
def yX12_paper : MethodName := ⟨RX12, "paper", "(I)I"⟩
abbrev cX12_evict : ByteArray := prog_14_method_62_code
def yX12_evict : MethodName := ⟨RX12, "evict", "(I)I"⟩
abbrev cX12_draws : ByteArray := prog_14_method_63_code
def yX12_draws : MethodName := ⟨RX12, "draws", "(I)I"⟩
abbrev cX12_least : ByteArray := prog_14_method_64_code
def yX12_least : MethodName := ⟨RX12, "least", "(I)I"⟩
abbrev cX12_gaveIn : ByteArray := prog_14_method_65_code
def yX12_gaveIn : MethodName := ⟨RX12, "gaveIn", "()Z"⟩
abbrev cX12_valleyLasts : ByteArray := prog_14_method_66_code
def yX12_valleyLasts : MethodName := ⟨RX12, "valleyLasts", "()I"⟩
abbrev cX12_companyLasts : ByteArray := prog_14_method_67_code
def yX12_companyLasts : MethodName := ⟨RX12, "companyLasts", "(Z)I"⟩
abbrev cX12_last : ByteArray := prog_14_method_68_code
def yX12_last : MethodName := ⟨RX12, "last", "(I)I"⟩
abbrev cX12_post : ByteArray := prog_14_method_69_code
def yX12_post : MethodName := ⟨RX12, "post", "(ZI)I"⟩
abbrev cX12_walk : ByteArray := prog_14_method_70_code
def yX12_walk : MethodName := ⟨RX12, "walk", "(II)I"⟩
abbrev cX12_findWatch : ByteArray := prog_14_method_71_code
def yX12_findWatch : MethodName := ⟨RX12, "findWatch", "()V"⟩
abbrev cX12_watch : ByteArray := prog_14_method_72_code
def yX12_watch : MethodName := ⟨RX12, "watch", "(I)I"⟩
abbrev cX12_isRow : ByteArray := prog_14_method_73_code
def yX12_isRow : MethodName := ⟨RX12, "isRow", "(II)Z"⟩
abbrev cX12_row : ByteArray := prog_14_method_74_code
def yX12_row : MethodName := ⟨RX12, "row", "(II)I"⟩
abbrev cX12_alterRow : ByteArray := prog_14_method_75_code
def yX12_alterRow : MethodName := ⟨RX12, "alterRow", "(III)I"⟩
abbrev cX12_dropRow : ByteArray := prog_14_method_76_code
def yX12_dropRow : MethodName := ⟨RX12, "dropRow", "()I"⟩
abbrev cX12_judge : ByteArray := prog_14_method_77_code
def yX12_judge : MethodName := ⟨RX12, "judge", "()I"⟩
abbrev cX12_clause : ByteArray := prog_14_method_78_code
def yX12_clause : MethodName := ⟨RX12, "clause", "(I)I"⟩
abbrev cX12_worth : ByteArray := prog_14_method_79_code
def yX12_worth : MethodName := ⟨RX12, "worth", "(III)I"⟩
abbrev cX12_sumOf : ByteArray := prog_14_method_80_code
def yX12_sumOf : MethodName := ⟨RX12, "sumOf", "(II)I"⟩
abbrev cX12_contentBy : ByteArray := prog_14_method_81_code
def yX12_contentBy : MethodName := ⟨RX12, "contentBy", "(I)I"⟩
abbrev cX12_say : ByteArray := prog_14_method_82_code
def yX12_say : MethodName := ⟨RX12, "say", "(IZ)I"⟩
abbrev cX12_isCarried : ByteArray := prog_14_method_83_code
def yX12_isCarried : MethodName := ⟨RX12, "isCarried", "(I)Z"⟩
abbrev cX12_ballot : ByteArray := prog_14_method_84_code
def yX12_ballot : MethodName := ⟨RX12, "ballot", "(II)I"⟩
abbrev cX12_offer : ByteArray := prog_14_method_85_code
def yX12_offer : MethodName := ⟨RX12, "offer", "()I"⟩
abbrev cX12_isFour : ByteArray := prog_14_method_86_code
def yX12_isFour : MethodName := ⟨RX12, "isFour", "(I)Z"⟩
abbrev cX12_sheet : ByteArray := prog_14_method_87_code
def yX12_sheet : MethodName := ⟨RX12, "sheet", "(III)I"⟩
abbrev cX12_put : ByteArray := prog_14_method_88_code
def yX12_put : MethodName := ⟨RX12, "put", "(III)I"⟩
abbrev cX12_notThere : ByteArray := prog_14_method_89_code
def yX12_notThere : MethodName := ⟨RX12, "notThere", "(IIII)I"⟩
abbrev cX12_item : ByteArray := prog_14_method_90_code
def yX12_item : MethodName := ⟨RX12, "item", "(III)I"⟩
abbrev cX12_comes : ByteArray := prog_14_method_91_code
def yX12_comes : MethodName := ⟨RX12, "comes", "(II)I"⟩
abbrev cX12_shelf : ByteArray := prog_14_method_92_code
def yX12_shelf : MethodName := ⟨RX12, "shelf", "(III)I"⟩
abbrev cX12_kindOn : ByteArray := prog_14_method_93_code
def yX12_kindOn : MethodName := ⟨RX12, "kindOn", "(I)I"⟩
abbrev cX12_above : ByteArray := prog_14_method_94_code
def yX12_above : MethodName := ⟨RX12, "above", "(I)I"⟩
abbrev cX12_taken : ByteArray := prog_14_method_95_code
def yX12_taken : MethodName := ⟨RX12, "taken", "(II)I"⟩
abbrev cX12_began : ByteArray := prog_14_method_96_code
def yX12_began : MethodName := ⟨RX12, "began", "(I)V"⟩
abbrev cX12_has : ByteArray := prog_14_method_97_code
def yX12_has : MethodName := ⟨RX12, "has", "(II)Z"⟩
abbrev cX12_dealt : ByteArray := prog_14_method_98_code
def yX12_dealt : MethodName := ⟨RX12, "dealt", "(II)I"⟩
abbrev cX12_bodyFrom : ByteArray := prog_14_method_99_code
def yX12_bodyFrom : MethodName := ⟨RX12, "bodyFrom", "(III)I"⟩
abbrev cX12_body : ByteArray := prog_14_method_100_code
def yX12_body : MethodName := ⟨RX12, "body", "(III)I"⟩
abbrev cX12_deal : ByteArray := prog_14_method_101_code
def yX12_deal : MethodName := ⟨RX12, "deal", "(III)I"⟩
abbrev cX12_trace : ByteArray := prog_14_method_102_code
def yX12_trace : MethodName := ⟨RX12, "trace", "(I)I"⟩
abbrev cX12_many : ByteArray := prog_14_method_103_code
def yX12_many : MethodName := ⟨RX12, "many", "(I)I"⟩
abbrev cX12_keep : ByteArray := prog_14_method_104_code
def yX12_keep : MethodName := ⟨RX12, "keep", "()I"⟩
abbrev cX12_again : ByteArray := prog_14_method_105_code
def yX12_again : MethodName := ⟨RX12, "again", "()I"⟩
def RJx145de : String := "java/io/Serializable"
def TJx145de : u_T := fun k => match k with
  | _ => ("", "", "", false)
def tyJx145de : Nat → FieldType := fun k => match k with
  | _ => .int
abbrev wsJx145de0 : List Cond := u_ws RJx145de TJx145de 0
theorem nmJx145de : ∀ a, a < 0 → ∀ b, b < 0 → a ≠ b → (TJx145de a).2.1 ≠ (TJx145de b).2.1 := by decide +kernel
theorem tyJx145de_ok : ∀ k, k < 0 → parseFieldDescriptor (TJx145de k).2.2.1 = some (tyJx145de k) := by decide +kernel
def RJx9f9b0 : String := "java/lang/CharSequence"
def TJx9f9b0 : u_T := fun k => match k with
  | _ => ("", "", "", false)
def tyJx9f9b0 : Nat → FieldType := fun k => match k with
  | _ => .int
abbrev wsJx9f9b00 : List Cond := u_ws RJx9f9b0 TJx9f9b0 0
theorem nmJx9f9b0 : ∀ a, a < 0 → ∀ b, b < 0 → a ≠ b → (TJx9f9b0 a).2.1 ≠ (TJx9f9b0 b).2.1 := by decide +kernel
theorem tyJx9f9b0_ok : ∀ k, k < 0 → parseFieldDescriptor (TJx9f9b0 k).2.2.1 = some (tyJx9f9b0 k) := by decide +kernel
def RJxb160c : String := "java/lang/Comparable"
def TJxb160c : u_T := fun k => match k with
  | _ => ("", "", "", false)
def tyJxb160c : Nat → FieldType := fun k => match k with
  | _ => .int
abbrev wsJxb160c0 : List Cond := u_ws RJxb160c TJxb160c 0
theorem nmJxb160c : ∀ a, a < 0 → ∀ b, b < 0 → a ≠ b → (TJxb160c a).2.1 ≠ (TJxb160c b).2.1 := by decide +kernel
theorem tyJxb160c_ok : ∀ k, k < 0 → parseFieldDescriptor (TJxb160c k).2.2.1 = some (tyJxb160c k) := by decide +kernel
def RJ9 : String := "java/lang/Math"
def TJ9 : u_T := fun k => match k with
  | _ => ("", "", "", false)
def tyJ9 : Nat → FieldType := fun k => match k with
  | _ => .int
abbrev wsJ90 : List Cond := u_ws RJ9 TJ9 0
theorem nmJ9 : ∀ a, a < 0 → ∀ b, b < 0 → a ≠ b → (TJ9 a).2.1 ≠ (TJ9 b).2.1 := by decide +kernel
theorem tyJ9_ok : ∀ k, k < 0 → parseFieldDescriptor (TJ9 k).2.2.1 = some (tyJ9 k) := by decide +kernel
abbrev cJ9_max_7cf53 : ByteArray := prog_15_method_65_code
def yJ9_max_7cf53 : MethodName := ⟨RJ9, "max", "(II)I"⟩
abbrev cJ9_min_7cf53 : ByteArray := prog_15_method_69_code
def yJ9_min_7cf53 : MethodName := ⟨RJ9, "min", "(II)I"⟩
def RJ0 : String := "java/lang/String"
def TJ0 : u_T := fun k => match k with
  | _ => ("", "", "", false)
def tyJ0 : Nat → FieldType := fun k => match k with
  | _ => .int
abbrev wsJ00 : List Cond := u_ws RJ0 TJ0 0
theorem nmJ0 : ∀ a, a < 0 → ∀ b, b < 0 → a ≠ b → (TJ0 a).2.1 ≠ (TJ0 b).2.1 := by decide +kernel
theorem tyJ0_ok : ∀ k, k < 0 → parseFieldDescriptor (TJ0 k).2.2.1 = some (tyJ0 k) := by decide +kernel
abbrev cJ0_length_8abf5 : ByteArray := prog_16_method_54_code
def yJ0_length_8abf5 : MethodName := ⟨RJ0, "length", "()I"⟩
abbrev cJ0_charAt_5068e : ByteArray := prog_16_method_56_code
def yJ0_charAt_5068e : MethodName := ⟨RJ0, "charAt", "(I)C"⟩
abbrev cJ0_coder_7d493 : ByteArray := prog_16_method_152_code
def yJ0_coder_7d493 : MethodName := ⟨RJ0, "coder", "()B"⟩
abbrev cJ0_isLatin1_aae02 : ByteArray := prog_16_method_154_code
def yJ0_isLatin1_aae02 : MethodName := ⟨RJ0, "isLatin1", "()Z"⟩
abbrev cJ0_checkIndex_df160 : ByteArray := prog_16_method_155_code
def yJ0_checkIndex_df160 : MethodName := ⟨RJ0, "checkIndex", "(II)V"⟩
def RJ1 : String := "java/lang/StringLatin1"
def TJ1 : u_T := fun k => match k with
  | _ => ("", "", "", false)
def tyJ1 : Nat → FieldType := fun k => match k with
  | _ => .int
abbrev wsJ10 : List Cond := u_ws RJ1 TJ1 0
theorem nmJ1 : ∀ a, a < 0 → ∀ b, b < 0 → a ≠ b → (TJ1 a).2.1 ≠ (TJ1 b).2.1 := by decide +kernel
theorem tyJ1_ok : ∀ k, k < 0 → parseFieldDescriptor (TJ1 k).2.2.1 = some (tyJ1 k) := by decide +kernel
abbrev cJ1_charAt_3b067 : ByteArray := prog_17_method_2_code
def yJ1_charAt_3b067 : MethodName := ⟨RJ1, "charAt", "([BI)C"⟩
def RJ2 : String := "java/lang/StringUTF16"
def TJ2 : u_T := fun k => match k with
  | _ => ("", "", "", false)
def tyJ2 : Nat → FieldType := fun k => match k with
  | _ => .int
abbrev wsJ20 : List Cond := u_ws RJ2 TJ2 0
theorem nmJ2 : ∀ a, a < 0 → ∀ b, b < 0 → a ≠ b → (TJ2 a).2.1 ≠ (TJ2 b).2.1 := by decide +kernel
theorem tyJ2_ok : ∀ k, k < 0 → parseFieldDescriptor (TJ2 k).2.2.1 = some (tyJ2 k) := by decide +kernel
abbrev cJ2_getChar_3b067 : ByteArray := prog_18_method_5_code
def yJ2_getChar_3b067 : MethodName := ⟨RJ2, "getChar", "([BI)C"⟩
abbrev cJ2_length_9d52b : ByteArray := prog_18_method_6_code
def yJ2_length_9d52b : MethodName := ⟨RJ2, "length", "([B)I"⟩
abbrev cJ2_charAt_3b067 : ByteArray := prog_18_method_83_code
def yJ2_charAt_3b067 : MethodName := ⟨RJ2, "charAt", "([BI)C"⟩
abbrev cJ2_checkIndex_2214a : ByteArray := prog_18_method_91_code
def yJ2_checkIndex_2214a : MethodName := ⟨RJ2, "checkIndex", "(I[B)V"⟩
def RJ10 : String := "java/lang/System"
def TJ10 : u_T := fun k => match k with
  | _ => ("", "", "", false)
def tyJ10 : Nat → FieldType := fun k => match k with
  | _ => .int
abbrev wsJ100 : List Cond := u_ws RJ10 TJ10 0
theorem nmJ10 : ∀ a, a < 0 → ∀ b, b < 0 → a ≠ b → (TJ10 a).2.1 ≠ (TJ10 b).2.1 := by decide +kernel
theorem tyJ10_ok : ∀ k, k < 0 → parseFieldDescriptor (TJ10 k).2.2.1 = some (tyJ10 k) := by decide +kernel
def RJxfd54e : String := "java/lang/constant/Constable"
def TJxfd54e : u_T := fun k => match k with
  | _ => ("", "", "", false)
def tyJxfd54e : Nat → FieldType := fun k => match k with
  | _ => .int
abbrev wsJxfd54e0 : List Cond := u_ws RJxfd54e TJxfd54e 0
theorem nmJxfd54e : ∀ a, a < 0 → ∀ b, b < 0 → a ≠ b → (TJxfd54e a).2.1 ≠ (TJxfd54e b).2.1 := by decide +kernel
theorem tyJxfd54e_ok : ∀ k, k < 0 → parseFieldDescriptor (TJxfd54e k).2.2.1 = some (tyJxfd54e k) := by decide +kernel
def RJx3cf43 : String := "java/lang/constant/ConstantDesc"
def TJx3cf43 : u_T := fun k => match k with
  | _ => ("", "", "", false)
def tyJx3cf43 : Nat → FieldType := fun k => match k with
  | _ => .int
abbrev wsJx3cf430 : List Cond := u_ws RJx3cf43 TJx3cf43 0
theorem nmJx3cf43 : ∀ a, a < 0 → ∀ b, b < 0 → a ≠ b → (TJx3cf43 a).2.1 ≠ (TJx3cf43 b).2.1 := by decide +kernel
theorem tyJx3cf43_ok : ∀ k, k < 0 → parseFieldDescriptor (TJx3cf43 k).2.2.1 = some (tyJx3cf43 k) := by decide +kernel
def RJ7 : String := "java/util/Arrays"
def TJ7 : u_T := fun k => match k with
  | _ => ("", "", "", false)
def tyJ7 : Nat → FieldType := fun k => match k with
  | _ => .int
abbrev wsJ70 : List Cond := u_ws RJ7 TJ7 0
theorem nmJ7 : ∀ a, a < 0 → ∀ b, b < 0 → a ≠ b → (TJ7 a).2.1 ≠ (TJ7 b).2.1 := by decide +kernel
theorem tyJ7_ok : ∀ k, k < 0 → parseFieldDescriptor (TJ7 k).2.2.1 = some (tyJ7 k) := by decide +kernel
abbrev cJ7_fill_53178 : ByteArray := prog_20_method_103_code
def yJ7_fill_53178 : MethodName := ⟨RJ7, "fill", "([II)V"⟩
def RJ3 : String := "jdk/internal/util/Preconditions"
def TJ3 : u_T := fun k => match k with
  | _ => ("", "", "", false)
def tyJ3 : Nat → FieldType := fun k => match k with
  | _ => .int
abbrev wsJ30 : List Cond := u_ws RJ3 TJ3 0
theorem nmJ3 : ∀ a, a < 0 → ∀ b, b < 0 → a ≠ b → (TJ3 a).2.1 ≠ (TJ3 b).2.1 := by decide +kernel
theorem tyJ3_ok : ∀ k, k < 0 → parseFieldDescriptor (TJ3 k).2.2.1 = some (tyJ3 k) := by decide +kernel
abbrev cJ3_checkIndex_8e157 : ByteArray := prog_21_method_11_code
def yJ3_checkIndex_8e157 : MethodName := ⟨RJ3, "checkIndex", "(IILjava/util/function/BiFunction;)I"⟩
def RL : String := "LongStrikeLaw"
abbrev cL_law : ByteArray := code
def yL_law : MethodName := ⟨RL, "law", "([I)Z"⟩
abbrev vwCl : List vw_C := [(RX0, TX0, 7), (RX1, TX1, 12), (RX2, TX2, 6), (RX3, TX3, 7), (RX4, TX4, 7), (RX5, TX5, 7), (RX6, TX6, 3), (RX7, TX7, 10), (RX8, TX8, 8), (RX9, TX9, 19), (RX10, TX10, 5), (RX11, TX11, 17), (RX12, TX12, 39)]
