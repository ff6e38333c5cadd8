section
-- ===== PART A: goes FIRST, ahead of the names: the tables' words, and 'selects' of the private methods out of them =====
/-- a private method of a class that the tables say can be made, by its rows of tables_1 -/
def lw_okq (q : MethodName × Nat) : Prop := (q.1.cls ≠ "java/lang/invoke/MethodHandle" ∧ q.1.cls ≠ "java/lang/invoke/VarHandle") ∧ Cond.instantiable q.1.cls q.2 ∈ tables_1 ∧ Cond.privateMethod q.1 ∈ tables_1 ∧ Cond.instanceMethod q.1 ∈ tables_1
theorem lw_p0 : lw_okq (⟨"PoisonBook$Tape", "byteAt", "(I)I"⟩, 6) := ⟨⟨by decide +kernel, by decide +kernel⟩, List.mem_of_getElem? (i := 31) (by decide +kernel), List.mem_of_getElem? (i := 386) (by decide +kernel), List.mem_of_getElem? (i := 387) (by decide +kernel)⟩
theorem lw_p1 : lw_okq (⟨"PoisonBook$BookReader", "readClause", "(LPoisonBook$Tape;I)V"⟩, 1) := ⟨⟨by decide +kernel, by decide +kernel⟩, List.mem_of_getElem? (i := 64) (by decide +kernel), List.mem_of_getElem? (i := 400) (by decide +kernel), List.mem_of_getElem? (i := 401) (by decide +kernel)⟩
theorem lw_p2 : lw_okq (⟨"PoisonBook$Tape", "isPartOf", "(Ljava/lang/String;II)Z"⟩, 6) := ⟨⟨by decide +kernel, by decide +kernel⟩, List.mem_of_getElem? (i := 31) (by decide +kernel), List.mem_of_getElem? (i := 457) (by decide +kernel), List.mem_of_getElem? (i := 458) (by decide +kernel)⟩
theorem lw_p3 : lw_okq (⟨"PoisonBook$BookReader", "readBook", "(LPoisonBook$Tape;)V"⟩, 1) := ⟨⟨by decide +kernel, by decide +kernel⟩, List.mem_of_getElem? (i := 64) (by decide +kernel), List.mem_of_getElem? (i := 466) (by decide +kernel), List.mem_of_getElem? (i := 467) (by decide +kernel)⟩
theorem lw_p4 : lw_okq (⟨"PoisonBook$BookReader", "readSky", "(LPoisonBook$Tape;)V"⟩, 1) := ⟨⟨by decide +kernel, by decide +kernel⟩, List.mem_of_getElem? (i := 64) (by decide +kernel), List.mem_of_getElem? (i := 479) (by decide +kernel), List.mem_of_getElem? (i := 480) (by decide +kernel)⟩
theorem lw_p5 : lw_okq (⟨"PoisonBook$BookReader", "readBuyer", "(LPoisonBook$Tape;)V"⟩, 1) := ⟨⟨by decide +kernel, by decide +kernel⟩, List.mem_of_getElem? (i := 64) (by decide +kernel), List.mem_of_getElem? (i := 487) (by decide +kernel), List.mem_of_getElem? (i := 488) (by decide +kernel)⟩
theorem lw_p6 : lw_okq (⟨"PoisonBook$BookReader", "readWatch", "(LPoisonBook$Tape;)V"⟩, 1) := ⟨⟨by decide +kernel, by decide +kernel⟩, List.mem_of_getElem? (i := 64) (by decide +kernel), List.mem_of_getElem? (i := 491) (by decide +kernel), List.mem_of_getElem? (i := 492) (by decide +kernel)⟩
theorem lw_p7 : lw_okq (⟨"PoisonBook$RuleReader", "readSum", "(LPoisonBook$Tape;)V"⟩, 3) := ⟨⟨by decide +kernel, by decide +kernel⟩, List.mem_of_getElem? (i := 159) (by decide +kernel), List.mem_of_getElem? (i := 528) (by decide +kernel), List.mem_of_getElem? (i := 529) (by decide +kernel)⟩
theorem lw_p8 : lw_okq (⟨"PoisonBook$RuleReader", "readValue", "(LPoisonBook$Tape;)V"⟩, 3) := ⟨⟨by decide +kernel, by decide +kernel⟩, List.mem_of_getElem? (i := 159) (by decide +kernel), List.mem_of_getElem? (i := 532) (by decide +kernel), List.mem_of_getElem? (i := 533) (by decide +kernel)⟩
theorem lw_p9 : lw_okq (⟨"PoisonBook$RuleReader", "countOne", "(LPoisonBook$Tape;)V"⟩, 3) := ⟨⟨by decide +kernel, by decide +kernel⟩, List.mem_of_getElem? (i := 159) (by decide +kernel), List.mem_of_getElem? (i := 542) (by decide +kernel), List.mem_of_getElem? (i := 543) (by decide +kernel)⟩
theorem lw_p10 : lw_okq (⟨"PoisonBook$RuleReader", "put", "(I)V"⟩, 3) := ⟨⟨by decide +kernel, by decide +kernel⟩, List.mem_of_getElem? (i := 159) (by decide +kernel), List.mem_of_getElem? (i := 546) (by decide +kernel), List.mem_of_getElem? (i := 547) (by decide +kernel)⟩
theorem lw_p11 : lw_okq (⟨"PoisonBook$RuleReader", "readTest", "(LPoisonBook$Tape;I)V"⟩, 3) := ⟨⟨by decide +kernel, by decide +kernel⟩, List.mem_of_getElem? (i := 159) (by decide +kernel), List.mem_of_getElem? (i := 559) (by decide +kernel), List.mem_of_getElem? (i := 560) (by decide +kernel)⟩
theorem lw_p12 : lw_okq (⟨"PoisonBook$RuleReader", "readFact", "(LPoisonBook$Tape;I)V"⟩, 3) := ⟨⟨by decide +kernel, by decide +kernel⟩, List.mem_of_getElem? (i := 159) (by decide +kernel), List.mem_of_getElem? (i := 563) (by decide +kernel), List.mem_of_getElem? (i := 564) (by decide +kernel)⟩
theorem lw_p13 : lw_okq (⟨"PoisonBook", "ruleInForce", "()LPoisonBook$Rule;"⟩, 12) := ⟨⟨by decide +kernel, by decide +kernel⟩, List.mem_of_getElem? (i := 23) (by decide +kernel), List.mem_of_getElem? (i := 639) (by decide +kernel), List.mem_of_getElem? (i := 640) (by decide +kernel)⟩
theorem lw_p14 : lw_okq (⟨"PoisonBook$Shop", "canBuy", "(I)Z"⟩, 14) := ⟨⟨by decide +kernel, by decide +kernel⟩, List.mem_of_getElem? (i := 70) (by decide +kernel), List.mem_of_getElem? (i := 656) (by decide +kernel), List.mem_of_getElem? (i := 657) (by decide +kernel)⟩
theorem lw_p15 : lw_okq (⟨"PoisonBook$Shop", "changeTempers", "(I)V"⟩, 14) := ⟨⟨by decide +kernel, by decide +kernel⟩, List.mem_of_getElem? (i := 70) (by decide +kernel), List.mem_of_getElem? (i := 683) (by decide +kernel), List.mem_of_getElem? (i := 684) (by decide +kernel)⟩
def lw_privs_1 : List (MethodName × Nat) := [(⟨"PoisonBook$Tape", "byteAt", "(I)I"⟩, 6), (⟨"PoisonBook$BookReader", "readClause", "(LPoisonBook$Tape;I)V"⟩, 1), (⟨"PoisonBook$Tape", "isPartOf", "(Ljava/lang/String;II)Z"⟩, 6), (⟨"PoisonBook$BookReader", "readBook", "(LPoisonBook$Tape;)V"⟩, 1), (⟨"PoisonBook$BookReader", "readSky", "(LPoisonBook$Tape;)V"⟩, 1), (⟨"PoisonBook$BookReader", "readBuyer", "(LPoisonBook$Tape;)V"⟩, 1), (⟨"PoisonBook$BookReader", "readWatch", "(LPoisonBook$Tape;)V"⟩, 1), (⟨"PoisonBook$RuleReader", "readSum", "(LPoisonBook$Tape;)V"⟩, 3), (⟨"PoisonBook$RuleReader", "readValue", "(LPoisonBook$Tape;)V"⟩, 3), (⟨"PoisonBook$RuleReader", "countOne", "(LPoisonBook$Tape;)V"⟩, 3), (⟨"PoisonBook$RuleReader", "put", "(I)V"⟩, 3), (⟨"PoisonBook$RuleReader", "readTest", "(LPoisonBook$Tape;I)V"⟩, 3), (⟨"PoisonBook$RuleReader", "readFact", "(LPoisonBook$Tape;I)V"⟩, 3), (⟨"PoisonBook", "ruleInForce", "()LPoisonBook$Rule;"⟩, 12), (⟨"PoisonBook$Shop", "canBuy", "(I)Z"⟩, 14), (⟨"PoisonBook$Shop", "changeTempers", "(I)V"⟩, 14)]
theorem lw_r1 : ∀ q ∈ lw_privs_1, lw_okq q := List.forall_mem_cons.mpr ⟨lw_p0, List.forall_mem_cons.mpr ⟨lw_p1, List.forall_mem_cons.mpr ⟨lw_p2, List.forall_mem_cons.mpr ⟨lw_p3, List.forall_mem_cons.mpr ⟨lw_p4, List.forall_mem_cons.mpr ⟨lw_p5, List.forall_mem_cons.mpr ⟨lw_p6, List.forall_mem_cons.mpr ⟨lw_p7, List.forall_mem_cons.mpr ⟨lw_p8, List.forall_mem_cons.mpr ⟨lw_p9, List.forall_mem_cons.mpr ⟨lw_p10, List.forall_mem_cons.mpr ⟨lw_p11, List.forall_mem_cons.mpr ⟨lw_p12, List.forall_mem_cons.mpr ⟨lw_p13, List.forall_mem_cons.mpr ⟨lw_p14, List.forall_mem_cons.mpr ⟨lw_p15, fun _ h => absurd h List.not_mem_nil⟩⟩⟩⟩⟩⟩⟩⟩⟩⟩⟩⟩⟩⟩⟩⟩
theorem lw_p16 : lw_okq (⟨"PoisonBook$Choices", "clockOfPurchase", "(LPoisonBook$Shop;LPoisonBook$Rule;II)I"⟩, 3) := ⟨⟨by decide +kernel, by decide +kernel⟩, List.mem_of_getElem? (i := 272) (by decide +kernel), List.mem_of_getElem? (i := 772) (by decide +kernel), List.mem_of_getElem? (i := 773) (by decide +kernel)⟩
theorem lw_p17 : lw_okq (⟨"PoisonBook$Choices", "gain", "(LPoisonBook$Shop;I)I"⟩, 3) := ⟨⟨by decide +kernel, by decide +kernel⟩, List.mem_of_getElem? (i := 272) (by decide +kernel), List.mem_of_getElem? (i := 840) (by decide +kernel), List.mem_of_getElem? (i := 841) (by decide +kernel)⟩
theorem lw_p18 : lw_okq (⟨"PoisonBook$Choices", "isRest", "(I)Z"⟩, 3) := ⟨⟨by decide +kernel, by decide +kernel⟩, List.mem_of_getElem? (i := 272) (by decide +kernel), List.mem_of_getElem? (i := 848) (by decide +kernel), List.mem_of_getElem? (i := 849) (by decide +kernel)⟩
theorem lw_p19 : lw_okq (⟨"PoisonBook$Inquiry", "agrees", "(ILPoisonBook$Notes;)Z"⟩, 4) := ⟨⟨by decide +kernel, by decide +kernel⟩, List.mem_of_getElem? (i := 290) (by decide +kernel), List.mem_of_getElem? (i := 891) (by decide +kernel), List.mem_of_getElem? (i := 892) (by decide +kernel)⟩
theorem lw_p20 : lw_okq (⟨"PoisonBook$Inquiry", "whoOn", "(II)I"⟩, 4) := ⟨⟨by decide +kernel, by decide +kernel⟩, List.mem_of_getElem? (i := 290) (by decide +kernel), List.mem_of_getElem? (i := 895) (by decide +kernel), List.mem_of_getElem? (i := 896) (by decide +kernel)⟩
theorem lw_p21 : lw_okq (⟨"PoisonBook$Inquiry", "mostAlike", "(I)I"⟩, 4) := ⟨⟨by decide +kernel, by decide +kernel⟩, List.mem_of_getElem? (i := 290) (by decide +kernel), List.mem_of_getElem? (i := 911) (by decide +kernel), List.mem_of_getElem? (i := 912) (by decide +kernel)⟩
theorem lw_p22 : lw_okq (⟨"PoisonBook$Outlook", "drawSky", "(I)V"⟩, 3) := ⟨⟨by decide +kernel, by decide +kernel⟩, List.mem_of_getElem? (i := 252) (by decide +kernel), List.mem_of_getElem? (i := 928) (by decide +kernel), List.mem_of_getElem? (i := 929) (by decide +kernel)⟩
theorem lw_p23 : lw_okq (⟨"PoisonBook$Outlook", "draw", "()J"⟩, 3) := ⟨⟨by decide +kernel, by decide +kernel⟩, List.mem_of_getElem? (i := 252) (by decide +kernel), List.mem_of_getElem? (i := 932) (by decide +kernel), List.mem_of_getElem? (i := 933) (by decide +kernel)⟩
theorem lw_p24 : lw_okq (⟨"PoisonBookModel", "four", "(I)V"⟩, 36) := ⟨⟨by decide +kernel, by decide +kernel⟩, List.mem_of_getElem? (i := 976) (by decide +kernel), List.mem_of_getElem? (i := 1095) (by decide +kernel), List.mem_of_getElem? (i := 1096) (by decide +kernel)⟩
theorem lw_p25 : lw_okq (⟨"PoisonBookModel", "readsAll", "()Z"⟩, 36) := ⟨⟨by decide +kernel, by decide +kernel⟩, List.mem_of_getElem? (i := 976) (by decide +kernel), List.mem_of_getElem? (i := 1107) (by decide +kernel), List.mem_of_getElem? (i := 1108) (by decide +kernel)⟩
theorem lw_p26 : lw_okq (⟨"PoisonBookModel", "clauseHere", "()Z"⟩, 36) := ⟨⟨by decide +kernel, by decide +kernel⟩, List.mem_of_getElem? (i := 976) (by decide +kernel), List.mem_of_getElem? (i := 1111) (by decide +kernel), List.mem_of_getElem? (i := 1112) (by decide +kernel)⟩
theorem lw_p27 : lw_okq (⟨"PoisonBookModel", "see", "()I"⟩, 36) := ⟨⟨by decide +kernel, by decide +kernel⟩, List.mem_of_getElem? (i := 976) (by decide +kernel), List.mem_of_getElem? (i := 1115) (by decide +kernel), List.mem_of_getElem? (i := 1116) (by decide +kernel)⟩
theorem lw_p28 : lw_okq (⟨"PoisonBookModel", "isBookWord", "()Z"⟩, 36) := ⟨⟨by decide +kernel, by decide +kernel⟩, List.mem_of_getElem? (i := 976) (by decide +kernel), List.mem_of_getElem? (i := 1119) (by decide +kernel), List.mem_of_getElem? (i := 1120) (by decide +kernel)⟩
theorem lw_p29 : lw_okq (⟨"PoisonBookModel", "isWord", "(J)Z"⟩, 36) := ⟨⟨by decide +kernel, by decide +kernel⟩, List.mem_of_getElem? (i := 976) (by decide +kernel), List.mem_of_getElem? (i := 1124) (by decide +kernel), List.mem_of_getElem? (i := 1125) (by decide +kernel)⟩
theorem lw_p30 : lw_okq (⟨"PoisonBookModel", "isLetter", "(I)Z"⟩, 36) := ⟨⟨by decide +kernel, by decide +kernel⟩, List.mem_of_getElem? (i := 976) (by decide +kernel), List.mem_of_getElem? (i := 1128) (by decide +kernel), List.mem_of_getElem? (i := 1129) (by decide +kernel)⟩
theorem lw_p31 : lw_okq (⟨"PoisonBookModel", "fails", "(II)Z"⟩, 36) := ⟨⟨by decide +kernel, by decide +kernel⟩, List.mem_of_getElem? (i := 976) (by decide +kernel), List.mem_of_getElem? (i := 1136) (by decide +kernel), List.mem_of_getElem? (i := 1137) (by decide +kernel)⟩
def lw_privs_2 : List (MethodName × Nat) := [(⟨"PoisonBook$Choices", "clockOfPurchase", "(LPoisonBook$Shop;LPoisonBook$Rule;II)I"⟩, 3), (⟨"PoisonBook$Choices", "gain", "(LPoisonBook$Shop;I)I"⟩, 3), (⟨"PoisonBook$Choices", "isRest", "(I)Z"⟩, 3), (⟨"PoisonBook$Inquiry", "agrees", "(ILPoisonBook$Notes;)Z"⟩, 4), (⟨"PoisonBook$Inquiry", "whoOn", "(II)I"⟩, 4), (⟨"PoisonBook$Inquiry", "mostAlike", "(I)I"⟩, 4), (⟨"PoisonBook$Outlook", "drawSky", "(I)V"⟩, 3), (⟨"PoisonBook$Outlook", "draw", "()J"⟩, 3), (⟨"PoisonBookModel", "four", "(I)V"⟩, 36), (⟨"PoisonBookModel", "readsAll", "()Z"⟩, 36), (⟨"PoisonBookModel", "clauseHere", "()Z"⟩, 36), (⟨"PoisonBookModel", "see", "()I"⟩, 36), (⟨"PoisonBookModel", "isBookWord", "()Z"⟩, 36), (⟨"PoisonBookModel", "isWord", "(J)Z"⟩, 36), (⟨"PoisonBookModel", "isLetter", "(I)Z"⟩, 36), (⟨"PoisonBookModel", "fails", "(II)Z"⟩, 36)]
theorem lw_r2 : ∀ q ∈ lw_privs_2, lw_okq q := List.forall_mem_cons.mpr ⟨lw_p16, List.forall_mem_cons.mpr ⟨lw_p17, List.forall_mem_cons.mpr ⟨lw_p18, List.forall_mem_cons.mpr ⟨lw_p19, List.forall_mem_cons.mpr ⟨lw_p20, List.forall_mem_cons.mpr ⟨lw_p21, List.forall_mem_cons.mpr ⟨lw_p22, List.forall_mem_cons.mpr ⟨lw_p23, List.forall_mem_cons.mpr ⟨lw_p24, List.forall_mem_cons.mpr ⟨lw_p25, List.forall_mem_cons.mpr ⟨lw_p26, List.forall_mem_cons.mpr ⟨lw_p27, List.forall_mem_cons.mpr ⟨lw_p28, List.forall_mem_cons.mpr ⟨lw_p29, List.forall_mem_cons.mpr ⟨lw_p30, List.forall_mem_cons.mpr ⟨lw_p31, fun _ h => absurd h List.not_mem_nil⟩⟩⟩⟩⟩⟩⟩⟩⟩⟩⟩⟩⟩⟩⟩⟩
theorem lw_p32 : lw_okq (⟨"PoisonBookModel", "bookLineHere", "(I)Z"⟩, 36) := ⟨⟨by decide +kernel, by decide +kernel⟩, List.mem_of_getElem? (i := 976) (by decide +kernel), List.mem_of_getElem? (i := 1140) (by decide +kernel), List.mem_of_getElem? (i := 1141) (by decide +kernel)⟩
theorem lw_p33 : lw_okq (⟨"PoisonBookModel", "isBookHere", "(I)Z"⟩, 36) := ⟨⟨by decide +kernel, by decide +kernel⟩, List.mem_of_getElem? (i := 976) (by decide +kernel), List.mem_of_getElem? (i := 1144) (by decide +kernel), List.mem_of_getElem? (i := 1145) (by decide +kernel)⟩
theorem lw_p34 : lw_okq (⟨"PoisonBookModel", "passWord", "()V"⟩, 36) := ⟨⟨by decide +kernel, by decide +kernel⟩, List.mem_of_getElem? (i := 976) (by decide +kernel), List.mem_of_getElem? (i := 1148) (by decide +kernel), List.mem_of_getElem? (i := 1149) (by decide +kernel)⟩
theorem lw_p35 : lw_okq (⟨"PoisonBookModel", "cellHere", "(III)Z"⟩, 36) := ⟨⟨by decide +kernel, by decide +kernel⟩, List.mem_of_getElem? (i := 976) (by decide +kernel), List.mem_of_getElem? (i := 1152) (by decide +kernel), List.mem_of_getElem? (i := 1153) (by decide +kernel)⟩
theorem lw_p36 : lw_okq (⟨"PoisonBookModel", "numberHere", "(II)Z"⟩, 36) := ⟨⟨by decide +kernel, by decide +kernel⟩, List.mem_of_getElem? (i := 976) (by decide +kernel), List.mem_of_getElem? (i := 1156) (by decide +kernel), List.mem_of_getElem? (i := 1157) (by decide +kernel)⟩
theorem lw_p37 : lw_okq (⟨"PoisonBookModel", "isDigit", "(I)Z"⟩, 36) := ⟨⟨by decide +kernel, by decide +kernel⟩, List.mem_of_getElem? (i := 976) (by decide +kernel), List.mem_of_getElem? (i := 1160) (by decide +kernel), List.mem_of_getElem? (i := 1161) (by decide +kernel)⟩
theorem lw_p38 : lw_okq (⟨"PoisonBookModel", "isSkyHere", "()Z"⟩, 36) := ⟨⟨by decide +kernel, by decide +kernel⟩, List.mem_of_getElem? (i := 976) (by decide +kernel), List.mem_of_getElem? (i := 1167) (by decide +kernel), List.mem_of_getElem? (i := 1168) (by decide +kernel)⟩
theorem lw_p39 : lw_okq (⟨"PoisonBookModel", "isBuyerHere", "(I)Z"⟩, 36) := ⟨⟨by decide +kernel, by decide +kernel⟩, List.mem_of_getElem? (i := 976) (by decide +kernel), List.mem_of_getElem? (i := 1171) (by decide +kernel), List.mem_of_getElem? (i := 1172) (by decide +kernel)⟩
theorem lw_p40 : lw_okq (⟨"PoisonBookModel", "isWatchHere", "()Z"⟩, 36) := ⟨⟨by decide +kernel, by decide +kernel⟩, List.mem_of_getElem? (i := 976) (by decide +kernel), List.mem_of_getElem? (i := 1175) (by decide +kernel), List.mem_of_getElem? (i := 1176) (by decide +kernel)⟩
theorem lw_p41 : lw_okq (⟨"PoisonBookModel", "isBuyHere", "()Z"⟩, 36) := ⟨⟨by decide +kernel, by decide +kernel⟩, List.mem_of_getElem? (i := 976) (by decide +kernel), List.mem_of_getElem? (i := 1179) (by decide +kernel), List.mem_of_getElem? (i := 1180) (by decide +kernel)⟩
theorem lw_p42 : lw_okq (⟨"PoisonBookModel", "sum", "()Z"⟩, 36) := ⟨⟨by decide +kernel, by decide +kernel⟩, List.mem_of_getElem? (i := 976) (by decide +kernel), List.mem_of_getElem? (i := 1183) (by decide +kernel), List.mem_of_getElem? (i := 1184) (by decide +kernel)⟩
theorem lw_p43 : lw_okq (⟨"PoisonBookModel", "term", "()Z"⟩, 36) := ⟨⟨by decide +kernel, by decide +kernel⟩, List.mem_of_getElem? (i := 976) (by decide +kernel), List.mem_of_getElem? (i := 1187) (by decide +kernel), List.mem_of_getElem? (i := 1188) (by decide +kernel)⟩
theorem lw_p44 : lw_okq (⟨"PoisonBookModel", "value", "()Z"⟩, 36) := ⟨⟨by decide +kernel, by decide +kernel⟩, List.mem_of_getElem? (i := 976) (by decide +kernel), List.mem_of_getElem? (i := 1191) (by decide +kernel), List.mem_of_getElem? (i := 1192) (by decide +kernel)⟩
theorem lw_p45 : lw_okq (⟨"PoisonBookModel", "makes", "(I)Z"⟩, 36) := ⟨⟨by decide +kernel, by decide +kernel⟩, List.mem_of_getElem? (i := 976) (by decide +kernel), List.mem_of_getElem? (i := 1196) (by decide +kernel), List.mem_of_getElem? (i := 1197) (by decide +kernel)⟩
theorem lw_p46 : lw_okq (⟨"PoisonBookModel", "puts", "(II)V"⟩, 36) := ⟨⟨by decide +kernel, by decide +kernel⟩, List.mem_of_getElem? (i := 976) (by decide +kernel), List.mem_of_getElem? (i := 1200) (by decide +kernel), List.mem_of_getElem? (i := 1201) (by decide +kernel)⟩
theorem lw_p47 : lw_okq (⟨"PoisonBookModel", "wordHere", "()I"⟩, 36) := ⟨⟨by decide +kernel, by decide +kernel⟩, List.mem_of_getElem? (i := 976) (by decide +kernel), List.mem_of_getElem? (i := 1204) (by decide +kernel), List.mem_of_getElem? (i := 1205) (by decide +kernel)⟩
def lw_privs_3 : List (MethodName × Nat) := [(⟨"PoisonBookModel", "bookLineHere", "(I)Z"⟩, 36), (⟨"PoisonBookModel", "isBookHere", "(I)Z"⟩, 36), (⟨"PoisonBookModel", "passWord", "()V"⟩, 36), (⟨"PoisonBookModel", "cellHere", "(III)Z"⟩, 36), (⟨"PoisonBookModel", "numberHere", "(II)Z"⟩, 36), (⟨"PoisonBookModel", "isDigit", "(I)Z"⟩, 36), (⟨"PoisonBookModel", "isSkyHere", "()Z"⟩, 36), (⟨"PoisonBookModel", "isBuyerHere", "(I)Z"⟩, 36), (⟨"PoisonBookModel", "isWatchHere", "()Z"⟩, 36), (⟨"PoisonBookModel", "isBuyHere", "()Z"⟩, 36), (⟨"PoisonBookModel", "sum", "()Z"⟩, 36), (⟨"PoisonBookModel", "term", "()Z"⟩, 36), (⟨"PoisonBookModel", "value", "()Z"⟩, 36), (⟨"PoisonBookModel", "makes", "(I)Z"⟩, 36), (⟨"PoisonBookModel", "puts", "(II)V"⟩, 36), (⟨"PoisonBookModel", "wordHere", "()I"⟩, 36)]
theorem lw_r3 : ∀ q ∈ lw_privs_3, lw_okq q := List.forall_mem_cons.mpr ⟨lw_p32, List.forall_mem_cons.mpr ⟨lw_p33, List.forall_mem_cons.mpr ⟨lw_p34, List.forall_mem_cons.mpr ⟨lw_p35, List.forall_mem_cons.mpr ⟨lw_p36, List.forall_mem_cons.mpr ⟨lw_p37, List.forall_mem_cons.mpr ⟨lw_p38, List.forall_mem_cons.mpr ⟨lw_p39, List.forall_mem_cons.mpr ⟨lw_p40, List.forall_mem_cons.mpr ⟨lw_p41, List.forall_mem_cons.mpr ⟨lw_p42, List.forall_mem_cons.mpr ⟨lw_p43, List.forall_mem_cons.mpr ⟨lw_p44, List.forall_mem_cons.mpr ⟨lw_p45, List.forall_mem_cons.mpr ⟨lw_p46, List.forall_mem_cons.mpr ⟨lw_p47, fun _ h => absurd h List.not_mem_nil⟩⟩⟩⟩⟩⟩⟩⟩⟩⟩⟩⟩⟩⟩⟩⟩
theorem lw_p48 : lw_okq (⟨"PoisonBookModel", "takesWord", "(J)Z"⟩, 36) := ⟨⟨by decide +kernel, by decide +kernel⟩, List.mem_of_getElem? (i := 976) (by decide +kernel), List.mem_of_getElem? (i := 1221) (by decide +kernel), List.mem_of_getElem? (i := 1222) (by decide +kernel)⟩
theorem lw_p49 : lw_okq (⟨"PoisonBookModel", "tested", "()Z"⟩, 36) := ⟨⟨by decide +kernel, by decide +kernel⟩, List.mem_of_getElem? (i := 976) (by decide +kernel), List.mem_of_getElem? (i := 1225) (by decide +kernel), List.mem_of_getElem? (i := 1226) (by decide +kernel)⟩
theorem lw_p50 : lw_okq (⟨"PoisonBookModel", "fact", "()Z"⟩, 36) := ⟨⟨by decide +kernel, by decide +kernel⟩, List.mem_of_getElem? (i := 976) (by decide +kernel), List.mem_of_getElem? (i := 1229) (by decide +kernel), List.mem_of_getElem? (i := 1230) (by decide +kernel)⟩
theorem lw_p51 : lw_okq (⟨"PoisonBookModel", "opens", "(I)Z"⟩, 36) := ⟨⟨by decide +kernel, by decide +kernel⟩, List.mem_of_getElem? (i := 976) (by decide +kernel), List.mem_of_getElem? (i := 1234) (by decide +kernel), List.mem_of_getElem? (i := 1235) (by decide +kernel)⟩
theorem lw_p52 : lw_okq (⟨"PoisonBookModel", "compare", "()Z"⟩, 36) := ⟨⟨by decide +kernel, by decide +kernel⟩, List.mem_of_getElem? (i := 976) (by decide +kernel), List.mem_of_getElem? (i := 1238) (by decide +kernel), List.mem_of_getElem? (i := 1239) (by decide +kernel)⟩
theorem lw_p53 : lw_okq (⟨"PoisonBookModel", "closes", "()V"⟩, 36) := ⟨⟨by decide +kernel, by decide +kernel⟩, List.mem_of_getElem? (i := 976) (by decide +kernel), List.mem_of_getElem? (i := 1242) (by decide +kernel), List.mem_of_getElem? (i := 1243) (by decide +kernel)⟩
theorem lw_p54 : lw_okq (⟨"PoisonBookModel", "layDown", "(I)V"⟩, 36) := ⟨⟨by decide +kernel, by decide +kernel⟩, List.mem_of_getElem? (i := 976) (by decide +kernel), List.mem_of_getElem? (i := 1246) (by decide +kernel), List.mem_of_getElem? (i := 1247) (by decide +kernel)⟩
theorem lw_p55 : lw_okq (⟨"PoisonBookModel", "isInside", "()Z"⟩, 36) := ⟨⟨by decide +kernel, by decide +kernel⟩, List.mem_of_getElem? (i := 976) (by decide +kernel), List.mem_of_getElem? (i := 1253) (by decide +kernel), List.mem_of_getElem? (i := 1254) (by decide +kernel)⟩
theorem lw_p56 : lw_okq (⟨"PoisonBookModel", "begins", "()V"⟩, 36) := ⟨⟨by decide +kernel, by decide +kernel⟩, List.mem_of_getElem? (i := 976) (by decide +kernel), List.mem_of_getElem? (i := 1263) (by decide +kernel), List.mem_of_getElem? (i := 1264) (by decide +kernel)⟩
theorem lw_p57 : lw_okq (⟨"PoisonBookModel", "isRule", "(I)Z"⟩, 36) := ⟨⟨by decide +kernel, by decide +kernel⟩, List.mem_of_getElem? (i := 976) (by decide +kernel), List.mem_of_getElem? (i := 1271) (by decide +kernel), List.mem_of_getElem? (i := 1272) (by decide +kernel)⟩
theorem lw_p58 : lw_okq (⟨"PoisonBookModel", "isBuyer", "(I)Z"⟩, 36) := ⟨⟨by decide +kernel, by decide +kernel⟩, List.mem_of_getElem? (i := 976) (by decide +kernel), List.mem_of_getElem? (i := 1279) (by decide +kernel), List.mem_of_getElem? (i := 1280) (by decide +kernel)⟩
theorem lw_p59 : lw_okq (⟨"PoisonBookModel", "temperOf", "(I)I"⟩, 36) := ⟨⟨by decide +kernel, by decide +kernel⟩, List.mem_of_getElem? (i := 976) (by decide +kernel), List.mem_of_getElem? (i := 1283) (by decide +kernel), List.mem_of_getElem? (i := 1284) (by decide +kernel)⟩
theorem lw_p60 : lw_okq (⟨"PoisonBookModel", "boughtBy", "(I)I"⟩, 36) := ⟨⟨by decide +kernel, by decide +kernel⟩, List.mem_of_getElem? (i := 976) (by decide +kernel), List.mem_of_getElem? (i := 1287) (by decide +kernel), List.mem_of_getElem? (i := 1288) (by decide +kernel)⟩
theorem lw_p61 : lw_okq (⟨"PoisonBookModel", "metOf", "(I)I"⟩, 36) := ⟨⟨by decide +kernel, by decide +kernel⟩, List.mem_of_getElem? (i := 976) (by decide +kernel), List.mem_of_getElem? (i := 1291) (by decide +kernel), List.mem_of_getElem? (i := 1292) (by decide +kernel)⟩
theorem lw_p62 : lw_okq (⟨"PoisonBookModel", "sinceOf", "(I)I"⟩, 36) := ⟨⟨by decide +kernel, by decide +kernel⟩, List.mem_of_getElem? (i := 976) (by decide +kernel), List.mem_of_getElem? (i := 1295) (by decide +kernel), List.mem_of_getElem? (i := 1296) (by decide +kernel)⟩
theorem lw_p63 : lw_okq (⟨"PoisonBookModel", "lastOf", "(I)I"⟩, 36) := ⟨⟨by decide +kernel, by decide +kernel⟩, List.mem_of_getElem? (i := 976) (by decide +kernel), List.mem_of_getElem? (i := 1299) (by decide +kernel), List.mem_of_getElem? (i := 1300) (by decide +kernel)⟩
def lw_privs_4 : List (MethodName × Nat) := [(⟨"PoisonBookModel", "takesWord", "(J)Z"⟩, 36), (⟨"PoisonBookModel", "tested", "()Z"⟩, 36), (⟨"PoisonBookModel", "fact", "()Z"⟩, 36), (⟨"PoisonBookModel", "opens", "(I)Z"⟩, 36), (⟨"PoisonBookModel", "compare", "()Z"⟩, 36), (⟨"PoisonBookModel", "closes", "()V"⟩, 36), (⟨"PoisonBookModel", "layDown", "(I)V"⟩, 36), (⟨"PoisonBookModel", "isInside", "()Z"⟩, 36), (⟨"PoisonBookModel", "begins", "()V"⟩, 36), (⟨"PoisonBookModel", "isRule", "(I)Z"⟩, 36), (⟨"PoisonBookModel", "isBuyer", "(I)Z"⟩, 36), (⟨"PoisonBookModel", "temperOf", "(I)I"⟩, 36), (⟨"PoisonBookModel", "boughtBy", "(I)I"⟩, 36), (⟨"PoisonBookModel", "metOf", "(I)I"⟩, 36), (⟨"PoisonBookModel", "sinceOf", "(I)I"⟩, 36), (⟨"PoisonBookModel", "lastOf", "(I)I"⟩, 36)]
theorem lw_r4 : ∀ q ∈ lw_privs_4, lw_okq q := List.forall_mem_cons.mpr ⟨lw_p48, List.forall_mem_cons.mpr ⟨lw_p49, List.forall_mem_cons.mpr ⟨lw_p50, List.forall_mem_cons.mpr ⟨lw_p51, List.forall_mem_cons.mpr ⟨lw_p52, List.forall_mem_cons.mpr ⟨lw_p53, List.forall_mem_cons.mpr ⟨lw_p54, List.forall_mem_cons.mpr ⟨lw_p55, List.forall_mem_cons.mpr ⟨lw_p56, List.forall_mem_cons.mpr ⟨lw_p57, List.forall_mem_cons.mpr ⟨lw_p58, List.forall_mem_cons.mpr ⟨lw_p59, List.forall_mem_cons.mpr ⟨lw_p60, List.forall_mem_cons.mpr ⟨lw_p61, List.forall_mem_cons.mpr ⟨lw_p62, List.forall_mem_cons.mpr ⟨lw_p63, fun _ h => absurd h List.not_mem_nil⟩⟩⟩⟩⟩⟩⟩⟩⟩⟩⟩⟩⟩⟩⟩⟩
theorem lw_p64 : lw_okq (⟨"PoisonBookModel", "isClock", "(I)Z"⟩, 36) := ⟨⟨by decide +kernel, by decide +kernel⟩, List.mem_of_getElem? (i := 976) (by decide +kernel), List.mem_of_getElem? (i := 1307) (by decide +kernel), List.mem_of_getElem? (i := 1308) (by decide +kernel)⟩
theorem lw_p65 : lw_okq (⟨"PoisonBookModel", "isBook", "()Z"⟩, 36) := ⟨⟨by decide +kernel, by decide +kernel⟩, List.mem_of_getElem? (i := 976) (by decide +kernel), List.mem_of_getElem? (i := 1311) (by decide +kernel), List.mem_of_getElem? (i := 1312) (by decide +kernel)⟩
theorem lw_p66 : lw_okq (⟨"PoisonBookModel", "keepsAct", "()V"⟩, 36) := ⟨⟨by decide +kernel, by decide +kernel⟩, List.mem_of_getElem? (i := 976) (by decide +kernel), List.mem_of_getElem? (i := 1323) (by decide +kernel), List.mem_of_getElem? (i := 1324) (by decide +kernel)⟩
theorem lw_p67 : lw_okq (⟨"PoisonBookModel", "passes", "()I"⟩, 36) := ⟨⟨by decide +kernel, by decide +kernel⟩, List.mem_of_getElem? (i := 976) (by decide +kernel), List.mem_of_getElem? (i := 1327) (by decide +kernel), List.mem_of_getElem? (i := 1328) (by decide +kernel)⟩
theorem lw_p68 : lw_okq (⟨"PoisonBookModel", "canBuy", "(I)Z"⟩, 36) := ⟨⟨by decide +kernel, by decide +kernel⟩, List.mem_of_getElem? (i := 976) (by decide +kernel), List.mem_of_getElem? (i := 1331) (by decide +kernel), List.mem_of_getElem? (i := 1332) (by decide +kernel)⟩
theorem lw_p69 : lw_okq (⟨"PoisonBookModel", "isWilling", "(I)Z"⟩, 36) := ⟨⟨by decide +kernel, by decide +kernel⟩, List.mem_of_getElem? (i := 976) (by decide +kernel), List.mem_of_getElem? (i := 1335) (by decide +kernel), List.mem_of_getElem? (i := 1336) (by decide +kernel)⟩
theorem lw_p70 : lw_okq (⟨"PoisonBookModel", "clock", "()I"⟩, 36) := ⟨⟨by decide +kernel, by decide +kernel⟩, List.mem_of_getElem? (i := 976) (by decide +kernel), List.mem_of_getElem? (i := 1339) (by decide +kernel), List.mem_of_getElem? (i := 1340) (by decide +kernel)⟩
theorem lw_p71 : lw_okq (⟨"PoisonBookModel", "soldAll", "()I"⟩, 36) := ⟨⟨by decide +kernel, by decide +kernel⟩, List.mem_of_getElem? (i := 976) (by decide +kernel), List.mem_of_getElem? (i := 1343) (by decide +kernel), List.mem_of_getElem? (i := 1344) (by decide +kernel)⟩
theorem lw_p72 : lw_okq (⟨"PoisonBookModel", "summedBy", "(I)J"⟩, 36) := ⟨⟨by decide +kernel, by decide +kernel⟩, List.mem_of_getElem? (i := 976) (by decide +kernel), List.mem_of_getElem? (i := 1347) (by decide +kernel), List.mem_of_getElem? (i := 1348) (by decide +kernel)⟩
theorem lw_p73 : lw_okq (⟨"PoisonBookModel", "reckons", "(III)J"⟩, 36) := ⟨⟨by decide +kernel, by decide +kernel⟩, List.mem_of_getElem? (i := 976) (by decide +kernel), List.mem_of_getElem? (i := 1351) (by decide +kernel), List.mem_of_getElem? (i := 1352) (by decide +kernel)⟩
theorem lw_p74 : lw_okq (⟨"PoisonBookModel", "push", "(J)V"⟩, 36) := ⟨⟨by decide +kernel, by decide +kernel⟩, List.mem_of_getElem? (i := 976) (by decide +kernel), List.mem_of_getElem? (i := 1355) (by decide +kernel), List.mem_of_getElem? (i := 1356) (by decide +kernel)⟩
theorem lw_p75 : lw_okq (⟨"PoisonBookModel", "pop", "()J"⟩, 36) := ⟨⟨by decide +kernel, by decide +kernel⟩, List.mem_of_getElem? (i := 976) (by decide +kernel), List.mem_of_getElem? (i := 1359) (by decide +kernel), List.mem_of_getElem? (i := 1360) (by decide +kernel)⟩
theorem lw_p76 : lw_okq (⟨"PoisonBookModel", "comes", "(I)Z"⟩, 36) := ⟨⟨by decide +kernel, by decide +kernel⟩, List.mem_of_getElem? (i := 976) (by decide +kernel), List.mem_of_getElem? (i := 1366) (by decide +kernel), List.mem_of_getElem? (i := 1367) (by decide +kernel)⟩
theorem lw_p77 : lw_okq (⟨"PoisonBookModel", "isMet", "(I)Z"⟩, 36) := ⟨⟨by decide +kernel, by decide +kernel⟩, List.mem_of_getElem? (i := 976) (by decide +kernel), List.mem_of_getElem? (i := 1370) (by decide +kernel), List.mem_of_getElem? (i := 1371) (by decide +kernel)⟩
theorem lw_p78 : lw_okq (⟨"PoisonBookModel", "takes", "(I)V"⟩, 36) := ⟨⟨by decide +kernel, by decide +kernel⟩, List.mem_of_getElem? (i := 976) (by decide +kernel), List.mem_of_getElem? (i := 1377) (by decide +kernel), List.mem_of_getElem? (i := 1378) (by decide +kernel)⟩
theorem lw_p79 : lw_okq (⟨"PoisonBookModel", "weathers", "()V"⟩, 36) := ⟨⟨by decide +kernel, by decide +kernel⟩, List.mem_of_getElem? (i := 976) (by decide +kernel), List.mem_of_getElem? (i := 1381) (by decide +kernel), List.mem_of_getElem? (i := 1382) (by decide +kernel)⟩
def lw_privs_5 : List (MethodName × Nat) := [(⟨"PoisonBookModel", "isClock", "(I)Z"⟩, 36), (⟨"PoisonBookModel", "isBook", "()Z"⟩, 36), (⟨"PoisonBookModel", "keepsAct", "()V"⟩, 36), (⟨"PoisonBookModel", "passes", "()I"⟩, 36), (⟨"PoisonBookModel", "canBuy", "(I)Z"⟩, 36), (⟨"PoisonBookModel", "isWilling", "(I)Z"⟩, 36), (⟨"PoisonBookModel", "clock", "()I"⟩, 36), (⟨"PoisonBookModel", "soldAll", "()I"⟩, 36), (⟨"PoisonBookModel", "summedBy", "(I)J"⟩, 36), (⟨"PoisonBookModel", "reckons", "(III)J"⟩, 36), (⟨"PoisonBookModel", "push", "(J)V"⟩, 36), (⟨"PoisonBookModel", "pop", "()J"⟩, 36), (⟨"PoisonBookModel", "comes", "(I)Z"⟩, 36), (⟨"PoisonBookModel", "isMet", "(I)Z"⟩, 36), (⟨"PoisonBookModel", "takes", "(I)V"⟩, 36), (⟨"PoisonBookModel", "weathers", "()V"⟩, 36)]
theorem lw_r5 : ∀ q ∈ lw_privs_5, lw_okq q := List.forall_mem_cons.mpr ⟨lw_p64, List.forall_mem_cons.mpr ⟨lw_p65, List.forall_mem_cons.mpr ⟨lw_p66, List.forall_mem_cons.mpr ⟨lw_p67, List.forall_mem_cons.mpr ⟨lw_p68, List.forall_mem_cons.mpr ⟨lw_p69, List.forall_mem_cons.mpr ⟨lw_p70, List.forall_mem_cons.mpr ⟨lw_p71, List.forall_mem_cons.mpr ⟨lw_p72, List.forall_mem_cons.mpr ⟨lw_p73, List.forall_mem_cons.mpr ⟨lw_p74, List.forall_mem_cons.mpr ⟨lw_p75, List.forall_mem_cons.mpr ⟨lw_p76, List.forall_mem_cons.mpr ⟨lw_p77, List.forall_mem_cons.mpr ⟨lw_p78, List.forall_mem_cons.mpr ⟨lw_p79, fun _ h => absurd h List.not_mem_nil⟩⟩⟩⟩⟩⟩⟩⟩⟩⟩⟩⟩⟩⟩⟩⟩
theorem lw_p80 : lw_okq (⟨"PoisonBookModel", "keeps", "()V"⟩, 36) := ⟨⟨by decide +kernel, by decide +kernel⟩, List.mem_of_getElem? (i := 976) (by decide +kernel), List.mem_of_getElem? (i := 1409) (by decide +kernel), List.mem_of_getElem? (i := 1410) (by decide +kernel)⟩
theorem lw_p81 : lw_okq (⟨"PoisonBookModel", "passesAll", "(I)V"⟩, 36) := ⟨⟨by decide +kernel, by decide +kernel⟩, List.mem_of_getElem? (i := 976) (by decide +kernel), List.mem_of_getElem? (i := 1413) (by decide +kernel), List.mem_of_getElem? (i := 1414) (by decide +kernel)⟩
theorem lw_p82 : lw_okq (⟨"PoisonBookModel", "laysBack", "()V"⟩, 36) := ⟨⟨by decide +kernel, by decide +kernel⟩, List.mem_of_getElem? (i := 976) (by decide +kernel), List.mem_of_getElem? (i := 1417) (by decide +kernel), List.mem_of_getElem? (i := 1418) (by decide +kernel)⟩
theorem lw_p83 : lw_okq (⟨"PoisonBookModel", "buysIn", "(II)I"⟩, 36) := ⟨⟨by decide +kernel, by decide +kernel⟩, List.mem_of_getElem? (i := 976) (by decide +kernel), List.mem_of_getElem? (i := 1425) (by decide +kernel), List.mem_of_getElem? (i := 1426) (by decide +kernel)⟩
theorem lw_p84 : lw_okq (⟨"PoisonBookModel", "soldIn", "(I)I"⟩, 36) := ⟨⟨by decide +kernel, by decide +kernel⟩, List.mem_of_getElem? (i := 976) (by decide +kernel), List.mem_of_getElem? (i := 1448) (by decide +kernel), List.mem_of_getElem? (i := 1449) (by decide +kernel)⟩
theorem lw_p85 : lw_okq (⟨"PoisonBookModel", "grainsOf", "(I)I"⟩, 36) := ⟨⟨by decide +kernel, by decide +kernel⟩, List.mem_of_getElem? (i := 976) (by decide +kernel), List.mem_of_getElem? (i := 1469) (by decide +kernel), List.mem_of_getElem? (i := 1470) (by decide +kernel)⟩
theorem lw_p86 : lw_okq (⟨"PoisonBookModel", "valueOf", "(I)I"⟩, 36) := ⟨⟨by decide +kernel, by decide +kernel⟩, List.mem_of_getElem? (i := 976) (by decide +kernel), List.mem_of_getElem? (i := 1482) (by decide +kernel), List.mem_of_getElem? (i := 1483) (by decide +kernel)⟩
theorem lw_p87 : lw_okq (⟨"PoisonBookModel", "isRest", "(II)Z"⟩, 36) := ⟨⟨by decide +kernel, by decide +kernel⟩, List.mem_of_getElem? (i := 976) (by decide +kernel), List.mem_of_getElem? (i := 1486) (by decide +kernel), List.mem_of_getElem? (i := 1487) (by decide +kernel)⟩
theorem lw_p88 : lw_okq (⟨"PoisonBookModel", "areAlike", "(II)Z"⟩, 36) := ⟨⟨by decide +kernel, by decide +kernel⟩, List.mem_of_getElem? (i := 976) (by decide +kernel), List.mem_of_getElem? (i := 1494) (by decide +kernel), List.mem_of_getElem? (i := 1495) (by decide +kernel)⟩
theorem lw_p89 : lw_okq (⟨"PoisonBookModel", "fillsFits", "()V"⟩, 36) := ⟨⟨by decide +kernel, by decide +kernel⟩, List.mem_of_getElem? (i := 976) (by decide +kernel), List.mem_of_getElem? (i := 1510) (by decide +kernel), List.mem_of_getElem? (i := 1511) (by decide +kernel)⟩
theorem lw_p90 : lw_okq (⟨"PoisonBookModel", "areNotesSo", "(I)Z"⟩, 36) := ⟨⟨by decide +kernel, by decide +kernel⟩, List.mem_of_getElem? (i := 976) (by decide +kernel), List.mem_of_getElem? (i := 1517) (by decide +kernel), List.mem_of_getElem? (i := 1518) (by decide +kernel)⟩
theorem lw_p91 : lw_okq (⟨"PoisonBookModel", "alikeAt", "(I)I"⟩, 36) := ⟨⟨by decide +kernel, by decide +kernel⟩, List.mem_of_getElem? (i := 976) (by decide +kernel), List.mem_of_getElem? (i := 1525) (by decide +kernel), List.mem_of_getElem? (i := 1526) (by decide +kernel)⟩
theorem lw_p92 : lw_okq (⟨"PoisonBookModel", "draw", "(I)I"⟩, 36) := ⟨⟨by decide +kernel, by decide +kernel⟩, List.mem_of_getElem? (i := 976) (by decide +kernel), List.mem_of_getElem? (i := 1538) (by decide +kernel), List.mem_of_getElem? (i := 1539) (by decide +kernel)⟩
theorem lw_p93 : lw_okq (⟨"PoisonBookModel", "metAll", "()I"⟩, 36) := ⟨⟨by decide +kernel, by decide +kernel⟩, List.mem_of_getElem? (i := 976) (by decide +kernel), List.mem_of_getElem? (i := 1550) (by decide +kernel), List.mem_of_getElem? (i := 1551) (by decide +kernel)⟩
def lw_privs_6 : List (MethodName × Nat) := [(⟨"PoisonBookModel", "keeps", "()V"⟩, 36), (⟨"PoisonBookModel", "passesAll", "(I)V"⟩, 36), (⟨"PoisonBookModel", "laysBack", "()V"⟩, 36), (⟨"PoisonBookModel", "buysIn", "(II)I"⟩, 36), (⟨"PoisonBookModel", "soldIn", "(I)I"⟩, 36), (⟨"PoisonBookModel", "grainsOf", "(I)I"⟩, 36), (⟨"PoisonBookModel", "valueOf", "(I)I"⟩, 36), (⟨"PoisonBookModel", "isRest", "(II)Z"⟩, 36), (⟨"PoisonBookModel", "areAlike", "(II)Z"⟩, 36), (⟨"PoisonBookModel", "fillsFits", "()V"⟩, 36), (⟨"PoisonBookModel", "areNotesSo", "(I)Z"⟩, 36), (⟨"PoisonBookModel", "alikeAt", "(I)I"⟩, 36), (⟨"PoisonBookModel", "draw", "(I)I"⟩, 36), (⟨"PoisonBookModel", "metAll", "()I"⟩, 36)]
theorem lw_r6 : ∀ q ∈ lw_privs_6, lw_okq q := List.forall_mem_cons.mpr ⟨lw_p80, List.forall_mem_cons.mpr ⟨lw_p81, List.forall_mem_cons.mpr ⟨lw_p82, List.forall_mem_cons.mpr ⟨lw_p83, List.forall_mem_cons.mpr ⟨lw_p84, List.forall_mem_cons.mpr ⟨lw_p85, List.forall_mem_cons.mpr ⟨lw_p86, List.forall_mem_cons.mpr ⟨lw_p87, List.forall_mem_cons.mpr ⟨lw_p88, List.forall_mem_cons.mpr ⟨lw_p89, List.forall_mem_cons.mpr ⟨lw_p90, List.forall_mem_cons.mpr ⟨lw_p91, List.forall_mem_cons.mpr ⟨lw_p92, List.forall_mem_cons.mpr ⟨lw_p93, fun _ h => absurd h List.not_mem_nil⟩⟩⟩⟩⟩⟩⟩⟩⟩⟩⟩⟩⟩⟩
def lw_privs : List (MethodName × Nat) := lw_privs_1 ++ (lw_privs_2 ++ (lw_privs_3 ++ (lw_privs_4 ++ (lw_privs_5 ++ (lw_privs_6)))))
def lw_tbl : List Cond := k2_sels lw_privs ++ tables_1
theorem lw_privs_ok : ∀ q ∈ lw_privs, lw_okq q := by
  show ∀ q ∈ lw_privs_1 ++ (lw_privs_2 ++ (lw_privs_3 ++ (lw_privs_4 ++ (lw_privs_5 ++ (lw_privs_6))))), lw_okq q
  exact List.forall_mem_append.mpr ⟨lw_r1, List.forall_mem_append.mpr ⟨lw_r2, List.forall_mem_append.mpr ⟨lw_r3, List.forall_mem_append.mpr ⟨lw_r4, List.forall_mem_append.mpr ⟨lw_r5, lw_r6⟩⟩⟩⟩⟩
end
section
def RX0 : String := "PoisonBook$BookReader"
def TX0 : u_T := fun k => match k with
  | _ => ("PoisonBook$BookReader", "shop", "LPoisonBook$Shop;", true)
def tyX0 : Nat → FieldType := fun k => match k with
  | _ => .object "PoisonBook$Shop"
abbrev wsX00 : List Cond := u_ws RX0 TX0 1
theorem nmX0 : ∀ a, a < 1 → ∀ b, b < 1 → a ≠ b → (TX0 a).2.1 ≠ (TX0 b).2.1 := by decide +kernel
theorem tyX0_ok : ∀ k, k < 1 → parseFieldDescriptor (TX0 k).2.2.1 = some (tyX0 k) := by decide +kernel
abbrev cX0_init : ByteArray := prog_2_method_1_code
def yX0_init : MethodName := ⟨RX0, "<init>", "()V"⟩
abbrev cX0_read : ByteArray := prog_2_method_2_code
def yX0_read : MethodName := ⟨RX0, "read", "(LPoisonBook$Tape;)I"⟩
abbrev cX0_readClause : ByteArray := prog_2_method_3_code
def yX0_readClause : MethodName := ⟨RX0, "readClause", "(LPoisonBook$Tape;I)V"⟩
abbrev cX0_readBook : ByteArray := prog_2_method_4_code
def yX0_readBook : MethodName := ⟨RX0, "readBook", "(LPoisonBook$Tape;)V"⟩
abbrev cX0_readSky : ByteArray := prog_2_method_5_code
def yX0_readSky : MethodName := ⟨RX0, "readSky", "(LPoisonBook$Tape;)V"⟩
abbrev cX0_readBuyer : ByteArray := prog_2_method_6_code
def yX0_readBuyer : MethodName := ⟨RX0, "readBuyer", "(LPoisonBook$Tape;)V"⟩
abbrev cX0_readWatch : ByteArray := prog_2_method_7_code
def yX0_readWatch : MethodName := ⟨RX0, "readWatch", "(LPoisonBook$Tape;)V"⟩
def RX1 : String := "PoisonBook$Choices"
def TX1 : u_T := fun k => match k with
  | 0 => ("PoisonBook$Choices", "then", "LPoisonBook$Shop;", true)
  | 1 => ("PoisonBook$Choices", "oneHas", "[I", true)
  | _ => ("PoisonBook$Choices", "otherHas", "[I", true)
def tyX1 : Nat → FieldType := fun k => match k with
  | 0 => .object "PoisonBook$Shop"
  | 1 => .array .int
  | _ => .array .int
abbrev wsX10 : List Cond := u_ws RX1 TX1 3
theorem nmX1 : ∀ a, a < 3 → ∀ b, b < 3 → a ≠ b → (TX1 a).2.1 ≠ (TX1 b).2.1 := by decide +kernel
theorem tyX1_ok : ∀ k, k < 3 → parseFieldDescriptor (TX1 k).2.2.1 = some (tyX1 k) := by decide +kernel
abbrev cX1_init : ByteArray := prog_3_method_1_code
def yX1_init : MethodName := ⟨RX1, "<init>", "()V"⟩
abbrev cX1_smallestGuard : ByteArray := prog_3_method_2_code
def yX1_smallestGuard : MethodName := ⟨RX1, "smallestGuard", "(LPoisonBook$Shop;LPoisonBook$Rule;I)I"⟩
abbrev cX1_clockOfPurchase : ByteArray := prog_3_method_3_code
def yX1_clockOfPurchase : MethodName := ⟨RX1, "clockOfPurchase", "(LPoisonBook$Shop;LPoisonBook$Rule;II)I"⟩
abbrev cX1_bestDay : ByteArray := prog_3_method_4_code
def yX1_bestDay : MethodName := ⟨RX1, "bestDay", "(LPoisonBook$Shop;LPoisonBook$Rule;II)I"⟩
abbrev cX1_leastTemper : ByteArray := prog_3_method_5_code
def yX1_leastTemper : MethodName := ⟨RX1, "leastTemper", "(LPoisonBook$Shop;LPoisonBook$Rule;II)I"⟩
abbrev cX1_whomToSoothe : ByteArray := prog_3_method_6_code
def yX1_whomToSoothe : MethodName := ⟨RX1, "whomToSoothe", "(LPoisonBook$Shop;LPoisonBook$Rule;II)I"⟩
abbrev cX1_setsOf : ByteArray := prog_3_method_7_code
def yX1_setsOf : MethodName := ⟨RX1, "setsOf", "(LPoisonBook$Shop;II)I"⟩
abbrev cX1_grainsOf : ByteArray := prog_3_method_8_code
def yX1_grainsOf : MethodName := ⟨RX1, "grainsOf", "(LPoisonBook$Shop;I)I"⟩
abbrev cX1_playAll : ByteArray := prog_3_method_9_code
def yX1_playAll : MethodName := ⟨RX1, "playAll", "(LPoisonBook$Shop;LPoisonBook$Rule;III)V"⟩
abbrev cX1_sizeOf : ByteArray := prog_3_method_10_code
def yX1_sizeOf : MethodName := ⟨RX1, "sizeOf", "(I)I"⟩
abbrev cX1_gain : ByteArray := prog_3_method_11_code
def yX1_gain : MethodName := ⟨RX1, "gain", "(LPoisonBook$Shop;I)I"⟩
abbrev cX1_restAnswer : ByteArray := prog_3_method_12_code
def yX1_restAnswer : MethodName := ⟨RX1, "restAnswer", "(I)I"⟩
abbrev cX1_isRest : ByteArray := prog_3_method_13_code
def yX1_isRest : MethodName := ⟨RX1, "isRest", "(I)Z"⟩
def RX2 : String := "PoisonBook$Inquiry"
def TX2 : u_T := fun k => match k with
  | 0 => ("PoisonBook$Inquiry", "then", "LPoisonBook$Shop;", true)
  | 1 => ("PoisonBook$Inquiry", "who", "[I", true)
  | 2 => ("PoisonBook$Inquiry", "fits", "[Z", true)
  | _ => ("PoisonBook$Inquiry", "fitting", "I", false)
def tyX2 : Nat → FieldType := fun k => match k with
  | 0 => .object "PoisonBook$Shop"
  | 1 => .array .int
  | 2 => .array .boolean
  | _ => .int
abbrev wsX20 : List Cond := u_ws RX2 TX2 4
theorem nmX2 : ∀ a, a < 4 → ∀ b, b < 4 → a ≠ b → (TX2 a).2.1 ≠ (TX2 b).2.1 := by decide +kernel
theorem tyX2_ok : ∀ k, k < 4 → parseFieldDescriptor (TX2 k).2.2.1 = some (tyX2 k) := by decide +kernel
abbrev cX2_init : ByteArray := prog_4_method_1_code
def yX2_init : MethodName := ⟨RX2, "<init>", "()V"⟩
abbrev cX2_weigh : ByteArray := prog_4_method_2_code
def yX2_weigh : MethodName := ⟨RX2, "weigh", "(LPoisonBook$Scene;[LPoisonBook$Rule;I)V"⟩
abbrev cX2_agrees : ByteArray := prog_4_method_3_code
def yX2_agrees : MethodName := ⟨RX2, "agrees", "(ILPoisonBook$Notes;)Z"⟩
abbrev cX2_whoOn : ByteArray := prog_4_method_4_code
def yX2_whoOn : MethodName := ⟨RX2, "whoOn", "(II)I"⟩
abbrev cX2_firstFitting : ByteArray := prog_4_method_5_code
def yX2_firstFitting : MethodName := ⟨RX2, "firstFitting", "()I"⟩
abbrev cX2_dayToLook : ByteArray := prog_4_method_6_code
def yX2_dayToLook : MethodName := ⟨RX2, "dayToLook", "(I)I"⟩
abbrev cX2_mostAlike : ByteArray := prog_4_method_7_code
def yX2_mostAlike : MethodName := ⟨RX2, "mostAlike", "(I)I"⟩
def RX3 : String := "PoisonBook$Notes"
def TX3 : u_T := fun k => match k with
  | 0 => ("PoisonBook$Notes", "days", "[I", true)
  | 1 => ("PoisonBook$Notes", "buyers", "[I", true)
  | 2 => ("PoisonBook$Notes", "bought", "[I", true)
  | _ => ("PoisonBook$Notes", "size", "I", false)
def tyX3 : Nat → FieldType := fun k => match k with
  | 0 => .array .int
  | 1 => .array .int
  | 2 => .array .int
  | _ => .int
abbrev wsX30 : List Cond := u_ws RX3 TX3 4
theorem nmX3 : ∀ a, a < 4 → ∀ b, b < 4 → a ≠ b → (TX3 a).2.1 ≠ (TX3 b).2.1 := by decide +kernel
theorem tyX3_ok : ∀ k, k < 4 → parseFieldDescriptor (TX3 k).2.2.1 = some (tyX3 k) := by decide +kernel
abbrev cX3_init : ByteArray := prog_5_method_1_code
def yX3_init : MethodName := ⟨RX3, "<init>", "()V"⟩
abbrev cX3_add : ByteArray := prog_5_method_2_code
def yX3_add : MethodName := ⟨RX3, "add", "(III)Z"⟩
abbrev cX3_copyFrom : ByteArray := prog_5_method_3_code
def yX3_copyFrom : MethodName := ⟨RX3, "copyFrom", "(LPoisonBook$Notes;)V"⟩
def RX4 : String := "PoisonBook$Outlook"
def TX4 : u_T := fun k => match k with
  | 0 => ("PoisonBook$Outlook", "then", "LPoisonBook$Shop;", true)
  | 1 => ("PoisonBook$Outlook", "marks", "[J", true)
  | _ => ("PoisonBook$Outlook", "drawn", "J", false)
def tyX4 : Nat → FieldType := fun k => match k with
  | 0 => .object "PoisonBook$Shop"
  | 1 => .array .long
  | _ => .long
abbrev wsX40 : List Cond := u_ws RX4 TX4 3
theorem nmX4 : ∀ a, a < 3 → ∀ b, b < 3 → a ≠ b → (TX4 a).2.1 ≠ (TX4 b).2.1 := by decide +kernel
theorem tyX4_ok : ∀ k, k < 3 → parseFieldDescriptor (TX4 k).2.2.1 = some (tyX4 k) := by decide +kernel
abbrev cX4_init : ByteArray := prog_6_method_1_code
def yX4_init : MethodName := ⟨RX4, "<init>", "()V"⟩
abbrev cX4_aheadOf : ByteArray := prog_6_method_2_code
def yX4_aheadOf : MethodName := ⟨RX4, "aheadOf", "(LPoisonBook$Shop;LPoisonBook$Rule;III)I"⟩
abbrev cX4_firstPurchase : ByteArray := prog_6_method_3_code
def yX4_firstPurchase : MethodName := ⟨RX4, "firstPurchase", "(LPoisonBook$Shop;LPoisonBook$Rule;I)I"⟩
abbrev cX4_firstEmptyShelf : ByteArray := prog_6_method_4_code
def yX4_firstEmptyShelf : MethodName := ⟨RX4, "firstEmptyShelf", "(LPoisonBook$Shop;LPoisonBook$Rule;)I"⟩
abbrev cX4_weatherFraction : ByteArray := prog_6_method_5_code
def yX4_weatherFraction : MethodName := ⟨RX4, "weatherFraction", "(LPoisonBook$Shop;LPoisonBook$Rule;II)I"⟩
abbrev cX4_commonDivisor : ByteArray := prog_6_method_6_code
def yX4_commonDivisor : MethodName := ⟨RX4, "commonDivisor", "(II)I"⟩
abbrev cX4_firstRing : ByteArray := prog_6_method_7_code
def yX4_firstRing : MethodName := ⟨RX4, "firstRing", "(LPoisonBook$Shop;LPoisonBook$Rule;I)I"⟩
abbrev cX4_highestDay : ByteArray := prog_6_method_8_code
def yX4_highestDay : MethodName := ⟨RX4, "highestDay", "(LPoisonBook$Shop;LPoisonBook$Rule;II)I"⟩
abbrev cX4_drawnSummers : ByteArray := prog_6_method_9_code
def yX4_drawnSummers : MethodName := ⟨RX4, "drawnSummers", "(LPoisonBook$Shop;LPoisonBook$Rule;IIII)I"⟩
abbrev cX4_drawSky : ByteArray := prog_6_method_10_code
def yX4_drawSky : MethodName := ⟨RX4, "drawSky", "(I)V"⟩
abbrev cX4_draw : ByteArray := prog_6_method_11_code
def yX4_draw : MethodName := ⟨RX4, "draw", "()J"⟩
def RX5 : String := "PoisonBook$Past"
def TX5 : u_T := fun k => match k with
  | 0 => ("PoisonBook$Past", "shops", "[LPoisonBook$Shop;", true)
  | 1 => ("PoisonBook$Past", "next", "I", false)
  | _ => ("PoisonBook$Past", "size", "I", false)
def tyX5 : Nat → FieldType := fun k => match k with
  | 0 => .array (.object "PoisonBook$Shop")
  | 1 => .int
  | _ => .int
abbrev wsX50 : List Cond := u_ws RX5 TX5 3
theorem nmX5 : ∀ a, a < 3 → ∀ b, b < 3 → a ≠ b → (TX5 a).2.1 ≠ (TX5 b).2.1 := by decide +kernel
theorem tyX5_ok : ∀ k, k < 3 → parseFieldDescriptor (TX5 k).2.2.1 = some (tyX5 k) := by decide +kernel
abbrev cX5_init : ByteArray := prog_7_method_1_code
def yX5_init : MethodName := ⟨RX5, "<init>", "()V"⟩
abbrev cX5_keep : ByteArray := prog_7_method_2_code
def yX5_keep : MethodName := ⟨RX5, "keep", "(LPoisonBook$Shop;)V"⟩
abbrev cX5_giveBack : ByteArray := prog_7_method_3_code
def yX5_giveBack : MethodName := ⟨RX5, "giveBack", "(LPoisonBook$Shop;)I"⟩
def RX6 : String := "PoisonBook$Rule"
def TX6 : u_T := fun k => match k with
  | 0 => ("PoisonBook$Rule", "code", "[I", true)
  | _ => ("PoisonBook$Rule", "held", "[J", true)
def tyX6 : Nat → FieldType := fun k => match k with
  | 0 => .array .int
  | _ => .array .long
abbrev wsX60 : List Cond := u_ws RX6 TX6 2
theorem nmX6 : ∀ a, a < 2 → ∀ b, b < 2 → a ≠ b → (TX6 a).2.1 ≠ (TX6 b).2.1 := by decide +kernel
theorem tyX6_ok : ∀ k, k < 2 → parseFieldDescriptor (TX6 k).2.2.1 = some (tyX6 k) := by decide +kernel
abbrev cX6_init : ByteArray := prog_8_method_1_code
def yX6_init : MethodName := ⟨RX6, "<init>", "([I)V"⟩
abbrev cX6_sumFor : ByteArray := prog_8_method_2_code
def yX6_sumFor : MethodName := ⟨RX6, "sumFor", "(LPoisonBook$Shop;I)J"⟩
abbrev cX6_joined : ByteArray := prog_8_method_3_code
def yX6_joined : MethodName := ⟨RX6, "joined", "(IJJ)J"⟩
abbrev cX6_holds : ByteArray := prog_8_method_4_code
def yX6_holds : MethodName := ⟨RX6, "holds", "(IJJ)Z"⟩
def RX7 : String := "PoisonBook$RuleReader"
def TX7 : u_T := fun k => match k with
  | 0 => ("PoisonBook$RuleReader", "code", "[I", true)
  | 1 => ("PoisonBook$RuleReader", "used", "I", false)
  | _ => ("PoisonBook$RuleReader", "counted", "I", false)
def tyX7 : Nat → FieldType := fun k => match k with
  | 0 => .array .int
  | 1 => .int
  | _ => .int
abbrev wsX70 : List Cond := u_ws RX7 TX7 3
theorem nmX7 : ∀ a, a < 3 → ∀ b, b < 3 → a ≠ b → (TX7 a).2.1 ≠ (TX7 b).2.1 := by decide +kernel
theorem tyX7_ok : ∀ k, k < 3 → parseFieldDescriptor (TX7 k).2.2.1 = some (tyX7 k) := by decide +kernel
abbrev cX7_init : ByteArray := prog_9_method_1_code
def yX7_init : MethodName := ⟨RX7, "<init>", "()V"⟩
abbrev cX7_read : ByteArray := prog_9_method_2_code
def yX7_read : MethodName := ⟨RX7, "read", "(LPoisonBook$Tape;)LPoisonBook$Rule;"⟩
abbrev cX7_readTest : ByteArray := prog_9_method_3_code
def yX7_readTest : MethodName := ⟨RX7, "readTest", "(LPoisonBook$Tape;I)V"⟩
abbrev cX7_readFact : ByteArray := prog_9_method_4_code
def yX7_readFact : MethodName := ⟨RX7, "readFact", "(LPoisonBook$Tape;I)V"⟩
abbrev cX7_readSum : ByteArray := prog_9_method_5_code
def yX7_readSum : MethodName := ⟨RX7, "readSum", "(LPoisonBook$Tape;)V"⟩
abbrev cX7_readValue : ByteArray := prog_9_method_6_code
def yX7_readValue : MethodName := ⟨RX7, "readValue", "(LPoisonBook$Tape;)V"⟩
abbrev cX7_countOne : ByteArray := prog_9_method_7_code
def yX7_countOne : MethodName := ⟨RX7, "countOne", "(LPoisonBook$Tape;)V"⟩
abbrev cX7_put : ByteArray := prog_9_method_8_code
def yX7_put : MethodName := ⟨RX7, "put", "(I)V"⟩
abbrev cX7_arithmetic : ByteArray := prog_9_method_9_code
def yX7_arithmetic : MethodName := ⟨RX7, "arithmetic", "(LPoisonBook$Tape;)I"⟩
abbrev cX7_comparison : ByteArray := prog_9_method_10_code
def yX7_comparison : MethodName := ⟨RX7, "comparison", "(LPoisonBook$Tape;)I"⟩
def RX8 : String := "PoisonBook$Scene"
def TX8 : u_T := fun k => match k with
  | 0 => ("PoisonBook$Scene", "now", "LPoisonBook$Shop;", true)
  | 1 => ("PoisonBook$Scene", "begin", "LPoisonBook$Shop;", true)
  | 2 => ("PoisonBook$Scene", "notes", "LPoisonBook$Notes;", true)
  | 3 => ("PoisonBook$Scene", "inForce", "I", false)
  | _ => ("PoisonBook$Scene", "drawn", "I", false)
def tyX8 : Nat → FieldType := fun k => match k with
  | 0 => .object "PoisonBook$Shop"
  | 1 => .object "PoisonBook$Shop"
  | 2 => .object "PoisonBook$Notes"
  | 3 => .int
  | _ => .int
abbrev wsX80 : List Cond := u_ws RX8 TX8 5
theorem nmX8 : ∀ a, a < 5 → ∀ b, b < 5 → a ≠ b → (TX8 a).2.1 ≠ (TX8 b).2.1 := by decide +kernel
theorem tyX8_ok : ∀ k, k < 5 → parseFieldDescriptor (TX8 k).2.2.1 = some (tyX8 k) := by decide +kernel
abbrev cX8_init : ByteArray := prog_10_method_1_code
def yX8_init : MethodName := ⟨RX8, "<init>", "()V"⟩
abbrev cX8_copyFrom : ByteArray := prog_10_method_2_code
def yX8_copyFrom : MethodName := ⟨RX8, "copyFrom", "(LPoisonBook$Scene;)V"⟩
def RX9 : String := "PoisonBook$Shop"
def TX9 : u_T := fun k => match k with
  | 0 => ("PoisonBook$Shop", "shelf", "I", false)
  | 1 => ("PoisonBook$Shop", "fill", "I", false)
  | 2 => ("PoisonBook$Shop", "round", "I", false)
  | 3 => ("PoisonBook$Shop", "buyers", "I", false)
  | 4 => ("PoisonBook$Shop", "day", "I", false)
  | 5 => ("PoisonBook$Shop", "sold", "I", false)
  | 6 => ("PoisonBook$Shop", "still", "[I", true)
  | 7 => ("PoisonBook$Shop", "watched", "[I", true)
  | 8 => ("PoisonBook$Shop", "temper", "[I", true)
  | 9 => ("PoisonBook$Shop", "grains", "[I", true)
  | 10 => ("PoisonBook$Shop", "waits", "[I", true)
  | 11 => ("PoisonBook$Shop", "bought", "[I", true)
  | 12 => ("PoisonBook$Shop", "met", "[I", true)
  | _ => ("PoisonBook$Shop", "last", "[I", true)
def tyX9 : Nat → FieldType := fun k => match k with
  | 0 => .int
  | 1 => .int
  | 2 => .int
  | 3 => .int
  | 4 => .int
  | 5 => .int
  | 6 => .array .int
  | 7 => .array .int
  | 8 => .array .int
  | 9 => .array .int
  | 10 => .array .int
  | 11 => .array .int
  | 12 => .array .int
  | _ => .array .int
abbrev wsX90 : List Cond := u_ws RX9 TX9 14
theorem nmX9 : ∀ a, a < 14 → ∀ b, b < 14 → a ≠ b → (TX9 a).2.1 ≠ (TX9 b).2.1 := by decide +kernel
theorem tyX9_ok : ∀ k, k < 14 → parseFieldDescriptor (TX9 k).2.2.1 = some (tyX9 k) := by decide +kernel
abbrev cX9_init : ByteArray := prog_11_method_1_code
def yX9_init : MethodName := ⟨RX9, "<init>", "()V"⟩
abbrev cX9_clear : ByteArray := prog_11_method_2_code
def yX9_clear : MethodName := ⟨RX9, "clear", "()V"⟩
abbrev cX9_copyFrom : ByteArray := prog_11_method_3_code
def yX9_copyFrom : MethodName := ⟨RX9, "copyFrom", "(LPoisonBook$Shop;)V"⟩
abbrev cX9_isTold : ByteArray := prog_11_method_4_code
def yX9_isTold : MethodName := ⟨RX9, "isTold", "()Z"⟩
abbrev cX9_hasBuyer : ByteArray := prog_11_method_5_code
def yX9_hasBuyer : MethodName := ⟨RX9, "hasBuyer", "(I)Z"⟩
abbrev cX9_hasClock : ByteArray := prog_11_method_6_code
def yX9_hasClock : MethodName := ⟨RX9, "hasClock", "(I)Z"⟩
abbrev cX9_clockOn : ByteArray := prog_11_method_7_code
def yX9_clockOn : MethodName := ⟨RX9, "clockOn", "(I)I"⟩
abbrev cX9_stillOn : ByteArray := prog_11_method_8_code
def yX9_stillOn : MethodName := ⟨RX9, "stillOn", "(I)I"⟩
abbrev cX9_daysSince : ByteArray := prog_11_method_9_code
def yX9_daysSince : MethodName := ⟨RX9, "daysSince", "(I)I"⟩
abbrev cX9_canBuy : ByteArray := prog_11_method_10_code
def yX9_canBuy : MethodName := ⟨RX9, "canBuy", "(I)Z"⟩
abbrev cX9_whoCanBuy : ByteArray := prog_11_method_11_code
def yX9_whoCanBuy : MethodName := ⟨RX9, "whoCanBuy", "()I"⟩
abbrev cX9_timesMet : ByteArray := prog_11_method_12_code
def yX9_timesMet : MethodName := ⟨RX9, "timesMet", "()I"⟩
abbrev cX9_everybody : ByteArray := prog_11_method_13_code
def yX9_everybody : MethodName := ⟨RX9, "everybody", "()I"⟩
abbrev cX9_wordOf : ByteArray := prog_11_method_14_code
def yX9_wordOf : MethodName := ⟨RX9, "wordOf", "(II)J"⟩
abbrev cX9_handOver : ByteArray := prog_11_method_15_code
def yX9_handOver : MethodName := ⟨RX9, "handOver", "(I)V"⟩
abbrev cX9_goThroughDay : ByteArray := prog_11_method_16_code
def yX9_goThroughDay : MethodName := ⟨RX9, "goThroughDay", "(LPoisonBook$Rule;)I"⟩
abbrev cX9_changeTempers : ByteArray := prog_11_method_17_code
def yX9_changeTempers : MethodName := ⟨RX9, "changeTempers", "(I)V"⟩
abbrev cX9_soldWithin : ByteArray := prog_11_method_18_code
def yX9_soldWithin : MethodName := ⟨RX9, "soldWithin", "(ILPoisonBook$Rule;)I"⟩
abbrev cX9_likeness : ByteArray := prog_11_method_19_code
def yX9_likeness : MethodName := ⟨RX9, "likeness", "()J"⟩
abbrev cX9_fineOf : ByteArray := prog_11_method_20_code
def yX9_fineOf : MethodName := ⟨RX9, "fineOf", "(II)I"⟩
def RX10 : String := "PoisonBook$Tape"
def TX10 : u_T := fun k => match k with
  | 0 => ("PoisonBook$Tape", "bytes", "[I", true)
  | 1 => ("PoisonBook$Tape", "length", "I", false)
  | 2 => ("PoisonBook$Tape", "at", "I", false)
  | 3 => ("PoisonBook$Tape", "behind", "I", false)
  | 4 => ("PoisonBook$Tape", "first", "I", false)
  | _ => ("PoisonBook$Tape", "fault", "I", false)
def tyX10 : Nat → FieldType := fun k => match k with
  | 0 => .array .int
  | 1 => .int
  | 2 => .int
  | 3 => .int
  | 4 => .int
  | _ => .int
abbrev wsX100 : List Cond := u_ws RX10 TX10 6
theorem nmX10 : ∀ a, a < 6 → ∀ b, b < 6 → a ≠ b → (TX10 a).2.1 ≠ (TX10 b).2.1 := by decide +kernel
theorem tyX10_ok : ∀ k, k < 6 → parseFieldDescriptor (TX10 k).2.2.1 = some (tyX10 k) := by decide +kernel
abbrev cX10_init : ByteArray := prog_12_method_1_code
def yX10_init : MethodName := ⟨RX10, "<init>", "()V"⟩
abbrev cX10_hasRoom : ByteArray := prog_12_method_2_code
def yX10_hasRoom : MethodName := ⟨RX10, "hasRoom", "()Z"⟩
abbrev cX10_add : ByteArray := prog_12_method_3_code
def yX10_add : MethodName := ⟨RX10, "add", "(I)V"⟩
abbrev cX10_byteAt : ByteArray := prog_12_method_4_code
def yX10_byteAt : MethodName := ⟨RX10, "byteAt", "(I)I"⟩
abbrev cX10_begin : ByteArray := prog_12_method_5_code
def yX10_begin : MethodName := ⟨RX10, "begin", "()V"⟩
abbrev cX10_step : ByteArray := prog_12_method_6_code
def yX10_step : MethodName := ⟨RX10, "step", "()V"⟩
abbrev cX10_isLetter : ByteArray := prog_12_method_7_code
def yX10_isLetter : MethodName := ⟨RX10, "isLetter", "(I)Z"⟩
abbrev cX10_isDigit : ByteArray := prog_12_method_8_code
def yX10_isDigit : MethodName := ⟨RX10, "isDigit", "(I)Z"⟩
abbrev cX10_fail : ByteArray := prog_12_method_9_code
def yX10_fail : MethodName := ⟨RX10, "fail", "(I)V"⟩
abbrev cX10_isWord : ByteArray := prog_12_method_10_code
def yX10_isWord : MethodName := ⟨RX10, "isWord", "(Ljava/lang/String;)Z"⟩
abbrev cX10_takesWord : ByteArray := prog_12_method_11_code
def yX10_takesWord : MethodName := ⟨RX10, "takesWord", "(Ljava/lang/String;)Z"⟩
abbrev cX10_takes : ByteArray := prog_12_method_12_code
def yX10_takes : MethodName := ⟨RX10, "takes", "(C)Z"⟩
abbrev cX10_wordAmong : ByteArray := prog_12_method_13_code
def yX10_wordAmong : MethodName := ⟨RX10, "wordAmong", "(Ljava/lang/String;)I"⟩
abbrev cX10_isPartOf : ByteArray := prog_12_method_14_code
def yX10_isPartOf : MethodName := ⟨RX10, "isPartOf", "(Ljava/lang/String;II)Z"⟩
abbrev cX10_numberHere : ByteArray := prog_12_method_15_code
def yX10_numberHere : MethodName := ⟨RX10, "numberHere", "(II)I"⟩
abbrev cX10_takeNumber : ByteArray := prog_12_method_16_code
def yX10_takeNumber : MethodName := ⟨RX10, "takeNumber", "(II)I"⟩
abbrev cX10_finish : ByteArray := prog_12_method_17_code
def yX10_finish : MethodName := ⟨RX10, "finish", "()V"⟩
def RX11 : String := "PoisonBook"
def TX11 : u_T := fun k => match k with
  | 0 => ("PoisonBook", "tape", "LPoisonBook$Tape;", true)
  | 1 => ("PoisonBook", "bookReader", "LPoisonBook$BookReader;", true)
  | 2 => ("PoisonBook", "ruleReader", "LPoisonBook$RuleReader;", true)
  | 3 => ("PoisonBook", "rules", "[LPoisonBook$Rule;", true)
  | 4 => ("PoisonBook", "ruleCount", "I", false)
  | 5 => ("PoisonBook", "scene", "LPoisonBook$Scene;", true)
  | 6 => ("PoisonBook", "shop", "LPoisonBook$Shop;", true)
  | 7 => ("PoisonBook", "past", "LPoisonBook$Past;", true)
  | 8 => ("PoisonBook", "images", "[LPoisonBook$Scene;", true)
  | 9 => ("PoisonBook", "outlook", "LPoisonBook$Outlook;", true)
  | 10 => ("PoisonBook", "choices", "LPoisonBook$Choices;", true)
  | _ => ("PoisonBook", "inquiry", "LPoisonBook$Inquiry;", true)
def tyX11 : Nat → FieldType := fun k => match k with
  | 0 => .object "PoisonBook$Tape"
  | 1 => .object "PoisonBook$BookReader"
  | 2 => .object "PoisonBook$RuleReader"
  | 3 => .array (.object "PoisonBook$Rule")
  | 4 => .int
  | 5 => .object "PoisonBook$Scene"
  | 6 => .object "PoisonBook$Shop"
  | 7 => .object "PoisonBook$Past"
  | 8 => .array (.object "PoisonBook$Scene")
  | 9 => .object "PoisonBook$Outlook"
  | 10 => .object "PoisonBook$Choices"
  | _ => .object "PoisonBook$Inquiry"
abbrev wsX110 : List Cond := u_ws RX11 TX11 12
theorem nmX11 : ∀ a, a < 12 → ∀ b, b < 12 → a ≠ b → (TX11 a).2.1 ≠ (TX11 b).2.1 := by decide +kernel
theorem tyX11_ok : ∀ k, k < 12 → parseFieldDescriptor (TX11 k).2.2.1 = some (tyX11 k) := by decide +kernel
abbrev cX11_init : ByteArray := prog_1_method_1_code
def yX11_init : MethodName := ⟨RX11, "<init>", "()V"⟩
abbrev cX11_feed : ByteArray := prog_1_method_2_code
def yX11_feed : MethodName := ⟨RX11, "feed", "(IIIII)I"⟩
abbrev cX11_end : ByteArray := prog_1_method_3_code
def yX11_end : MethodName := ⟨RX11, "end", "(I)I"⟩
abbrev cX11_book : ByteArray := prog_1_method_4_code
def yX11_book : MethodName := ⟨RX11, "book", "()I"⟩
abbrev cX11_rule : ByteArray := prog_1_method_5_code
def yX11_rule : MethodName := ⟨RX11, "rule", "()I"⟩
abbrev cX11_force : ByteArray := prog_1_method_6_code
def yX11_force : MethodName := ⟨RX11, "force", "(I)I"⟩
abbrev cX11_buyer : ByteArray := prog_1_method_7_code
def yX11_buyer : MethodName := ⟨RX11, "buyer", "(II)I"⟩
abbrev cX11_sky : ByteArray := prog_1_method_8_code
def yX11_sky : MethodName := ⟨RX11, "sky", "(II)I"⟩
abbrev cX11_day : ByteArray := prog_1_method_9_code
def yX11_day : MethodName := ⟨RX11, "day", "()I"⟩
abbrev cX11_sell : ByteArray := prog_1_method_10_code
def yX11_sell : MethodName := ⟨RX11, "sell", "(I)I"⟩
abbrev cX11_calm : ByteArray := prog_1_method_11_code
def yX11_calm : MethodName := ⟨RX11, "calm", "(II)I"⟩
abbrev cX11_watch : ByteArray := prog_1_method_12_code
def yX11_watch : MethodName := ⟨RX11, "watch", "(II)I"⟩
abbrev cX11_change : ByteArray := prog_1_method_13_code
def yX11_change : MethodName := ⟨RX11, "change", "(II)I"⟩
abbrev cX11_undo : ByteArray := prog_1_method_14_code
def yX11_undo : MethodName := ⟨RX11, "undo", "()I"⟩
abbrev cX11_ahead : ByteArray := prog_1_method_15_code
def yX11_ahead : MethodName := ⟨RX11, "ahead", "(III)I"⟩
abbrev cX11_buys : ByteArray := prog_1_method_16_code
def yX11_buys : MethodName := ⟨RX11, "buys", "(I)I"⟩
abbrev cX11_empty : ByteArray := prog_1_method_17_code
def yX11_empty : MethodName := ⟨RX11, "empty", "()I"⟩
abbrev cX11_tells : ByteArray := prog_1_method_18_code
def yX11_tells : MethodName := ⟨RX11, "tells", "(II)I"⟩
abbrev cX11_guard : ByteArray := prog_1_method_19_code
def yX11_guard : MethodName := ⟨RX11, "guard", "(II)I"⟩
abbrev cX11_best : ByteArray := prog_1_method_20_code
def yX11_best : MethodName := ⟨RX11, "best", "(II)I"⟩
abbrev cX11_least : ByteArray := prog_1_method_21_code
def yX11_least : MethodName := ⟨RX11, "least", "(II)I"⟩
abbrev cX11_soothe : ByteArray := prog_1_method_22_code
def yX11_soothe : MethodName := ⟨RX11, "soothe", "(II)I"⟩
abbrev cX11_page : ByteArray := prog_1_method_23_code
def yX11_page : MethodName := ⟨RX11, "page", "(II)I"⟩
abbrev cX11_fines : ByteArray := prog_1_method_24_code
def yX11_fines : MethodName := ⟨RX11, "fines", "(II)I"⟩
abbrev cX11_rests : ByteArray := prog_1_method_25_code
def yX11_rests : MethodName := ⟨RX11, "rests", "(IIII)I"⟩
abbrev cX11_ring : ByteArray := prog_1_method_26_code
def yX11_ring : MethodName := ⟨RX11, "ring", "(I)I"⟩
abbrev cX11_peak : ByteArray := prog_1_method_27_code
def yX11_peak : MethodName := ⟨RX11, "peak", "(II)I"⟩
abbrev cX11_note : ByteArray := prog_1_method_28_code
def yX11_note : MethodName := ⟨RX11, "note", "(III)I"⟩
abbrev cX11_ruled : ByteArray := prog_1_method_29_code
def yX11_ruled : MethodName := ⟨RX11, "ruled", "(I)I"⟩
abbrev cX11_look : ByteArray := prog_1_method_30_code
def yX11_look : MethodName := ⟨RX11, "look", "(I)I"⟩
abbrev cX11_seed : ByteArray := prog_1_method_31_code
def yX11_seed : MethodName := ⟨RX11, "seed", "(I)I"⟩
abbrev cX11_summers : ByteArray := prog_1_method_32_code
def yX11_summers : MethodName := ⟨RX11, "summers", "(IIII)I"⟩
abbrev cX11_count : ByteArray := prog_1_method_33_code
def yX11_count : MethodName := ⟨RX11, "count", "(I)I"⟩
abbrev cX11_image : ByteArray := prog_1_method_34_code
def yX11_image : MethodName := ⟨RX11, "image", "(I)I"⟩
abbrev cX11_back : ByteArray := prog_1_method_35_code
def yX11_back : MethodName := ⟨RX11, "back", "(I)I"⟩
abbrev cX11_isWithin : ByteArray := prog_1_method_36_code
def yX11_isWithin : MethodName := ⟨RX11, "isWithin", "(III)Z"⟩
abbrev cX11_ruleInForce : ByteArray := prog_1_method_37_code
def yX11_ruleInForce : MethodName := ⟨RX11, "ruleInForce", "()LPoisonBook$Rule;"⟩
def RX12 : String := "PoisonBookModel"
def TX12 : u_T := fun k => match k with
  | 0 => ("PoisonBookModel", "tape", "[B", true)
  | 1 => ("PoisonBookModel", "taped", "I", false)
  | 2 => ("PoisonBookModel", "rules", "I", false)
  | 3 => ("PoisonBookModel", "sign", "[I", true)
  | 4 => ("PoisonBookModel", "length", "[I", true)
  | 5 => ("PoisonBookModel", "clause", "[I", true)
  | 6 => ("PoisonBookModel", "clauses", "[I", true)
  | 7 => ("PoisonBookModel", "read", "[I", true)
  | 8 => ("PoisonBookModel", "next", "I", false)
  | 9 => ("PoisonBookModel", "wrong", "I", false)
  | 10 => ("PoisonBookModel", "number", "I", false)
  | 11 => ("PoisonBookModel", "text", "I", false)
  | 12 => ("PoisonBookModel", "made", "I", false)
  | 13 => ("PoisonBookModel", "deep", "I", false)
  | 14 => ("PoisonBookModel", "lines", "I", false)
  | 15 => ("PoisonBookModel", "open", "[I", true)
  | 16 => ("PoisonBookModel", "opened", "I", false)
  | 17 => ("PoisonBookModel", "stack", "[J", true)
  | 18 => ("PoisonBookModel", "top", "I", false)
  | 19 => ("PoisonBookModel", "word", "[J", true)
  | 20 => ("PoisonBookModel", "said", "[I", true)
  | 21 => ("PoisonBookModel", "force", "I", false)
  | 22 => ("PoisonBookModel", "x", "I", false)
  | 23 => ("PoisonBookModel", "guarded", "I", false)
  | 24 => ("PoisonBookModel", "wasSaid", "[I", true)
  | 25 => ("PoisonBookModel", "undone", "I", false)
  | 26 => ("PoisonBookModel", "kept", "[I", true)
  | 27 => ("PoisonBookModel", "hasBy", "[I", true)
  | 28 => ("PoisonBookModel", "thenAll", "[I", true)
  | 29 => ("PoisonBookModel", "isFit", "[Z", true)
  | 30 => ("PoisonBookModel", "whoBy", "[I", true)
  | 31 => ("PoisonBookModel", "drawX", "J", false)
  | 32 => ("PoisonBookModel", "images", "[I", true)
  | 33 => ("PoisonBookModel", "imageForce", "[I", true)
  | 34 => ("PoisonBookModel", "imageX", "[I", true)
  | _ => ("PoisonBookModel", "isMade", "[Z", true)
def tyX12 : Nat → FieldType := fun k => match k with
  | 0 => .array .byte
  | 1 => .int
  | 2 => .int
  | 3 => .array .int
  | 4 => .array .int
  | 5 => .array .int
  | 6 => .array .int
  | 7 => .array .int
  | 8 => .int
  | 9 => .int
  | 10 => .int
  | 11 => .int
  | 12 => .int
  | 13 => .int
  | 14 => .int
  | 15 => .array .int
  | 16 => .int
  | 17 => .array .long
  | 18 => .int
  | 19 => .array .long
  | 20 => .array .int
  | 21 => .int
  | 22 => .int
  | 23 => .int
  | 24 => .array .int
  | 25 => .int
  | 26 => .array .int
  | 27 => .array .int
  | 28 => .array .int
  | 29 => .array .boolean
  | 30 => .array .int
  | 31 => .long
  | 32 => .array .int
  | 33 => .array .int
  | 34 => .array .int
  | _ => .array .boolean
abbrev wsX120 : List Cond := u_ws RX12 TX12 36
theorem nmX12 : ∀ a, a < 36 → ∀ b, b < 36 → a ≠ b → (TX12 a).2.1 ≠ (TX12 b).2.1 := by decide +kernel
theorem tyX12_ok : ∀ k, k < 36 → parseFieldDescriptor (TX12 k).2.2.1 = some (tyX12 k) := by decide +kernel
abbrev cX12_init : ByteArray := prog_14_method_1_code
def yX12_init : MethodName := ⟨RX12, "<init>", "()V"⟩
abbrev cX12_in : ByteArray := prog_14_method_2_code
def yX12_in : MethodName := ⟨RX12, "in", "(JJJ)Z"⟩
abbrev cX12_isOf : ByteArray := prog_14_method_3_code
def yX12_isOf : MethodName := ⟨RX12, "isOf", "(II)Z"⟩
abbrev cX12_bits : ByteArray := prog_14_method_4_code
def yX12_bits : MethodName := ⟨RX12, "bits", "(I)I"⟩
abbrev cX12_four : ByteArray := prog_14_method_5_code
def yX12_four : MethodName := ⟨RX12, "four", "(I)V"⟩
abbrev cX12_feed : ByteArray := prog_14_method_6_code
def yX12_feed : MethodName := ⟨RX12, "feed", "(IIIII)I"⟩
abbrev cX12_end : ByteArray := prog_14_method_7_code
def yX12_end : MethodName := ⟨RX12, "end", "(I)I"⟩
abbrev cX12_fails : ByteArray := prog_14_method_8_code
def yX12_fails : MethodName := ⟨RX12, "fails", "(II)Z"⟩
abbrev cX12_see : ByteArray := prog_14_method_9_code
def yX12_see : MethodName := ⟨RX12, "see", "()I"⟩
abbrev cX12_isDigit : ByteArray := prog_14_method_10_code
def yX12_isDigit : MethodName := ⟨RX12, "isDigit", "(I)Z"⟩
abbrev cX12_isLetter : ByteArray := prog_14_method_11_code
def yX12_isLetter : MethodName := ⟨RX12, "isLetter", "(I)Z"⟩
abbrev cX12_isWord : ByteArray := prog_14_method_12_code
def yX12_isWord : MethodName := ⟨RX12, "isWord", "(J)Z"⟩
abbrev cX12_passWord : ByteArray := prog_14_method_13_code
def yX12_passWord : MethodName := ⟨RX12, "passWord", "()V"⟩
abbrev cX12_takesWord : ByteArray := prog_14_method_14_code
def yX12_takesWord : MethodName := ⟨RX12, "takesWord", "(J)Z"⟩
abbrev cX12_numberHere : ByteArray := prog_14_method_15_code
def yX12_numberHere : MethodName := ⟨RX12, "numberHere", "(II)Z"⟩
abbrev cX12_wordHere : ByteArray := prog_14_method_16_code
def yX12_wordHere : MethodName := ⟨RX12, "wordHere", "()I"⟩
abbrev cX12_puts : ByteArray := prog_14_method_17_code
def yX12_puts : MethodName := ⟨RX12, "puts", "(II)V"⟩
abbrev cX12_makes : ByteArray := prog_14_method_18_code
def yX12_makes : MethodName := ⟨RX12, "makes", "(I)Z"⟩
abbrev cX12_opens : ByteArray := prog_14_method_19_code
def yX12_opens : MethodName := ⟨RX12, "opens", "(I)Z"⟩
abbrev cX12_strength : ByteArray := prog_14_method_20_code
def yX12_strength : MethodName := ⟨RX12, "strength", "(I)I"⟩
abbrev cX12_layDown : ByteArray := prog_14_method_21_code
def yX12_layDown : MethodName := ⟨RX12, "layDown", "(I)V"⟩
abbrev cX12_value : ByteArray := prog_14_method_22_code
def yX12_value : MethodName := ⟨RX12, "value", "()Z"⟩
abbrev cX12_term : ByteArray := prog_14_method_23_code
def yX12_term : MethodName := ⟨RX12, "term", "()Z"⟩
abbrev cX12_sum : ByteArray := prog_14_method_24_code
def yX12_sum : MethodName := ⟨RX12, "sum", "()Z"⟩
abbrev cX12_compare : ByteArray := prog_14_method_25_code
def yX12_compare : MethodName := ⟨RX12, "compare", "()Z"⟩
abbrev cX12_fact : ByteArray := prog_14_method_26_code
def yX12_fact : MethodName := ⟨RX12, "fact", "()Z"⟩
abbrev cX12_isInside : ByteArray := prog_14_method_27_code
def yX12_isInside : MethodName := ⟨RX12, "isInside", "()Z"⟩
abbrev cX12_closes : ByteArray := prog_14_method_28_code
def yX12_closes : MethodName := ⟨RX12, "closes", "()V"⟩
abbrev cX12_tested : ByteArray := prog_14_method_29_code
def yX12_tested : MethodName := ⟨RX12, "tested", "()Z"⟩
abbrev cX12_isBuyHere : ByteArray := prog_14_method_30_code
def yX12_isBuyHere : MethodName := ⟨RX12, "isBuyHere", "()Z"⟩
abbrev cX12_cellHere : ByteArray := prog_14_method_31_code
def yX12_cellHere : MethodName := ⟨RX12, "cellHere", "(III)Z"⟩
abbrev cX12_isBookHere : ByteArray := prog_14_method_32_code
def yX12_isBookHere : MethodName := ⟨RX12, "isBookHere", "(I)Z"⟩
abbrev cX12_isSkyHere : ByteArray := prog_14_method_33_code
def yX12_isSkyHere : MethodName := ⟨RX12, "isSkyHere", "()Z"⟩
abbrev cX12_isBuyerHere : ByteArray := prog_14_method_34_code
def yX12_isBuyerHere : MethodName := ⟨RX12, "isBuyerHere", "(I)Z"⟩
abbrev cX12_isWatchHere : ByteArray := prog_14_method_35_code
def yX12_isWatchHere : MethodName := ⟨RX12, "isWatchHere", "()Z"⟩
abbrev cX12_bookLineHere : ByteArray := prog_14_method_36_code
def yX12_bookLineHere : MethodName := ⟨RX12, "bookLineHere", "(I)Z"⟩
abbrev cX12_isBookWord : ByteArray := prog_14_method_37_code
def yX12_isBookWord : MethodName := ⟨RX12, "isBookWord", "()Z"⟩
abbrev cX12_clauseHere : ByteArray := prog_14_method_38_code
def yX12_clauseHere : MethodName := ⟨RX12, "clauseHere", "()Z"⟩
abbrev cX12_readsAll : ByteArray := prog_14_method_39_code
def yX12_readsAll : MethodName := ⟨RX12, "readsAll", "()Z"⟩
abbrev cX12_rule : ByteArray := prog_14_method_40_code
def yX12_rule : MethodName := ⟨RX12, "rule", "()I"⟩
abbrev cX12_book : ByteArray := prog_14_method_41_code
def yX12_book : MethodName := ⟨RX12, "book", "()I"⟩
abbrev cX12_isRule : ByteArray := prog_14_method_42_code
def yX12_isRule : MethodName := ⟨RX12, "isRule", "(I)Z"⟩
abbrev cX12_push : ByteArray := prog_14_method_43_code
def yX12_push : MethodName := ⟨RX12, "push", "(J)V"⟩
abbrev cX12_pop : ByteArray := prog_14_method_44_code
def yX12_pop : MethodName := ⟨RX12, "pop", "()J"⟩
abbrev cX12_one : ByteArray := prog_14_method_45_code
def yX12_one : MethodName := ⟨RX12, "one", "(IJJ)J"⟩
abbrev cX12_reckons : ByteArray := prog_14_method_46_code
def yX12_reckons : MethodName := ⟨RX12, "reckons", "(III)J"⟩
abbrev cX12_isBook : ByteArray := prog_14_method_47_code
def yX12_isBook : MethodName := ⟨RX12, "isBook", "()Z"⟩
abbrev cX12_isBuyer : ByteArray := prog_14_method_48_code
def yX12_isBuyer : MethodName := ⟨RX12, "isBuyer", "(I)Z"⟩
abbrev cX12_isClock : ByteArray := prog_14_method_49_code
def yX12_isClock : MethodName := ⟨RX12, "isClock", "(I)Z"⟩
abbrev cX12_temperOf : ByteArray := prog_14_method_50_code
def yX12_temperOf : MethodName := ⟨RX12, "temperOf", "(I)I"⟩
abbrev cX12_boughtBy : ByteArray := prog_14_method_51_code
def yX12_boughtBy : MethodName := ⟨RX12, "boughtBy", "(I)I"⟩
abbrev cX12_metOf : ByteArray := prog_14_method_52_code
def yX12_metOf : MethodName := ⟨RX12, "metOf", "(I)I"⟩
abbrev cX12_lastOf : ByteArray := prog_14_method_53_code
def yX12_lastOf : MethodName := ⟨RX12, "lastOf", "(I)I"⟩
abbrev cX12_sinceOf : ByteArray := prog_14_method_54_code
def yX12_sinceOf : MethodName := ⟨RX12, "sinceOf", "(I)I"⟩
abbrev cX12_clock : ByteArray := prog_14_method_55_code
def yX12_clock : MethodName := ⟨RX12, "clock", "()I"⟩
abbrev cX12_soldAll : ByteArray := prog_14_method_56_code
def yX12_soldAll : MethodName := ⟨RX12, "soldAll", "()I"⟩
abbrev cX12_metAll : ByteArray := prog_14_method_57_code
def yX12_metAll : MethodName := ⟨RX12, "metAll", "()I"⟩
abbrev cX12_canBuy : ByteArray := prog_14_method_58_code
def yX12_canBuy : MethodName := ⟨RX12, "canBuy", "(I)Z"⟩
abbrev cX12_begins : ByteArray := prog_14_method_59_code
def yX12_begins : MethodName := ⟨RX12, "begins", "()V"⟩
abbrev cX12_force : ByteArray := prog_14_method_60_code
def yX12_force : MethodName := ⟨RX12, "force", "(I)I"⟩
abbrev cX12_buyer : ByteArray := prog_14_method_61_code
def yX12_buyer : MethodName := ⟨RX12, "buyer", "(II)I"⟩
abbrev cX12_sky : ByteArray := prog_14_method_62_code
def yX12_sky : MethodName := ⟨RX12, "sky", "(II)I"⟩
abbrev cX12_summedBy : ByteArray := prog_14_method_63_code
def yX12_summedBy : MethodName := ⟨RX12, "summedBy", "(I)J"⟩
abbrev cX12_isWilling : ByteArray := prog_14_method_64_code
def yX12_isWilling : MethodName := ⟨RX12, "isWilling", "(I)Z"⟩
abbrev cX12_takes : ByteArray := prog_14_method_65_code
def yX12_takes : MethodName := ⟨RX12, "takes", "(I)V"⟩
abbrev cX12_isMet : ByteArray := prog_14_method_66_code
def yX12_isMet : MethodName := ⟨RX12, "isMet", "(I)Z"⟩
abbrev cX12_comes : ByteArray := prog_14_method_67_code
def yX12_comes : MethodName := ⟨RX12, "comes", "(I)Z"⟩
abbrev cX12_weathers : ByteArray := prog_14_method_68_code
def yX12_weathers : MethodName := ⟨RX12, "weathers", "()V"⟩
abbrev cX12_passes : ByteArray := prog_14_method_69_code
def yX12_passes : MethodName := ⟨RX12, "passes", "()I"⟩
abbrev cX12_passesAll : ByteArray := prog_14_method_70_code
def yX12_passesAll : MethodName := ⟨RX12, "passesAll", "(I)V"⟩
abbrev cX12_keepsAct : ByteArray := prog_14_method_71_code
def yX12_keepsAct : MethodName := ⟨RX12, "keepsAct", "()V"⟩
abbrev cX12_undo : ByteArray := prog_14_method_72_code
def yX12_undo : MethodName := ⟨RX12, "undo", "()I"⟩
abbrev cX12_day : ByteArray := prog_14_method_73_code
def yX12_day : MethodName := ⟨RX12, "day", "()I"⟩
abbrev cX12_sell : ByteArray := prog_14_method_74_code
def yX12_sell : MethodName := ⟨RX12, "sell", "(I)I"⟩
abbrev cX12_calm : ByteArray := prog_14_method_75_code
def yX12_calm : MethodName := ⟨RX12, "calm", "(II)I"⟩
abbrev cX12_watch : ByteArray := prog_14_method_76_code
def yX12_watch : MethodName := ⟨RX12, "watch", "(II)I"⟩
abbrev cX12_change : ByteArray := prog_14_method_77_code
def yX12_change : MethodName := ⟨RX12, "change", "(II)I"⟩
abbrev cX12_keeps : ByteArray := prog_14_method_78_code
def yX12_keeps : MethodName := ⟨RX12, "keeps", "()V"⟩
abbrev cX12_laysBack : ByteArray := prog_14_method_79_code
def yX12_laysBack : MethodName := ⟨RX12, "laysBack", "()V"⟩
abbrev cX12_ahead : ByteArray := prog_14_method_80_code
def yX12_ahead : MethodName := ⟨RX12, "ahead", "(III)I"⟩
abbrev cX12_buysIn : ByteArray := prog_14_method_81_code
def yX12_buysIn : MethodName := ⟨RX12, "buysIn", "(II)I"⟩
abbrev cX12_buys : ByteArray := prog_14_method_82_code
def yX12_buys : MethodName := ⟨RX12, "buys", "(I)I"⟩
abbrev cX12_empty : ByteArray := prog_14_method_83_code
def yX12_empty : MethodName := ⟨RX12, "empty", "()I"⟩
abbrev cX12_common : ByteArray := prog_14_method_84_code
def yX12_common : MethodName := ⟨RX12, "common", "(II)I"⟩
abbrev cX12_tells : ByteArray := prog_14_method_85_code
def yX12_tells : MethodName := ⟨RX12, "tells", "(II)I"⟩
abbrev cX12_soldIn : ByteArray := prog_14_method_86_code
def yX12_soldIn : MethodName := ⟨RX12, "soldIn", "(I)I"⟩
abbrev cX12_guard : ByteArray := prog_14_method_87_code
def yX12_guard : MethodName := ⟨RX12, "guard", "(II)I"⟩
abbrev cX12_best : ByteArray := prog_14_method_88_code
def yX12_best : MethodName := ⟨RX12, "best", "(II)I"⟩
abbrev cX12_least : ByteArray := prog_14_method_89_code
def yX12_least : MethodName := ⟨RX12, "least", "(II)I"⟩
abbrev cX12_soothe : ByteArray := prog_14_method_90_code
def yX12_soothe : MethodName := ⟨RX12, "soothe", "(II)I"⟩
abbrev cX12_grainsOf : ByteArray := prog_14_method_91_code
def yX12_grainsOf : MethodName := ⟨RX12, "grainsOf", "(I)I"⟩
abbrev cX12_page : ByteArray := prog_14_method_92_code
def yX12_page : MethodName := ⟨RX12, "page", "(II)I"⟩
abbrev cX12_fines : ByteArray := prog_14_method_93_code
def yX12_fines : MethodName := ⟨RX12, "fines", "(II)I"⟩
abbrev cX12_isRest : ByteArray := prog_14_method_94_code
def yX12_isRest : MethodName := ⟨RX12, "isRest", "(II)Z"⟩
abbrev cX12_valueOf : ByteArray := prog_14_method_95_code
def yX12_valueOf : MethodName := ⟨RX12, "valueOf", "(I)I"⟩
abbrev cX12_rests : ByteArray := prog_14_method_96_code
def yX12_rests : MethodName := ⟨RX12, "rests", "(IIII)I"⟩
abbrev cX12_areAlike : ByteArray := prog_14_method_97_code
def yX12_areAlike : MethodName := ⟨RX12, "areAlike", "(II)Z"⟩
abbrev cX12_ring : ByteArray := prog_14_method_98_code
def yX12_ring : MethodName := ⟨RX12, "ring", "(I)I"⟩
abbrev cX12_peak : ByteArray := prog_14_method_99_code
def yX12_peak : MethodName := ⟨RX12, "peak", "(II)I"⟩
abbrev cX12_note : ByteArray := prog_14_method_100_code
def yX12_note : MethodName := ⟨RX12, "note", "(III)I"⟩
abbrev cX12_spot : ByteArray := prog_14_method_101_code
def yX12_spot : MethodName := ⟨RX12, "spot", "(II)I"⟩
abbrev cX12_areNotesSo : ByteArray := prog_14_method_102_code
def yX12_areNotesSo : MethodName := ⟨RX12, "areNotesSo", "(I)Z"⟩
abbrev cX12_fillsFits : ByteArray := prog_14_method_103_code
def yX12_fillsFits : MethodName := ⟨RX12, "fillsFits", "()V"⟩
abbrev cX12_ruled : ByteArray := prog_14_method_104_code
def yX12_ruled : MethodName := ⟨RX12, "ruled", "(I)I"⟩
abbrev cX12_alikeAt : ByteArray := prog_14_method_105_code
def yX12_alikeAt : MethodName := ⟨RX12, "alikeAt", "(I)I"⟩
abbrev cX12_look : ByteArray := prog_14_method_106_code
def yX12_look : MethodName := ⟨RX12, "look", "(I)I"⟩
abbrev cX12_seed : ByteArray := prog_14_method_107_code
def yX12_seed : MethodName := ⟨RX12, "seed", "(I)I"⟩
abbrev cX12_draw : ByteArray := prog_14_method_108_code
def yX12_draw : MethodName := ⟨RX12, "draw", "(I)I"⟩
abbrev cX12_summers : ByteArray := prog_14_method_109_code
def yX12_summers : MethodName := ⟨RX12, "summers", "(IIII)I"⟩
abbrev cX12_count : ByteArray := prog_14_method_110_code
def yX12_count : MethodName := ⟨RX12, "count", "(I)I"⟩
abbrev cX12_image : ByteArray := prog_14_method_111_code
def yX12_image : MethodName := ⟨RX12, "image", "(I)I"⟩
abbrev cX12_back : ByteArray := prog_14_method_112_code
def yX12_back : MethodName := ⟨RX12, "back", "(I)I"⟩
def RJx145de : String := "java/io/Serializable"
def TJx145de : u_T := fun k => match k with
  | _ => ("", "", "", false)
def tyJx145de : Nat → FieldType := fun k => match k with
  | _ => .int
abbrev wsJx145de0 : List Cond := u_ws RJx145de TJx145de 0
theorem nmJx145de : ∀ a, a < 0 → ∀ b, b < 0 → a ≠ b → (TJx145de a).2.1 ≠ (TJx145de b).2.1 := by decide +kernel
theorem tyJx145de_ok : ∀ k, k < 0 → parseFieldDescriptor (TJx145de k).2.2.1 = some (tyJx145de k) := by decide +kernel
def RJx9f9b0 : String := "java/lang/CharSequence"
def TJx9f9b0 : u_T := fun k => match k with
  | _ => ("", "", "", false)
def tyJx9f9b0 : Nat → FieldType := fun k => match k with
  | _ => .int
abbrev wsJx9f9b00 : List Cond := u_ws RJx9f9b0 TJx9f9b0 0
theorem nmJx9f9b0 : ∀ a, a < 0 → ∀ b, b < 0 → a ≠ b → (TJx9f9b0 a).2.1 ≠ (TJx9f9b0 b).2.1 := by decide +kernel
theorem tyJx9f9b0_ok : ∀ k, k < 0 → parseFieldDescriptor (TJx9f9b0 k).2.2.1 = some (tyJx9f9b0 k) := by decide +kernel
def RJx8e188 : String := "java/lang/Cloneable"
def TJx8e188 : u_T := fun k => match k with
  | _ => ("", "", "", false)
def tyJx8e188 : Nat → FieldType := fun k => match k with
  | _ => .int
abbrev wsJx8e1880 : List Cond := u_ws RJx8e188 TJx8e188 0
theorem nmJx8e188 : ∀ a, a < 0 → ∀ b, b < 0 → a ≠ b → (TJx8e188 a).2.1 ≠ (TJx8e188 b).2.1 := by decide +kernel
theorem tyJx8e188_ok : ∀ k, k < 0 → parseFieldDescriptor (TJx8e188 k).2.2.1 = some (tyJx8e188 k) := by decide +kernel
def RJxb160c : String := "java/lang/Comparable"
def TJxb160c : u_T := fun k => match k with
  | _ => ("", "", "", false)
def tyJxb160c : Nat → FieldType := fun k => match k with
  | _ => .int
abbrev wsJxb160c0 : List Cond := u_ws RJxb160c TJxb160c 0
theorem nmJxb160c : ∀ a, a < 0 → ∀ b, b < 0 → a ≠ b → (TJxb160c a).2.1 ≠ (TJxb160c b).2.1 := by decide +kernel
theorem tyJxb160c_ok : ∀ k, k < 0 → parseFieldDescriptor (TJxb160c k).2.2.1 = some (tyJxb160c k) := by decide +kernel
def RJ6 : String := "java/lang/Integer"
def TJ6 : u_T := fun k => match k with
  | _ => ("", "", "", false)
def tyJ6 : Nat → FieldType := fun k => match k with
  | _ => .int
abbrev wsJ60 : List Cond := u_ws RJ6 TJ6 0
theorem nmJ6 : ∀ a, a < 0 → ∀ b, b < 0 → a ≠ b → (TJ6 a).2.1 ≠ (TJ6 b).2.1 := by decide +kernel
theorem tyJ6_ok : ∀ k, k < 0 → parseFieldDescriptor (TJ6 k).2.2.1 = some (tyJ6 k) := by decide +kernel
abbrev cJ6_bitCount_0f7a4 : ByteArray := prog_16_method_49_code
def yJ6_bitCount_0f7a4 : MethodName := ⟨RJ6, "bitCount", "(I)I"⟩
def RJ9 : String := "java/lang/Math"
def TJ9 : u_T := fun k => match k with
  | _ => ("", "", "", false)
def tyJ9 : Nat → FieldType := fun k => match k with
  | _ => .int
abbrev wsJ90 : List Cond := u_ws RJ9 TJ9 0
theorem nmJ9 : ∀ a, a < 0 → ∀ b, b < 0 → a ≠ b → (TJ9 a).2.1 ≠ (TJ9 b).2.1 := by decide +kernel
theorem tyJ9_ok : ∀ k, k < 0 → parseFieldDescriptor (TJ9 k).2.2.1 = some (tyJ9 k) := by decide +kernel
abbrev cJ9_max_7cf53 : ByteArray := prog_17_method_65_code
def yJ9_max_7cf53 : MethodName := ⟨RJ9, "max", "(II)I"⟩
abbrev cJ9_min_7cf53 : ByteArray := prog_17_method_69_code
def yJ9_min_7cf53 : MethodName := ⟨RJ9, "min", "(II)I"⟩
def RJ0 : String := "java/lang/String"
def TJ0 : u_T := fun k => match k with
  | _ => ("", "", "", false)
def tyJ0 : Nat → FieldType := fun k => match k with
  | _ => .int
abbrev wsJ00 : List Cond := u_ws RJ0 TJ0 0
theorem nmJ0 : ∀ a, a < 0 → ∀ b, b < 0 → a ≠ b → (TJ0 a).2.1 ≠ (TJ0 b).2.1 := by decide +kernel
theorem tyJ0_ok : ∀ k, k < 0 → parseFieldDescriptor (TJ0 k).2.2.1 = some (tyJ0 k) := by decide +kernel
abbrev cJ0_length_8abf5 : ByteArray := prog_18_method_54_code
def yJ0_length_8abf5 : MethodName := ⟨RJ0, "length", "()I"⟩
abbrev cJ0_charAt_5068e : ByteArray := prog_18_method_56_code
def yJ0_charAt_5068e : MethodName := ⟨RJ0, "charAt", "(I)C"⟩
abbrev cJ0_coder_7d493 : ByteArray := prog_18_method_152_code
def yJ0_coder_7d493 : MethodName := ⟨RJ0, "coder", "()B"⟩
abbrev cJ0_isLatin1_aae02 : ByteArray := prog_18_method_154_code
def yJ0_isLatin1_aae02 : MethodName := ⟨RJ0, "isLatin1", "()Z"⟩
abbrev cJ0_checkIndex_df160 : ByteArray := prog_18_method_155_code
def yJ0_checkIndex_df160 : MethodName := ⟨RJ0, "checkIndex", "(II)V"⟩
def RJ1 : String := "java/lang/StringLatin1"
def TJ1 : u_T := fun k => match k with
  | _ => ("", "", "", false)
def tyJ1 : Nat → FieldType := fun k => match k with
  | _ => .int
abbrev wsJ10 : List Cond := u_ws RJ1 TJ1 0
theorem nmJ1 : ∀ a, a < 0 → ∀ b, b < 0 → a ≠ b → (TJ1 a).2.1 ≠ (TJ1 b).2.1 := by decide +kernel
theorem tyJ1_ok : ∀ k, k < 0 → parseFieldDescriptor (TJ1 k).2.2.1 = some (tyJ1 k) := by decide +kernel
abbrev cJ1_charAt_3b067 : ByteArray := prog_19_method_2_code
def yJ1_charAt_3b067 : MethodName := ⟨RJ1, "charAt", "([BI)C"⟩
def RJ2 : String := "java/lang/StringUTF16"
def TJ2 : u_T := fun k => match k with
  | _ => ("", "", "", false)
def tyJ2 : Nat → FieldType := fun k => match k with
  | _ => .int
abbrev wsJ20 : List Cond := u_ws RJ2 TJ2 0
theorem nmJ2 : ∀ a, a < 0 → ∀ b, b < 0 → a ≠ b → (TJ2 a).2.1 ≠ (TJ2 b).2.1 := by decide +kernel
theorem tyJ2_ok : ∀ k, k < 0 → parseFieldDescriptor (TJ2 k).2.2.1 = some (tyJ2 k) := by decide +kernel
abbrev cJ2_getChar_3b067 : ByteArray := prog_20_method_5_code
def yJ2_getChar_3b067 : MethodName := ⟨RJ2, "getChar", "([BI)C"⟩
abbrev cJ2_length_9d52b : ByteArray := prog_20_method_6_code
def yJ2_length_9d52b : MethodName := ⟨RJ2, "length", "([B)I"⟩
abbrev cJ2_charAt_3b067 : ByteArray := prog_20_method_83_code
def yJ2_charAt_3b067 : MethodName := ⟨RJ2, "charAt", "([BI)C"⟩
abbrev cJ2_checkIndex_2214a : ByteArray := prog_20_method_91_code
def yJ2_checkIndex_2214a : MethodName := ⟨RJ2, "checkIndex", "(I[B)V"⟩
def RJ10 : String := "java/lang/System"
def TJ10 : u_T := fun k => match k with
  | _ => ("", "", "", false)
def tyJ10 : Nat → FieldType := fun k => match k with
  | _ => .int
abbrev wsJ100 : List Cond := u_ws RJ10 TJ10 0
theorem nmJ10 : ∀ a, a < 0 → ∀ b, b < 0 → a ≠ b → (TJ10 a).2.1 ≠ (TJ10 b).2.1 := by decide +kernel
theorem tyJ10_ok : ∀ k, k < 0 → parseFieldDescriptor (TJ10 k).2.2.1 = some (tyJ10 k) := by decide +kernel
def RJxfd54e : String := "java/lang/constant/Constable"
def TJxfd54e : u_T := fun k => match k with
  | _ => ("", "", "", false)
def tyJxfd54e : Nat → FieldType := fun k => match k with
  | _ => .int
abbrev wsJxfd54e0 : List Cond := u_ws RJxfd54e TJxfd54e 0
theorem nmJxfd54e : ∀ a, a < 0 → ∀ b, b < 0 → a ≠ b → (TJxfd54e a).2.1 ≠ (TJxfd54e b).2.1 := by decide +kernel
theorem tyJxfd54e_ok : ∀ k, k < 0 → parseFieldDescriptor (TJxfd54e k).2.2.1 = some (tyJxfd54e k) := by decide +kernel
def RJx3cf43 : String := "java/lang/constant/ConstantDesc"
def TJx3cf43 : u_T := fun k => match k with
  | _ => ("", "", "", false)
def tyJx3cf43 : Nat → FieldType := fun k => match k with
  | _ => .int
abbrev wsJx3cf430 : List Cond := u_ws RJx3cf43 TJx3cf43 0
theorem nmJx3cf43 : ∀ a, a < 0 → ∀ b, b < 0 → a ≠ b → (TJx3cf43 a).2.1 ≠ (TJx3cf43 b).2.1 := by decide +kernel
theorem tyJx3cf43_ok : ∀ k, k < 0 → parseFieldDescriptor (TJx3cf43 k).2.2.1 = some (tyJx3cf43 k) := by decide +kernel
def RJ7 : String := "java/util/Arrays"
def TJ7 : u_T := fun k => match k with
  | _ => ("", "", "", false)
def tyJ7 : Nat → FieldType := fun k => match k with
  | _ => .int
abbrev wsJ70 : List Cond := u_ws RJ7 TJ7 0
theorem nmJ7 : ∀ a, a < 0 → ∀ b, b < 0 → a ≠ b → (TJ7 a).2.1 ≠ (TJ7 b).2.1 := by decide +kernel
theorem tyJ7_ok : ∀ k, k < 0 → parseFieldDescriptor (TJ7 k).2.2.1 = some (tyJ7 k) := by decide +kernel
abbrev cJ7_copyOf_59c91 : ByteArray := prog_22_method_123_code
def yJ7_copyOf_59c91 : MethodName := ⟨RJ7, "copyOf", "([II)[I"⟩
def RJ3 : String := "jdk/internal/util/Preconditions"
def TJ3 : u_T := fun k => match k with
  | _ => ("", "", "", false)
def tyJ3 : Nat → FieldType := fun k => match k with
  | _ => .int
abbrev wsJ30 : List Cond := u_ws RJ3 TJ3 0
theorem nmJ3 : ∀ a, a < 0 → ∀ b, b < 0 → a ≠ b → (TJ3 a).2.1 ≠ (TJ3 b).2.1 := by decide +kernel
theorem tyJ3_ok : ∀ k, k < 0 → parseFieldDescriptor (TJ3 k).2.2.1 = some (tyJ3 k) := by decide +kernel
abbrev cJ3_checkIndex_8e157 : ByteArray := prog_23_method_11_code
def yJ3_checkIndex_8e157 : MethodName := ⟨RJ3, "checkIndex", "(IILjava/util/function/BiFunction;)I"⟩
def RL : String := "PoisonBookLaw"
abbrev cL_law : ByteArray := code
def yL_law : MethodName := ⟨RL, "law", "([I)Z"⟩
end
section
/-! the layer: one word list for all methods; contracts of one shape; a call, an end, a start of a row each -/
/-- the words that hold in every warmed state -/
def gT : List Cond := lw_tbl.filter goodWord
theorem gm {w : Cond} (i : Nat) (h : lw_tbl[i]? = some w) (g : goodWord w = true) : w ∈ gT := List.mem_filter.mpr ⟨List.mem_of_getElem? h, g⟩
abbrev classes : List vw_C := [(RX0, TX0, 1), (RX1, TX1, 3), (RX2, TX2, 4), (RX3, TX3, 4), (RX4, TX4, 3), (RX5, TX5, 3), (RX6, TX6, 2), (RX7, TX7, 3), (RX8, TX8, 5), (RX9, TX9, 14), (RX10, TX10, 6), (RX11, TX11, 12), (RX12, TX12, 36)]
theorem iX0 : ∀ w ∈ u_ws RX0 TX0 1, w ∈ gT := by decide +kernel
theorem iX1 : ∀ w ∈ u_ws RX1 TX1 3, w ∈ gT := by decide +kernel
theorem iX2 : ∀ w ∈ u_ws RX2 TX2 4, w ∈ gT := by decide +kernel
theorem iX3 : ∀ w ∈ u_ws RX3 TX3 4, w ∈ gT := by decide +kernel
theorem iX4 : ∀ w ∈ u_ws RX4 TX4 3, w ∈ gT := by decide +kernel
theorem iX5 : ∀ w ∈ u_ws RX5 TX5 3, w ∈ gT := by decide +kernel
theorem iX6 : ∀ w ∈ u_ws RX6 TX6 2, w ∈ gT := by decide +kernel
theorem iX7 : ∀ w ∈ u_ws RX7 TX7 3, w ∈ gT := by decide +kernel
theorem iX8 : ∀ w ∈ u_ws RX8 TX8 5, w ∈ gT := by decide +kernel
theorem iX9 : ∀ w ∈ u_ws RX9 TX9 14, w ∈ gT := by decide +kernel
theorem iX10 : ∀ w ∈ u_ws RX10 TX10 6, w ∈ gT := by decide +kernel
theorem iX11 : ∀ w ∈ u_ws RX11 TX11 12, w ∈ gT := by decide +kernel
theorem iX12 : ∀ w ∈ u_ws RX12 TX12 36, w ∈ gT := by decide +kernel
abbrev tysOf (tc : Nat → ClassId) : List (ClassId × FieldType) := [(tc 0, .int), (tc 1, .long), (tc 2, .byte), (tc 3, .boolean), (tc 4, .object RX6), (tc 5, .object RX9), (tc 6, .object RX8)]
theorem good_T : gT.all goodWord = true := List.all_eq_true.mpr fun _ h => (List.mem_filter.mp h).2
abbrev Wd (y : MethodName) (b : ByteArray) (n : Nat) (r : Option FieldType) : List Cond := .code y b n r :: gT
theorem gd {y : MethodName} {b : ByteArray} {n : Nat} {r : Option FieldType} (h : Cond.code y b n r ∈ gT) : GoodIn gT (Wd y b n r) := fun w hw => by
  have hm : w ∈ gT := by
    rcases List.mem_cons.mp hw with e | e
    · rw [e]; exact h
    · exact e
  exact ⟨hm, good_of_word (List.all_eq_true.mp good_T w hm)⟩
def lenS : List Nat := [21, 3, 76, 2, 3, 3, 2]
def bytS : List (List Int32) := [
  [98,111,111,107,32,115,107,121,32,98,117,121,101,114,32,119,97,116,99,104,32],
  [98,117,121],
  [98,117,121,101,114,32,116,101,109,112,101,114,32,103,114,97,105,110,115,32,119,97,105,116,115,32,115,116,105,108,108,32,110,101,120,116,32,115,104,101,108,102,32,98,111,117,103,104,116,32,109,101,116,32,115,105,110,99,101,32,115,111,108,100,32,99,108,111,99,107,32,100,97,121,32],
  [105,102],
  [110,111,116],
  [97,110,100],
  [111,114]]
def sOwn : List (String × Nat × String) := [(RX0, 41, "book sky buyer watch "), (RX7, 31, "buy"), (RX7, 111, "buyer temper grains waits still next shelf bought met since sold clock day "), (RX7, 48, "if"), (RX7, 84, "not"), (RX7, 80, "and"), (RX7, 82, "or")]
/-- the String constants, and the statics that String's methods read -/
def Sx (sk : (Nat → Nat) × (Nat → Nat)) (A : Nat → Prop) (U : State) (H : Heap) : Prop :=
  vk_S 7 lenS bytS sk.1 sk.2 A U H ∧ va_Z "java/lang/String" "COMPACT_STRINGS" "Z" (.int 1) A U H ∧ va_Zq "jdk/internal/util/Preconditions" "SIOOBE_FORMATTER" "Ljava/util/function/BiFunction;" A U H ∧
  ∀ (i : Nat) (q : String × Nat × String), sOwn[i]? = some q → vk_R q.1 q.2.1 q.2.2 (sk.1 i) U
theorem Sx.narrow {sk : (Nat → Nat) × (Nat → Nat)} {A B : Nat → Prop} {U : State} {H : Heap} (h : Sx sk A U H) (hAB : ∀ q, B q → A q) : Sx sk B U H :=
  ⟨h.1.narrow hAB, h.2.1.narrow hAB, h.2.2.1.elim (fun z => Or.inl (z.narrow hAB)) (fun ⟨t, z⟩ => Or.inr ⟨t, z.narrow hAB⟩), h.2.2.2⟩
theorem Sx.kept {sk : (Nat → Nat) × (Nat → Nat)} {A : Nat → Prop} {U : State} {H H1 : Heap} (h : Sx sk A U H) (hq : ∀ a : Nat, a < H.size → ¬ A a → H1[a]? = H[a]?) : Sx sk A U H1 :=
  ⟨h.1.kept hq, h.2.1.kept hq, h.2.2.1.elim (fun z => Or.inl (z.kept hq)) (fun ⟨t, z⟩ => Or.inr ⟨t, z.kept hq⟩), h.2.2.2⟩
theorem Sx.warm {sk : (Nat → Nat) × (Nat → Nat)} {A : Nat → Prop} {s U : State} {H : Heap} (hW : s.WarmedH U.vm) (h : Sx sk A s H) : Sx sk A U H :=
  ⟨h.1.moved hW.alike, h.2.1.moved hW.alike, h.2.2.1.elim (fun z => Or.inl (z.moved hW.alike)) (fun ⟨t, z⟩ => Or.inr ⟨t, z.moved hW.alike⟩), fun i q hq => (h.2.2.2 i q hq).warm hW⟩
theorem Sx.same {sk : (Nat → Nat) × (Nat → Nat)} {A : Nat → Prop} {u U : State} {H : Heap} (hv : U.vm = u.vm) (h : Sx sk A u H) : Sx sk A U H := by
  have ha : u.vm.Alike U.vm := by rw [hv]; exact Vm.Alike.refl _
  exact ⟨h.1.moved ha, h.2.1.moved ha, h.2.2.1.elim (fun z => Or.inl (z.moved ha)) (fun ⟨t, z⟩ => Or.inr ⟨t, z.moved ha⟩), fun i q hq => (h.2.2.2 i q hq).same hv⟩
def QW {S : Type} (post : Option Value → S → Prop) (B : S → State → Prop) (A : Nat → Prop) : Array Value → State → Outcome → State → Prop := fun _ st oc t => (∃ (v : Option Value) (u : S), oc = .returned v ∧ post v u ∧ B u t) ∧ va_F A st t
abbrev BW {S : Type} (D : va_G) (cellsf : S → va_W) (A : Nat → Prop) : S → State → Prop := fun u t => va_P D classes (cellsf u) t.heap ∧ va_D A (cellsf u)
def PW (D : va_G) (tc : Nat → ClassId) (sk : (Nat → Nat) × (Nat → Nat)) (pre : va_W) (sz : Nat) : State → Prop := fun U => U.heap.size = sz ∧ va_P D classes pre U.heap ∧ va_K D classes (tysOf tc) U ∧ va_D (fun _ => True) pre ∧ Sx sk (va_A pre sz) U U.heap
def Ct {S : Type} (l : Launch) (y : MethodName) (b : ByteArray) (n : Nat) (r : Option FieldType) (rm : Room) (D : va_G) (tc : Nat → ClassId) (sk : (Nat → Nat) × (Nat → Nat)) (av : List Value) (pre : va_W) (post : Option Value → S → Prop) (cellsf : S → va_W) (mc ms : Nat) : Prop :=
  ∀ sz : Nat, Met l y (Wd y b n r) rm (va_Pc av (PW D tc sk pre sz)) (QW post (BW D cellsf (va_A pre sz)) (va_A pre sz)) mc ms (va_A pre sz)
theorem Ct.start {S : Type} {l : Launch} {y : MethodName} {b : ByteArray} {n : Nat} {r : Option FieldType} {rm : Room} {D : va_G} {tc : Nat → ClassId} {sk : (Nat → Nat) × (Nat → Nat)} {av : List Value} {pre : va_W} {post : Option Value → S → Prop} {cellsf : S → va_W} {mc ms : Nat} (hpl : plainName y.cls = true) (hlen : (lg_sl av).length ≤ n)
    (body : ∀ (p : Program) (e : Env) (s : State) (m : MethodId) (below : List Frame) (meth : Method) (c : Code) (A : Nat → Prop) (ls : Array Slot), p.tables.exec = Jvm.exec → c.code = b → meth.sig.returnType = r → meth.locks = false → meth.name = y.name → c.maxLocals = n → s.vm.findClass y.cls = some m.cls → (∀ w ∈ gT, w.before av.toArray s = true) → va_K D classes (tysOf tc) s → Sx sk A s s.heap → va_P D classes pre s.heap → va_D A pre → (∀ q, s.heap.size ≤ q → A q) → lv_has ls n (lv_args 0 av) → va_S A s.heap s.heap [] →
      W p l e rm s m av.toArray below meth c s.heap [] 0 0 (MQ below (QW post (BW D cellsf A) A) av.toArray s mc ms A) (F0 m 0 ls [])) : Ct l y b n r rm D tc sk av pre post cellsf mc ms := by
  intro sz
  refine Met.ofW (cc := b) (maxL := n) (ret := r) hpl rfl ?_
  intro p e s m args below meth c s₁ B hml hv
  obtain ⟨rfl, hsz, hP, hK, hD0, hX⟩ := hv
  subst hsz
  have hts := atoms_spec (ws := Wd y b n r) B.pre
  have hl := lv_entry av (n := n) hlen
  rw [lg_entry_eq]
  exact body p e s m below meth c (va_A pre s.heap.size) _ B.exec B.bytes B.returns B.notSynchronized (name_of_methodNamed B.named B.method).1 hml (findClass_of_methodNamed B.named) (fun w hw => hts w (List.mem_cons_of_mem _ hw)) hK hX hP hD0.self (fun q h => Or.inr h) hl va_S.rf
section LYR
variable {p : Program} {l : Launch} {e : Env} {R : Room} {s : State} {m : MethodId} {args : Array Value} {below : List Frame} {meth : Method} {c : Code} {H : Heap} {locs : List Loc} {cells slots : Nat} {Q : State → Prop}
variable {cc b : ByteArray} {pc : Nat} {ls : Array Slot} {rest st0 : List Value} {D : va_G} {A : Nat → Prop} {a n nL k mc ms index : Nat} {tc : Nat → ClassId} {sk : (Nat → Nat) × (Nat → Nat)} {ws wr pre : va_W} {r : Option FieldType} {rm : Room} {y : MethodName} {own C : String} {As : List Value}
theorem retI {S : Type} {post : Option Value → S → Prop} {cellsf : S → va_W} {ty : FieldType} {v : Int32} (hx : p.tables.exec = Jvm.exec) (hb : c.code = cc) (hr : meth.sig.returnType = some ty) (hlocks : meth.locks = false) (hn : narrow ty (.int v) = .int v) (hP : va_P D classes ws H) (hD : va_D A ws) (hS : va_S A s.heap H locs) (u : S) (hp : post (some (.int v)) u) (is : List Nat) (h2 : va_nd is = true) (h3 : is.map (fun i => ws[i]?) = (cellsf u).map some) (hdg : decode cc pc = .ok (.ireturn, 1)) (hc : cells ≤ mc) (hs : slots ≤ ms) (h1 : is.filterMap (fun i => ws[i]?) = cellsf u) :
    W p l e R s m args below meth c H locs cells slots (MQ below (QW post (BW D cellsf A) A) args s mc ms A) (F0 m pc ls [.int v]) := by
  refine W.widen hc hs ?_
  exact W.zret hx hb hr hn (fun t ht hW => ⟨⟨_, u, rfl, hp, by rw [ht]; exact hP.sub is h1, hD.sub is h2 h3⟩, hS.F ht⟩) hS.2.2 hdg hlocks
theorem retL {S : Type} {post : Option Value → S → Prop} {cellsf : S → va_W} {v : Int64} (hx : p.tables.exec = Jvm.exec) (hb : c.code = cc) (hr : meth.sig.returnType = some .long) (hlocks : meth.locks = false) (hP : va_P D classes ws H) (hD : va_D A ws) (hS : va_S A s.heap H locs) (u : S) (hp : post (some (.long v)) u) (is : List Nat) (h2 : va_nd is = true) (h3 : is.map (fun i => ws[i]?) = (cellsf u).map some) (hdg : decode cc pc = .ok (.lreturn, 1)) (hc : cells ≤ mc) (hs : slots ≤ ms) (h1 : is.filterMap (fun i => ws[i]?) = cellsf u) :
    W p l e R s m args below meth c H locs cells slots (MQ below (QW post (BW D cellsf A) A) args s mc ms A) (F0 m pc ls [.long v]) := by
  refine W.widen hc hs ?_
  exact W.lret hx hb hr (fun t ht hW => ⟨⟨_, u, rfl, hp, by rw [ht]; exact hP.sub is h1, hD.sub is h2 h3⟩, hS.F ht⟩) hS.2.2 hdg hlocks
theorem retA {S : Type} {post : Option Value → S → Prop} {cellsf : S → va_W} {v : Value} {rt : FieldType} (hx : p.tables.exec = Jvm.exec) (hb : c.code = cc) (hr : meth.sig.returnType = some rt) (hlocks : meth.locks = false) (hrt : (∃ n, rt = .object n) ∨ ∃ t, rt = .array t) (hv : v = .null ∨ ∃ a, v = .ref a) (hP : va_P D classes ws H) (hD : va_D A ws) (hS : va_S A s.heap H locs) (u : S) (hp : post (some v) u) (is : List Nat) (h2 : va_nd is = true) (h3 : is.map (fun i => ws[i]?) = (cellsf u).map some) (hdg : decode cc pc = .ok (.areturn, 1)) (hc : cells ≤ mc) (hs : slots ≤ ms) (h1 : is.filterMap (fun i => ws[i]?) = cellsf u) :
    W p l e R s m args below meth c H locs cells slots (MQ below (QW post (BW D cellsf A) A) args s mc ms A) (F0 m pc ls [v]) := by
  refine W.widen hc hs ?_
  exact W.aret hx hb hr hrt hv (fun t ht hW => ⟨⟨_, u, rfl, hp, by rw [ht]; exact hP.sub is h1, hD.sub is h2 h3⟩, hS.F ht⟩) hS.2.2 hdg hlocks
theorem retV {S : Type} {post : Option Value → S → Prop} {cellsf : S → va_W} (hx : p.tables.exec = Jvm.exec) (hb : c.code = cc) (hr : meth.sig.returnType = none) (hlocks : meth.locks = false) (hP : va_P D classes ws H) (hD : va_D A ws) (hS : va_S A s.heap H locs) (u : S) (hp : post none u) (is : List Nat) (h2 : va_nd is = true) (h3 : is.map (fun i => ws[i]?) = (cellsf u).map some) (hdg : decode cc pc = .ok (.return_, 1)) (hc : cells ≤ mc) (hs : slots ≤ ms) (h1 : is.filterMap (fun i => ws[i]?) = cellsf u) :
    W p l e R s m args below meth c H locs cells slots (MQ below (QW post (BW D cellsf A) A) args s mc ms A) (F0 m pc ls []) := by
  refine W.widen hc hs ?_
  exact W.vret hx hb hr (fun t ht hW => ⟨⟨_, u, rfl, hp, by rw [ht]; exact hP.sub is h1, hD.sub is h2 h3⟩, hS.F ht⟩) hS.2.2 hdg hlocks
theorem cRun {S : Type} {post : Option Value → S → Prop} {B : S → State → Prop} {A1 : Nat → Prop} {av : Array Value} {free : Addr → Prop} (hr : va_Run p l e R s m args below meth c H locs cells slots mc ms (F0 m pc ls st0) rest (QW post B A1 av) free) (hS : va_S A s.heap H locs) (hA : ∀ q, q < H.size → A1 q → A q) (hf : ∀ q, free q → A q)
    (kk : ∀ (v : Option Value) (u : S) (t : State) (H1 : Heap) (locs1 : List Loc), t.heap = H1 → post v u → B u t → H.size ≤ H1.size → (∀ q : Nat, q < H.size → ¬ A1 q → H1[q]? = H[q]?) → va_S A s.heap H1 locs1 → W p l e R s m args below meth c H1 locs1 (cells + mc) (slots + ms) Q (F0 m (pc + 3) ls (v.toList ++ rest))) : W p l e R s m args below meth c H locs cells slots Q (F0 m pc ls st0) := by
  intro T hT X
  obtain ⟨v, st₀, t, T', L, h0, X', hL, e1, e2, ⟨⟨v', u, hv, hp, hb⟩, hz, hk⟩, st⟩ := hr T hT X
  cases hv
  rw [h0] at hz hk
  obtain ⟨t2, a1, b1⟩ := kk v u t T'.heap (locs ++ L) e1.symm hp hb (by rw [e1]; exact hz) (fun q h1 h2 => by rw [e1]; exact hk q h1 h2)
    ⟨Nat.le_trans hS.1 (by rw [e1]; exact hz), fun q h1 h2 => by rw [e1, hk q (Nat.lt_of_lt_of_le h1 hS.1) (fun z => h2 (hA q (Nat.lt_of_lt_of_le h1 hS.1) z))]; exact hS.2.1 q h1 h2, fun q hq => by
      rcases List.mem_append.mp hq with h | h
      · exact hS.2.2 q h
      · exact hf _ (hL q h)⟩ T' rfl X'
  exact ⟨t2, st t2 a1, b1⟩
theorem PW.blind (av : List Value) (sz : Nat) : FrameBlind (va_Pc av (PW D tc sk pre sz)) := by
  intro a' U g mk q
  obtain ⟨q0, q1, qP, qK, qD, qX⟩ := q
  exact ⟨q0, q1, qP, va_K.moved (u := U) (U := U.calling g mk a') (Vm.Alike.refl U.vm) qK, qD, Sx.same (u := U) rfl qX⟩
theorem PW.of (hK : va_K D classes (tysOf tc) s) (hX : Sx sk A s s.heap) (hA : ∀ q, s.heap.size ≤ q → A q) (hP : va_P D classes ws H) (hD : va_D A ws) (hS : va_S A s.heap H locs) (isC : List Nat) (hC1 : isC.filterMap (fun i => ws[i]?) = pre) (hC : isC.map (fun i => ws[i]?) = pre.map some) (hnC : va_nd isC = true) {U : State} (hU : U.heap = H) (hW : s.WarmedH U.vm) : PW D tc sk pre H.size U := by
  refine ⟨by rw [hU], by rw [hU]; exact hP.sub isC hC1, va_K.moved hW.alike hK, (hD.sub isC hnC hC).weaken (fun _ _ _ _ => trivial), ?_⟩
  rw [hU]
  exact Sx.warm hW ((hX.kept hS.2.1).narrow (va_free hD hS hA isC hC))
theorem goOn {S : Type} {post : Option Value → S → Prop} {cellsf : S → va_W} {av : Array Value} (hA : ∀ q, s.heap.size ≤ q → A q) (hP : va_P D classes ws H) (hD : va_D A ws) (hS : va_S A s.heap H locs) (isC isR : List Nat) (hC : isC.map (fun i => ws[i]?) = pre.map some) (hR : isR.map (fun i => ws[i]?) = wr.map some) (hn : va_nd isR = true) (hdis : ∀ i ∈ isR, i ∉ isC)
    (hr : va_Run p l e R s m args below meth c H locs cells slots mc ms (F0 m pc ls st0) rest (QW post (BW D cellsf (va_A pre H.size)) (va_A pre H.size) av) (va_A pre H.size))
    (kk : ∀ (v : Option Value) (u : S) (H1 : Heap) (locs1 : List Loc), post v u → va_P D classes (wr ++ cellsf u) H1 → va_D A (wr ++ cellsf u) → va_S A s.heap H1 locs1 → W p l e R s m args below meth c H1 locs1 (cells + mc) (slots + ms) Q (F0 m (pc + 3) ls (v.toList ++ rest))) : W p l e R s m args below meth c H locs cells slots Q (F0 m pc ls st0) := by
  have hFc := va_free (wc := pre) hD hS hA isC hC
  refine cRun hr hS (fun q _ h => hFc q h) hFc (fun v u t H1 locs1 ht hw hB hz1 hk1 hS1 => ?_)
  obtain ⟨hP1, hD1⟩ := hB
  rw [ht] at hP1
  obtain ⟨hP2, hD2⟩ := va_join (wr := wr) (w1 := cellsf u) hP hD isC isR hC hR hn hdis hk1 hFc hP1 hD1
  exact kk v u H1 locs1 hw hP2 hD2 hS1
/-- the room of a callee -/
abbrev RoomOk (R rm : Room) (n : Nat) : Prop := rm.frames + 1 ≤ R.frames ∧ 8 + (n + 11) + rm.locals ≤ R.locals
abbrev PlainC (y : MethodName) (k : Nat) : Prop := y.cls ≠ "java/lang/invoke/MethodHandle" ∧ y.cls ≠ "java/lang/invoke/VarHandle" ∧ (parseMethodDescriptor y.desc).map (fun d => d.parameters.length) = some k
theorem cV {S : Type} {post : Option Value → S → Prop} {cellsf : S → va_W} (X : CallFix p m c cc nL s args gT own) (hK : va_K D classes (tysOf tc) s) (hX : Sx sk A s s.heap) (hA : ∀ q, s.heap.size ≤ q → A q) (hM : Ct l y b n r rm D tc sk (.ref a :: As) pre post cellsf mc ms)
    (hw1 : Cond.code y b n r ∈ gT) (hw2 : Cond.methodLink own index y ∈ gT) (hw3 : Cond.instanceMethod y ∈ gT) (hw4 : Cond.selects y.cls y y ∈ gT) (hw5 : Cond.initialized y.cls ∈ gT) (hd : PlainC y k) (hR1 : RoomOk R rm n) (hrc : rm.cells = mc) (hrs : rm.slots = ms)
    (hrec : ∃ cell : Cell, H[a]? = some cell ∧ cell.vm.isStatics = false ∧ s.vm.findClass y.cls = some cell.cls)
    (hP : va_P D classes ws H) (hD : va_D A ws) (hS : va_S A s.heap H locs) (isC isR : List Nat) (hC1 : isC.filterMap (fun i => ws[i]?) = pre) (hC : isC.map (fun i => ws[i]?) = pre.map some) (hnC : va_nd isC = true) (hR : isR.map (fun i => ws[i]?) = wr.map some) (hn : va_nd isR = true) (hdis : ∀ i ∈ isR, i ∉ isC)
    (hlen : As.length = k) (hls : ls.size = nL) (hst : st0 = As.reverse ++ .ref a :: rest) (hroom : (rest.map fun v => v.category).sum ≤ 8) (hdg : decode cc pc = .ok (.invokevirtual index, 3)) (hf : cells + mc ≤ R.cells ∧ slots + ms ≤ R.slots)
    (kk : ∀ (v : Option Value) (u : S) (H1 : Heap) (locs1 : List Loc), post v u → va_P D classes (wr ++ cellsf u) H1 → va_D A (wr ++ cellsf u) → va_S A s.heap H1 locs1 → W p l e R s m args below meth c H1 locs1 (cells + mc) (slots + ms) Q (F0 m (pc + 3) ls (v.toList ++ rest))) : W p l e R s m args below meth c H locs cells slots Q (F0 m pc ls st0) := by
  have hts := X.2.2.2.2
  have cw : CallW R s args own y.cls index y b n r (Wd y b n r) rm mc ms k := ⟨callB_of k hts (gd hw1) rfl hrc hrs (hts _ hw5) (hts _ hw2) hd hR1, hts _ hw3, hts _ hw4⟩
  refine goOn hA hP hD hS isC isR hC hR hn hdis (va_runV X (hM H.size) cw ⟨PW.blind _ _, hrec, fun U hU hW => ⟨rfl, PW.of hK hX hA hP hD hS isC hC1 hC hnC hU hW⟩⟩ rfl hlen hls hst (lv_room hroom) hdg hf) kk
theorem cS {S : Type} {post : Option Value → S → Prop} {cellsf : S → va_W} (X : CallFix p m c cc nL s args gT own) (hK : va_K D classes (tysOf tc) s) (hX : Sx sk A s s.heap) (hA : ∀ q, s.heap.size ≤ q → A q) (hM : Ct l y b n r rm D tc sk As pre post cellsf mc ms)
    (hw1 : Cond.code y b n r ∈ gT) (hw2 : Cond.methodLink own index y ∈ gT) (hw3 : Cond.static y ∈ gT) (hw5 : Cond.initialized y.cls ∈ gT) (hd : PlainC y k) (hR1 : RoomOk R rm n) (hrc : rm.cells = mc) (hrs : rm.slots = ms)
    (hP : va_P D classes ws H) (hD : va_D A ws) (hS : va_S A s.heap H locs) (isC isR : List Nat) (hC1 : isC.filterMap (fun i => ws[i]?) = pre) (hC : isC.map (fun i => ws[i]?) = pre.map some) (hnC : va_nd isC = true) (hR : isR.map (fun i => ws[i]?) = wr.map some) (hn : va_nd isR = true) (hdis : ∀ i ∈ isR, i ∉ isC)
    (hlen : As.length = k) (hls : ls.size = nL) (hst : st0 = As.reverse ++ rest) (hroom : (rest.map fun v => v.category).sum ≤ 8) (hdg : decode cc pc = .ok (.invokestatic index, 3)) (hf : cells + mc ≤ R.cells ∧ slots + ms ≤ R.slots)
    (kk : ∀ (v : Option Value) (u : S) (H1 : Heap) (locs1 : List Loc), post v u → va_P D classes (wr ++ cellsf u) H1 → va_D A (wr ++ cellsf u) → va_S A s.heap H1 locs1 → W p l e R s m args below meth c H1 locs1 (cells + mc) (slots + ms) Q (F0 m (pc + 3) ls (v.toList ++ rest))) : W p l e R s m args below meth c H locs cells slots Q (F0 m pc ls st0) := by
  have hts := X.2.2.2.2
  have cw : CallB R s args own index y b n r (Wd y b n r) rm mc ms k ∧ (Cond.static y).before args s = true := ⟨callB_of k hts (gd hw1) rfl hrc hrs (hts _ hw5) (hts _ hw2) hd hR1, hts _ hw3⟩
  refine goOn hA hP hD hS isC isR hC hR hn hdis (va_runS X (hM H.size) cw ⟨PW.blind _ _, fun U hU hW => ⟨rfl, PW.of hK hX hA hP hD hS isC hC1 hC hnC hU hW⟩⟩ rfl hlen hls hst (lv_room hroom) hdg hf) kk
theorem cI {S : Type} {post : Option Value → S → Prop} {cellsf : S → va_W} (X : CallFix p m c cc nL s args gT own) (hK : va_K D classes (tysOf tc) s) (hX : Sx sk A s s.heap) (hA : ∀ q, s.heap.size ≤ q → A q) (hM : Ct l y b n none rm D tc sk (.ref a :: As) pre post cellsf mc ms)
    (hw1 : Cond.code y b n none ∈ gT) (hw2 : Cond.methodLink own index y ∈ gT) (hw3 : Cond.instanceMethod y ∈ gT) (hw5 : Cond.initialized y.cls ∈ gT) (hy1 : y.name = "<init>") (hd : PlainC y k) (hR1 : RoomOk R rm n) (hrc : rm.cells = mc) (hrs : rm.slots = ms)
    (hP : va_P D classes ws H) (hD : va_D A ws) (hS : va_S A s.heap H locs) (isC isR : List Nat) (hC1 : isC.filterMap (fun i => ws[i]?) = pre) (hC : isC.map (fun i => ws[i]?) = pre.map some) (hnC : va_nd isC = true) (hR : isR.map (fun i => ws[i]?) = wr.map some) (hn : va_nd isR = true) (hdis : ∀ i ∈ isR, i ∉ isC)
    (hlen : As.length = k) (hls : ls.size = nL) (hst : st0 = As.reverse ++ .ref a :: rest) (hroom : (rest.map fun v => v.category).sum ≤ 8) (hdg : decode cc pc = .ok (.invokespecial index, 3)) (hf : cells + mc ≤ R.cells ∧ slots + ms ≤ R.slots)
    (kk : ∀ (v : Option Value) (u : S) (H1 : Heap) (locs1 : List Loc), post v u → va_P D classes (wr ++ cellsf u) H1 → va_D A (wr ++ cellsf u) → va_S A s.heap H1 locs1 → W p l e R s m args below meth c H1 locs1 (cells + mc) (slots + ms) Q (F0 m (pc + 3) ls (v.toList ++ rest))) : W p l e R s m args below meth c H locs cells slots Q (F0 m pc ls st0) := by
  have hts := X.2.2.2.2
  refine goOn hA hP hD hS isC isR hC hR hn hdis (va_runI X (hM H.size) (cwI k hts (gd hw1) rfl hrc hrs (hts _ hw5) (hts _ hw2) (hts _ hw3) hy1 hd hR1) ⟨PW.blind _ _, fun U hU hW => ⟨rfl, PW.of hK hX hA hP hD hS isC hC1 hC hnC hU hW⟩⟩ rfl hlen hls hst (lv_room hroom) hdg hf) kk
theorem cN {S : Type} {post : Option Value → S → Prop} {cellsf : S → va_W} {host : String} (X : CallFix p m c cc nL s args gT own) (hK : va_K D classes (tysOf tc) s) (hX : Sx sk A s s.heap) (hA : ∀ q, s.heap.size ≤ q → A q) (hM : Ct l y b n none rm D tc sk (.ref a :: As) pre post cellsf mc ms)
    (hw1 : Cond.code y b n none ∈ gT) (hw2 : Cond.methodLinkNest own index y host ∈ gT) (hw3 : Cond.instanceMethod y ∈ gT) (hw5 : Cond.initialized y.cls ∈ gT) (hy1 : y.name = "<init>") (hd : PlainC y k) (hR1 : RoomOk R rm n) (hrc : rm.cells = mc) (hrs : rm.slots = ms)
    (hP : va_P D classes ws H) (hD : va_D A ws) (hS : va_S A s.heap H locs) (isC isR : List Nat) (hC1 : isC.filterMap (fun i => ws[i]?) = pre) (hC : isC.map (fun i => ws[i]?) = pre.map some) (hnC : va_nd isC = true) (hR : isR.map (fun i => ws[i]?) = wr.map some) (hn : va_nd isR = true) (hdis : ∀ i ∈ isR, i ∉ isC)
    (hlen : As.length = k) (hls : ls.size = nL) (hst : st0 = As.reverse ++ .ref a :: rest) (hroom : (rest.map fun v => v.category).sum ≤ 8) (hdg : decode cc pc = .ok (.invokespecial index, 3)) (hf : cells + mc ≤ R.cells ∧ slots + ms ≤ R.slots)
    (kk : ∀ (v : Option Value) (u : S) (H1 : Heap) (locs1 : List Loc), post v u → va_P D classes (wr ++ cellsf u) H1 → va_D A (wr ++ cellsf u) → va_S A s.heap H1 locs1 → W p l e R s m args below meth c H1 locs1 (cells + mc) (slots + ms) Q (F0 m (pc + 3) ls (v.toList ++ rest))) : W p l e R s m args below meth c H locs cells slots Q (F0 m pc ls st0) := by
  have hts := X.2.2.2.2
  refine goOn hA hP hD hS isC isR hC hR hn hdis (va_runIN X (hM H.size) ⟨va_cnB k hts (gd hw1) rfl hrc hrs (va_Nw.of rfl (hts _ hw2)) (hts _ hw5) hd hR1, hy1, hts _ hw3⟩ ⟨PW.blind _ _, fun U hU hW => ⟨rfl, PW.of hK hX hA hP hD hS isC hC1 hC hnC hU hW⟩⟩ rfl hlen hls hst (lv_room hroom) hdg hf) kk
theorem ra_inj {U : State} {cA cB : ClassId} {ty : FieldType} (h1 : va_RA U cA ty) (h2 : va_RA U cB ty) : cA = cB := by
  cases ty with
  | object C =>
    obtain ⟨kA, comp, -, -, -, h4⟩ := h1
    obtain ⟨kB, comp', -, -, -, g4⟩ := h2
    exact Option.some.inj (h4.symm.trans g4)
  | _ => exact Option.some.inj (Eq.trans (Eq.symm h1) h2)
theorem nwA (hx : p.tables.exec = Jvm.exec) (hb : c.code = cc) {atype : ArrayType} (harr : (Cond.arrayClass (newarray.typeOf atype)).before args s = true) {ty : FieldType} (hty : newarray.typeOf atype = ty) (hK : va_K D classes (tysOf tc) s) (hP : va_P D classes ws H) (hD : va_D A ws) (hS : va_S A s.heap H locs) (hA : ∀ q, s.heap.size ≤ q → A q) (t0 : Nat) {cI : ClassId} (ht : (tysOf tc)[t0]? = some (cI, ty))
    {n : Int32} {N' : Nat} {a0 : vp_A} (ha : ∀ cA : ClassId, vp_cell cA a0 = arrV cA N' (fun _ => defaultValue ty)) (hn : ¬ n < 0) (hN : n.toNatClampNeg = N') (hbytes : N' * componentBytes ty ≤ 536870912) (hcells : cells + 1 ≤ R.cells) (hslots : slots + N' ≤ R.slots) (hdg : decode cc pc = .ok (.newarray atype, 2))
    (kk : ∀ (q : Nat) (H1 : Heap), va_P D classes (ws ++ [(q, .inl (cI, a0))]) H1 → va_D A (ws ++ [(q, .inl (cI, a0))]) → va_S A s.heap H1 locs →
      W p l e R s m args below meth c H1 locs (cells + 1) (slots + N') Q (F0 m (pc + 2) ls (.ref q :: rest))) : W p l e R s m args below meth c H locs cells slots Q (F0 m pc ls (.int n :: rest)) := by
  refine va_newa hx hb harr hty hK hP hD hS hA ha hn hN hbytes hcells hslots hdg (fun q cA H1 hK1 hP1 hD1 hS1 => ?_)
  have e1 : va_RA s cA ty := (hK1.2 7 (cA, ty) rfl).2
  have e2 : va_RA s cI ty := (hK.2 t0 _ ht).2
  have e3 := ra_inj e1 e2
  subst e3
  exact kk q H1 hP1 hD1 hS1
theorem nwQ (hx : p.tables.exec = Jvm.exec) (hb : c.code = cc) (hown : s.vm.findClass own = some m.cls) (hclink : (Cond.classLink own index C).before args s = true) (hover : (Cond.arrayOver (.object C)).before args s = true) (hK : va_K D classes (tysOf tc) s) (hP : va_P D classes ws H) (hD : va_D A ws) (hS : va_S A s.heap H locs) (hA : ∀ q, s.heap.size ≤ q → A q) (t0 : Nat) {cI : ClassId} (ht : (tysOf tc)[t0]? = some (cI, .object C))
    {n : Int32} {N' : Nat} (hn : ¬ n < 0) (hN : n.toNatClampNeg = N') (hbytes : N' * 4 ≤ 536870912) (hcells : cells + 1 ≤ R.cells) (hslots : slots + N' ≤ R.slots) (hdg : decode cc pc = .ok (.anewarray index, 3))
    (kk : ∀ (q : Nat) (H1 : Heap), va_P D classes (ws ++ [(q, .inl (cI, N', .inr (.inr (.inr (.inr (fun _ => none))))))]) H1 → va_D A (ws ++ [(q, .inl (cI, N', .inr (.inr (.inr (.inr (fun _ => none))))))]) → va_S A s.heap H1 locs →
      W p l e R s m args below meth c H1 locs (cells + 1) (slots + N') Q (F0 m (pc + 3) ls (.ref q :: rest))) : W p l e R s m args below meth c H locs cells slots Q (F0 m pc ls (.int n :: rest)) := by
  refine va_newq hx hb hown hclink (va_AO.of hover) hK hP hD hS hA hn hN hbytes hcells hslots hdg (fun q cA H1 hK1 hP1 hD1 hS1 => ?_)
  have e1 : va_RA s cA (.object C) := (hK1.2 7 (cA, .object C) rfl).2
  have e2 : va_RA s cI (.object C) := (hK.2 t0 _ ht).2
  have e3 := ra_inj e1 e2
  subst e3
  exact kk q H1 hP1 hD1 hS1
theorem lv_lit {x v : Int32} (h : x = v) (k : W p l e R s m args below meth c H locs cells slots Q (F0 m pc ls (.int v :: rest))) : W p l e R s m args below meth c H locs cells slots Q (F0 m pc ls (.int x :: rest)) := h ▸ k
theorem lv_litl {x v : Int64} (h : x = v) (k : W p l e R s m args below meth c H locs cells slots Q (F0 m pc ls (.long v :: rest))) : W p l e R s m args below meth c H locs cells slots Q (F0 m pc ls (.long x :: rest)) := h ▸ k
end LYR
theorem vin_dec {i : Int32} {n : Nat} (h : (!decide (i < 0) && decide (i.toNatClampNeg < n)) = true) : vp_in i n := by
  simp only [Bool.and_eq_true, Bool.not_eq_true', decide_eq_false_iff_not, decide_eq_true_eq] at h
  intro z
  rcases z with z | z
  · exact h.1 z
  · omega
end
