section
-- ===== PART A: goes FIRST, ahead of the names: the tables' words, and 'selects' of the private methods out of them =====
/-- a private method of a class that the tables say can be made, by its rows of tables_1 -/
def lw_okq (q : MethodName × Nat) : Prop := (q.1.cls ≠ "java/lang/invoke/MethodHandle" ∧ q.1.cls ≠ "java/lang/invoke/VarHandle") ∧ Cond.instantiable q.1.cls q.2 ∈ tables_1 ∧ Cond.privateMethod q.1 ∈ tables_1 ∧ Cond.instanceMethod q.1 ∈ tables_1
theorem lw_p0 : lw_okq (⟨"PoisonBook$Tape", "byteAt", "(I)I"⟩, 6) := ⟨⟨by decide +kernel, by decide +kernel⟩, List.mem_of_getElem? (i := 31) (by decide +kernel), List.mem_of_getElem? (i := 386) (by decide +kernel), List.mem_of_getElem? (i := 387) (by decide +kernel)⟩
theorem lw_p1 : lw_okq (⟨"PoisonBook$BookReader", "readClause", "(LPoisonBook$Tape;I)V"⟩, 1) := ⟨⟨by decide +kernel, by decide +kernel⟩, List.mem_of_getElem? (i := 64) (by decide +kernel), List.mem_of_getElem? (i := 400) (by decide +kernel), List.mem_of_getElem? (i := 401) (by decide +kernel)⟩
theorem lw_p2 : lw_okq (⟨"PoisonBook$Tape", "isPartOf", "(Ljava/lang/String;II)Z"⟩, 6) := ⟨⟨by decide +kernel, by decide +kernel⟩, List.mem_of_getElem? (i := 31) (by decide +kernel), List.mem_of_getElem? (i := 457) (by decide +kernel), List.mem_of_getElem? (i := 458) (by decide +kernel)⟩
theorem lw_p3 : lw_okq (⟨"PoisonBook$BookReader", "readBook", "(LPoisonBook$Tape;)V"⟩, 1) := ⟨⟨by decide +kernel, by decide +kernel⟩, List.mem_of_getElem? (i := 64) (by decide +kernel), List.mem_of_getElem? (i := 466) (by decide +kernel), List.mem_of_getElem? (i := 467) (by decide +kernel)⟩
theorem lw_p4 : lw_okq (⟨"PoisonBook$BookReader", "readSky", "(LPoisonBook$Tape;)V"⟩, 1) := ⟨⟨by decide +kernel, by decide +kernel⟩, List.mem_of_getElem? (i := 64) (by decide +kernel), List.mem_of_getElem? (i := 479) (by decide +kernel), List.mem_of_getElem? (i := 480) (by decide +kernel)⟩
theorem lw_p5 : lw_okq (⟨"PoisonBook$BookReader", "readBuyer", "(LPoisonBook$Tape;)V"⟩, 1) := ⟨⟨by decide +kernel, by decide +kernel⟩, List.mem_of_getElem? (i := 64) (by decide +kernel), List.mem_of_getElem? (i := 487) (by decide +kernel), List.mem_of_getElem? (i := 488) (by decide +kernel)⟩
theorem lw_p6 : lw_okq (⟨"PoisonBook$BookReader", "readWatch", "(LPoisonBook$Tape;)V"⟩, 1) := ⟨⟨by decide +kernel, by decide +kernel⟩, List.mem_of_getElem? (i := 64) (by decide +kernel), List.mem_of_getElem? (i := 491) (by decide +kernel), List.mem_of_getElem? (i := 492) (by decide +kernel)⟩
theorem lw_p7 : lw_okq (⟨"PoisonBook$RuleReader", "readSum", "(LPoisonBook$Tape;)V"⟩, 3) := ⟨⟨by decide +kernel, by decide +kernel⟩, List.mem_of_getElem? (i := 159) (by decide +kernel), List.mem_of_getElem? (i := 528) (by decide +kernel), List.mem_of_getElem? (i := 529) (by decide +kernel)⟩
theorem lw_p8 : lw_okq (⟨"PoisonBook$RuleReader", "readValue", "(LPoisonBook$Tape;)V"⟩, 3) := ⟨⟨by decide +kernel, by decide +kernel⟩, List.mem_of_getElem? (i := 159) (by decide +kernel), List.mem_of_getElem? (i := 532) (by decide +kernel), List.mem_of_getElem? (i := 533) (by decide +kernel)⟩
theorem lw_p9 : lw_okq (⟨"PoisonBook$RuleReader", "countOne", "(LPoisonBook$Tape;)V"⟩, 3) := ⟨⟨by decide +kernel, by decide +kernel⟩, List.mem_of_getElem? (i := 159) (by decide +kernel), List.mem_of_getElem? (i := 542) (by decide +kernel), List.mem_of_getElem? (i := 543) (by decide +kernel)⟩
theorem lw_p10 : lw_okq (⟨"PoisonBook$RuleReader", "put", "(I)V"⟩, 3) := ⟨⟨by decide +kernel, by decide +kernel⟩, List.mem_of_getElem? (i := 159) (by decide +kernel), List.mem_of_getElem? (i := 546) (by decide +kernel), List.mem_of_getElem? (i := 547) (by decide +kernel)⟩
theorem lw_p11 : lw_okq (⟨"PoisonBook$RuleReader", "readTest", "(LPoisonBook$Tape;I)V"⟩, 3) := ⟨⟨by decide +kernel, by decide +kernel⟩, List.mem_of_getElem? (i := 159) (by decide +kernel), List.mem_of_getElem? (i := 559) (by decide +kernel), List.mem_of_getElem? (i := 560) (by decide +kernel)⟩
theorem lw_p12 : lw_okq (⟨"PoisonBook$RuleReader", "readFact", "(LPoisonBook$Tape;I)V"⟩, 3) := ⟨⟨by decide +kernel, by decide +kernel⟩, List.mem_of_getElem? (i := 159) (by decide +kernel), List.mem_of_getElem? (i := 563) (by decide +kernel), List.mem_of_getElem? (i := 564) (by decide +kernel)⟩
theorem lw_p13 : lw_okq (⟨"PoisonBook", "ruleInForce", "()LPoisonBook$Rule;"⟩, 12) := ⟨⟨by decide +kernel, by decide +kernel⟩, List.mem_of_getElem? (i := 23) (by decide +kernel), List.mem_of_getElem? (i := 639) (by decide +kernel), List.mem_of_getElem? (i := 640) (by decide +kernel)⟩
theorem lw_p14 : lw_okq (⟨"PoisonBook$Shop", "canBuy", "(I)Z"⟩, 14) := ⟨⟨by decide +kernel, by decide +kernel⟩, List.mem_of_getElem? (i := 70) (by decide +kernel), List.mem_of_getElem? (i := 656) (by decide +kernel), List.mem_of_getElem? (i := 657) (by decide +kernel)⟩
theorem lw_p15 : lw_okq (⟨"PoisonBook$Shop", "changeTempers", "(I)V"⟩, 14) := ⟨⟨by decide +kernel, by decide +kernel⟩, List.mem_of_getElem? (i := 70) (by decide +kernel), List.mem_of_getElem? (i := 683) (by decide +kernel), List.mem_of_getElem? (i := 684) (by decide +kernel)⟩
def lw_privs_1 : List (MethodName × Nat) := [(⟨"PoisonBook$Tape", "byteAt", "(I)I"⟩, 6), (⟨"PoisonBook$BookReader", "readClause", "(LPoisonBook$Tape;I)V"⟩, 1), (⟨"PoisonBook$Tape", "isPartOf", "(Ljava/lang/String;II)Z"⟩, 6), (⟨"PoisonBook$BookReader", "readBook", "(LPoisonBook$Tape;)V"⟩, 1), (⟨"PoisonBook$BookReader", "readSky", "(LPoisonBook$Tape;)V"⟩, 1), (⟨"PoisonBook$BookReader", "readBuyer", "(LPoisonBook$Tape;)V"⟩, 1), (⟨"PoisonBook$BookReader", "readWatch", "(LPoisonBook$Tape;)V"⟩, 1), (⟨"PoisonBook$RuleReader", "readSum", "(LPoisonBook$Tape;)V"⟩, 3), (⟨"PoisonBook$RuleReader", "readValue", "(LPoisonBook$Tape;)V"⟩, 3), (⟨"PoisonBook$RuleReader", "countOne", "(LPoisonBook$Tape;)V"⟩, 3), (⟨"PoisonBook$RuleReader", "put", "(I)V"⟩, 3), (⟨"PoisonBook$RuleReader", "readTest", "(LPoisonBook$Tape;I)V"⟩, 3), (⟨"PoisonBook$RuleReader", "readFact", "(LPoisonBook$Tape;I)V"⟩, 3), (⟨"PoisonBook", "ruleInForce", "()LPoisonBook$Rule;"⟩, 12), (⟨"PoisonBook$Shop", "canBuy", "(I)Z"⟩, 14), (⟨"PoisonBook$Shop", "changeTempers", "(I)V"⟩, 14)]
theorem lw_r1 : ∀ q ∈ lw_privs_1, lw_okq q := List.forall_mem_cons.mpr ⟨lw_p0, List.forall_mem_cons.mpr ⟨lw_p1, List.forall_mem_cons.mpr ⟨lw_p2, List.forall_mem_cons.mpr ⟨lw_p3, List.forall_mem_cons.mpr ⟨lw_p4, List.forall_mem_cons.mpr ⟨lw_p5, List.forall_mem_cons.mpr ⟨lw_p6, List.forall_mem_cons.mpr ⟨lw_p7, List.forall_mem_cons.mpr ⟨lw_p8, List.forall_mem_cons.mpr ⟨lw_p9, List.forall_mem_cons.mpr ⟨lw_p10, List.forall_mem_cons.mpr ⟨lw_p11, List.forall_mem_cons.mpr ⟨lw_p12, List.forall_mem_cons.mpr ⟨lw_p13, List.forall_mem_cons.mpr ⟨lw_p14, List.forall_mem_cons.mpr ⟨lw_p15, fun _ h => absurd h List.not_mem_nil⟩⟩⟩⟩⟩⟩⟩⟩⟩⟩⟩⟩⟩⟩⟩⟩
theorem lw_p16 : lw_okq (⟨"PoisonBook$Choices", "clockOfPurchase", "(LPoisonBook$Shop;LPoisonBook$Rule;II)I"⟩, 3) := ⟨⟨by decide +kernel, by decide +kernel⟩, List.mem_of_getElem? (i := 272) (by decide +kernel), List.mem_of_getElem? (i := 772) (by decide +kernel), List.mem_of_getElem? (i := 773) (by decide +kernel)⟩
theorem lw_p17 : lw_okq (⟨"PoisonBook$Choices", "gain", "(LPoisonBook$Shop;I)I"⟩, 3) := ⟨⟨by decide +kernel, by decide +kernel⟩, List.mem_of_getElem? (i := 272) (by decide +kernel), List.mem_of_getElem? (i := 840) (by decide +kernel), List.mem_of_getElem? (i := 841) (by decide +kernel)⟩
theorem lw_p18 : lw_okq (⟨"PoisonBook$Choices", "isRest", "(I)Z"⟩, 3) := ⟨⟨by decide +kernel, by decide +kernel⟩, List.mem_of_getElem? (i := 272) (by decide +kernel), List.mem_of_getElem? (i := 848) (by decide +kernel), List.mem_of_getElem? (i := 849) (by decide +kernel)⟩
theorem lw_p19 : lw_okq (⟨"PoisonBook$Inquiry", "agrees", "(ILPoisonBook$Notes;)Z"⟩, 4) := ⟨⟨by decide +kernel, by decide +kernel⟩, List.mem_of_getElem? (i := 290) (by decide +kernel), List.mem_of_getElem? (i := 891) (by decide +kernel), List.mem_of_getElem? (i := 892) (by decide +kernel)⟩
theorem lw_p20 : lw_okq (⟨"PoisonBook$Inquiry", "whoOn", "(II)I"⟩, 4) := ⟨⟨by decide +kernel, by decide +kernel⟩, List.mem_of_getElem? (i := 290) (by decide +kernel), List.mem_of_getElem? (i := 895) (by decide +kernel), List.mem_of_getElem? (i := 896) (by decide +kernel)⟩
theorem lw_p21 : lw_okq (⟨"PoisonBook$Inquiry", "mostAlike", "(I)I"⟩, 4) := ⟨⟨by decide +kernel, by decide +kernel⟩, List.mem_of_getElem? (i := 290) (by decide +kernel), List.mem_of_getElem? (i := 911) (by decide +kernel), List.mem_of_getElem? (i := 912) (by decide +kernel)⟩
theorem lw_p22 : lw_okq (⟨"PoisonBook$Outlook", "drawSky", "(I)V"⟩, 3) := ⟨⟨by decide +kernel, by decide +kernel⟩, List.mem_of_getElem? (i := 252) (by decide +kernel), List.mem_of_getElem? (i := 928) (by decide +kernel), List.mem_of_getElem? (i := 929) (by decide +kernel)⟩
theorem lw_p23 : lw_okq (⟨"PoisonBook$Outlook", "draw", "()J"⟩, 3) := ⟨⟨by decide +kernel, by decide +kernel⟩, List.mem_of_getElem? (i := 252) (by decide +kernel), List.mem_of_getElem? (i := 932) (by decide +kernel), List.mem_of_getElem? (i := 933) (by decide +kernel)⟩
theorem lw_p24 : lw_okq (⟨"PoisonBookModel", "four", "(I)V"⟩, 36) := ⟨⟨by decide +kernel, by decide +kernel⟩, List.mem_of_getElem? (i := 976) (by decide +kernel), List.mem_of_getElem? (i := 1095) (by decide +kernel), List.mem_of_getElem? (i := 1096) (by decide +kernel)⟩
theorem lw_p25 : lw_okq (⟨"PoisonBookModel", "readsAll", "()Z"⟩, 36) := ⟨⟨by decide +kernel, by decide +kernel⟩, List.mem_of_getElem? (i := 976) (by decide +kernel), List.mem_of_getElem? (i := 1107) (by decide +kernel), List.mem_of_getElem? (i := 1108) (by decide +kernel)⟩
theorem lw_p26 : lw_okq (⟨"PoisonBookModel", "clauseHere", "()Z"⟩, 36) := ⟨⟨by decide +kernel, by decide +kernel⟩, List.mem_of_getElem? (i := 976) (by decide +kernel), List.mem_of_getElem? (i := 1111) (by decide +kernel), List.mem_of_getElem? (i := 1112) (by decide +kernel)⟩
theorem lw_p27 : lw_okq (⟨"PoisonBookModel", "see", "()I"⟩, 36) := ⟨⟨by decide +kernel, by decide +kernel⟩, List.mem_of_getElem? (i := 976) (by decide +kernel), List.mem_of_getElem? (i := 1115) (by decide +kernel), List.mem_of_getElem? (i := 1116) (by decide +kernel)⟩
theorem lw_p28 : lw_okq (⟨"PoisonBookModel", "isBookWord", "()Z"⟩, 36) := ⟨⟨by decide +kernel, by decide +kernel⟩, List.mem_of_getElem? (i := 976) (by decide +kernel), List.mem_of_getElem? (i := 1119) (by decide +kernel), List.mem_of_getElem? (i := 1120) (by decide +kernel)⟩
theorem lw_p29 : lw_okq (⟨"PoisonBookModel", "isWord", "(J)Z"⟩, 36) := ⟨⟨by decide +kernel, by decide +kernel⟩, List.mem_of_getElem? (i := 976) (by decide +kernel), List.mem_of_getElem? (i := 1124) (by decide +kernel), List.mem_of_getElem? (i := 1125) (by decide +kernel)⟩
theorem lw_p30 : lw_okq (⟨"PoisonBookModel", "isLetter", "(I)Z"⟩, 36) := ⟨⟨by decide +kernel, by decide +kernel⟩, List.mem_of_getElem? (i := 976) (by decide +kernel), List.mem_of_getElem? (i := 1128) (by decide +kernel), List.mem_of_getElem? (i := 1129) (by decide +kernel)⟩
theorem lw_p31 : lw_okq (⟨"PoisonBookModel", "fails", "(II)Z"⟩, 36) := ⟨⟨by decide +kernel, by decide +kernel⟩, List.mem_of_getElem? (i := 976) (by decide +kernel), List.mem_of_getElem? (i := 1136) (by decide +kernel), List.mem_of_getElem? (i := 1137) (by decide +kernel)⟩
def lw_privs_2 : List (MethodName × Nat) := [(⟨"PoisonBook$Choices", "clockOfPurchase", "(LPoisonBook$Shop;LPoisonBook$Rule;II)I"⟩, 3), (⟨"PoisonBook$Choices", "gain", "(LPoisonBook$Shop;I)I"⟩, 3), (⟨"PoisonBook$Choices", "isRest", "(I)Z"⟩, 3), (⟨"PoisonBook$Inquiry", "agrees", "(ILPoisonBook$Notes;)Z"⟩, 4), (⟨"PoisonBook$Inquiry", "whoOn", "(II)I"⟩, 4), (⟨"PoisonBook$Inquiry", "mostAlike", "(I)I"⟩, 4), (⟨"PoisonBook$Outlook", "drawSky", "(I)V"⟩, 3), (⟨"PoisonBook$Outlook", "draw", "()J"⟩, 3), (⟨"PoisonBookModel", "four", "(I)V"⟩, 36), (⟨"PoisonBookModel", "readsAll", "()Z"⟩, 36), (⟨"PoisonBookModel", "clauseHere", "()Z"⟩, 36), (⟨"PoisonBookModel", "see", "()I"⟩, 36), (⟨"PoisonBookModel", "isBookWord", "()Z"⟩, 36), (⟨"PoisonBookModel", "isWord", "(J)Z"⟩, 36), (⟨"PoisonBookModel", "isLetter", "(I)Z"⟩, 36), (⟨"PoisonBookModel", "fails", "(II)Z"⟩, 36)]
theorem lw_r2 : ∀ q ∈ lw_privs_2, lw_okq q := List.forall_mem_cons.mpr ⟨lw_p16, List.forall_mem_cons.mpr ⟨lw_p17, List.forall_mem_cons.mpr ⟨lw_p18, List.forall_mem_cons.mpr ⟨lw_p19, List.forall_mem_cons.mpr ⟨lw_p20, List.forall_mem_cons.mpr ⟨lw_p21, List.forall_mem_cons.mpr ⟨lw_p22, List.forall_mem_cons.mpr ⟨lw_p23, List.forall_mem_cons.mpr ⟨lw_p24, List.forall_mem_cons.mpr ⟨lw_p25, List.forall_mem_cons.mpr ⟨lw_p26, List.forall_mem_cons.mpr ⟨lw_p27, List.forall_mem_cons.mpr ⟨lw_p28, List.forall_mem_cons.mpr ⟨lw_p29, List.forall_mem_cons.mpr ⟨lw_p30, List.forall_mem_cons.mpr ⟨lw_p31, fun _ h => absurd h List.not_mem_nil⟩⟩⟩⟩⟩⟩⟩⟩⟩⟩⟩⟩⟩⟩⟩⟩
theorem lw_p32 : lw_okq (⟨"PoisonBookModel", "bookLineHere", "(I)Z"⟩, 36) := ⟨⟨by decide +kernel, by decide +kernel⟩, List.mem_of_getElem? (i := 976) (by decide +kernel), List.mem_of_getElem? (i := 1140) (by decide +kernel), List.mem_of_getElem? (i := 1141) (by decide +kernel)⟩
theorem lw_p33 : lw_okq (⟨"PoisonBookModel", "isBookHere", "(I)Z"⟩, 36) := ⟨⟨by decide +kernel, by decide +kernel⟩, List.mem_of_getElem? (i := 976) (by decide +kernel), List.mem_of_getElem? (i := 1144) (by decide +kernel), List.mem_of_getElem? (i := 1145) (by decide +kernel)⟩
theorem lw_p34 : lw_okq (⟨"PoisonBookModel", "passWord", "()V"⟩, 36) := ⟨⟨by decide +kernel, by decide +kernel⟩, List.mem_of_getElem? (i := 976) (by decide +kernel), List.mem_of_getElem? (i := 1148) (by decide +kernel), List.mem_of_getElem? (i := 1149) (by decide +kernel)⟩
theorem lw_p35 : lw_okq (⟨"PoisonBookModel", "cellHere", "(III)Z"⟩, 36) := ⟨⟨by decide +kernel, by decide +kernel⟩, List.mem_of_getElem? (i := 976) (by decide +kernel), List.mem_of_getElem? (i := 1152) (by decide +kernel), List.mem_of_getElem? (i := 1153) (by decide +kernel)⟩
theorem lw_p36 : lw_okq (⟨"PoisonBookModel", "numberHere", "(II)Z"⟩, 36) := ⟨⟨by decide +kernel, by decide +kernel⟩, List.mem_of_getElem? (i := 976) (by decide +kernel), List.mem_of_getElem? (i := 1156) (by decide +kernel), List.mem_of_getElem? (i := 1157) (by decide +kernel)⟩
theorem lw_p37 : lw_okq (⟨"PoisonBookModel", "isDigit", "(I)Z"⟩, 36) := ⟨⟨by decide +kernel, by decide +kernel⟩, List.mem_of_getElem? (i := 976) (by decide +kernel), List.mem_of_getElem? (i := 1160) (by decide +kernel), List.mem_of_getElem? (i := 1161) (by decide +kernel)⟩
theorem lw_p38 : lw_okq (⟨"PoisonBookModel", "isSkyHere", "()Z"⟩, 36) := ⟨⟨by decide +kernel, by decide +kernel⟩, List.mem_of_getElem? (i := 976) (by decide +kernel), List.mem_of_getElem? (i := 1167) (by decide +kernel), List.mem_of_getElem? (i := 1168) (by decide +kernel)⟩
theorem lw_p39 : lw_okq (⟨"PoisonBookModel", "isBuyerHere", "(I)Z"⟩, 36) := ⟨⟨by decide +kernel, by decide +kernel⟩, List.mem_of_getElem? (i := 976) (by decide +kernel), List.mem_of_getElem? (i := 1171) (by decide +kernel), List.mem_of_getElem? (i := 1172) (by decide +kernel)⟩
theorem lw_p40 : lw_okq (⟨"PoisonBookModel", "isWatchHere", "()Z"⟩, 36) := ⟨⟨by decide +kernel, by decide +kernel⟩, List.mem_of_getElem? (i := 976) (by decide +kernel), List.mem_of_getElem? (i := 1175) (by decide +kernel), List.mem_of_getElem? (i := 1176) (by decide +kernel)⟩
theorem lw_p41 : lw_okq (⟨"PoisonBookModel", "isBuyHere", "()Z"⟩, 36) := ⟨⟨by decide +kernel, by decide +kernel⟩, List.mem_of_getElem? (i := 976) (by decide +kernel), List.mem_of_getElem? (i := 1179) (by decide +kernel), List.mem_of_getElem? (i := 1180) (by decide +kernel)⟩
theorem lw_p42 : lw_okq (⟨"PoisonBookModel", "sum", "()Z"⟩, 36) := ⟨⟨by decide +kernel, by decide +kernel⟩, List.mem_of_getElem? (i := 976) (by decide +kernel), List.mem_of_getElem? (i := 1183) (by decide +kernel), List.mem_of_getElem? (i := 1184) (by decide +kernel)⟩
theorem lw_p43 : lw_okq (⟨"PoisonBookModel", "term", "()Z"⟩, 36) := ⟨⟨by decide +kernel, by decide +kernel⟩, List.mem_of_getElem? (i := 976) (by decide +kernel), List.mem_of_getElem? (i := 1187) (by decide +kernel), List.mem_of_getElem? (i := 1188) (by decide +kernel)⟩
theorem lw_p44 : lw_okq (⟨"PoisonBookModel", "value", "()Z"⟩, 36) := ⟨⟨by decide +kernel, by decide +kernel⟩, List.mem_of_getElem? (i := 976) (by decide +kernel), List.mem_of_getElem? (i := 1191) (by decide +kernel), List.mem_of_getElem? (i := 1192) (by decide +kernel)⟩
theorem lw_p45 : lw_okq (⟨"PoisonBookModel", "makes", "(I)Z"⟩, 36) := ⟨⟨by decide +kernel, by decide +kernel⟩, List.mem_of_getElem? (i := 976) (by decide +kernel), List.mem_of_getElem? (i := 1196) (by decide +kernel), List.mem_of_getElem? (i := 1197) (by decide +kernel)⟩
theorem lw_p46 : lw_okq (⟨"PoisonBookModel", "puts", "(II)V"⟩, 36) := ⟨⟨by decide +kernel, by decide +kernel⟩, List.mem_of_getElem? (i := 976) (by decide +kernel), List.mem_of_getElem? (i := 1200) (by decide +kernel), List.mem_of_getElem? (i := 1201) (by decide +kernel)⟩
theorem lw_p47 : lw_okq (⟨"PoisonBookModel", "wordHere", "()I"⟩, 36) := ⟨⟨by decide +kernel, by decide +kernel⟩, List.mem_of_getElem? (i := 976) (by decide +kernel), List.mem_of_getElem? (i := 1204) (by decide +kernel), List.mem_of_getElem? (i := 1205) (by decide +kernel)⟩
def lw_privs_3 : List (MethodName × Nat) := [(⟨"PoisonBookModel", "bookLineHere", "(I)Z"⟩, 36), (⟨"PoisonBookModel", "isBookHere", "(I)Z"⟩, 36), (⟨"PoisonBookModel", "passWord", "()V"⟩, 36), (⟨"PoisonBookModel", "cellHere", "(III)Z"⟩, 36), (⟨"PoisonBookModel", "numberHere", "(II)Z"⟩, 36), (⟨"PoisonBookModel", "isDigit", "(I)Z"⟩, 36), (⟨"PoisonBookModel", "isSkyHere", "()Z"⟩, 36), (⟨"PoisonBookModel", "isBuyerHere", "(I)Z"⟩, 36), (⟨"PoisonBookModel", "isWatchHere", "()Z"⟩, 36), (⟨"PoisonBookModel", "isBuyHere", "()Z"⟩, 36), (⟨"PoisonBookModel", "sum", "()Z"⟩, 36), (⟨"PoisonBookModel", "term", "()Z"⟩, 36), (⟨"PoisonBookModel", "value", "()Z"⟩, 36), (⟨"PoisonBookModel", "makes", "(I)Z"⟩, 36), (⟨"PoisonBookModel", "puts", "(II)V"⟩, 36), (⟨"PoisonBookModel", "wordHere", "()I"⟩, 36)]
theorem lw_r3 : ∀ q ∈ lw_privs_3, lw_okq q := List.forall_mem_cons.mpr ⟨lw_p32, List.forall_mem_cons.mpr ⟨lw_p33, List.forall_mem_cons.mpr ⟨lw_p34, List.forall_mem_cons.mpr ⟨lw_p35, List.forall_mem_cons.mpr ⟨lw_p36, List.forall_mem_cons.mpr ⟨lw_p37, List.forall_mem_cons.mpr ⟨lw_p38, List.forall_mem_cons.mpr ⟨lw_p39, List.forall_mem_cons.mpr ⟨lw_p40, List.forall_mem_cons.mpr ⟨lw_p41, List.forall_mem_cons.mpr ⟨lw_p42, List.forall_mem_cons.mpr ⟨lw_p43, List.forall_mem_cons.mpr ⟨lw_p44, List.forall_mem_cons.mpr ⟨lw_p45, List.forall_mem_cons.mpr ⟨lw_p46, List.forall_mem_cons.mpr ⟨lw_p47, fun _ h => absurd h List.not_mem_nil⟩⟩⟩⟩⟩⟩⟩⟩⟩⟩⟩⟩⟩⟩⟩⟩
theorem lw_p48 : lw_okq (⟨"PoisonBookModel", "takesWord", "(J)Z"⟩, 36) := ⟨⟨by decide +kernel, by decide +kernel⟩, List.mem_of_getElem? (i := 976) (by decide +kernel), List.mem_of_getElem? (i := 1221) (by decide +kernel), List.mem_of_getElem? (i := 1222) (by decide +kernel)⟩
theorem lw_p49 : lw_okq (⟨"PoisonBookModel", "tested", "()Z"⟩, 36) := ⟨⟨by decide +kernel, by decide +kernel⟩, List.mem_of_getElem? (i := 976) (by decide +kernel), List.mem_of_getElem? (i := 1225) (by decide +kernel), List.mem_of_getElem? (i := 1226) (by decide +kernel)⟩
theorem lw_p50 : lw_okq (⟨"PoisonBookModel", "fact", "()Z"⟩, 36) := ⟨⟨by decide +kernel, by decide +kernel⟩, List.mem_of_getElem? (i := 976) (by decide +kernel), List.mem_of_getElem? (i := 1229) (by decide +kernel), List.mem_of_getElem? (i := 1230) (by decide +kernel)⟩
theorem lw_p51 : lw_okq (⟨"PoisonBookModel", "opens", "(I)Z"⟩, 36) := ⟨⟨by decide +kernel, by decide +kernel⟩, List.mem_of_getElem? (i := 976) (by decide +kernel), List.mem_of_getElem? (i := 1234) (by decide +kernel), List.mem_of_getElem? (i := 1235) (by decide +kernel)⟩
theorem lw_p52 : lw_okq (⟨"PoisonBookModel", "compare", "()Z"⟩, 36) := ⟨⟨by decide +kernel, by decide +kernel⟩, List.mem_of_getElem? (i := 976) (by decide +kernel), List.mem_of_getElem? (i := 1238) (by decide +kernel), List.mem_of_getElem? (i := 1239) (by decide +kernel)⟩
theorem lw_p53 : lw_okq (⟨"PoisonBookModel", "closes", "()V"⟩, 36) := ⟨⟨by decide +kernel, by decide +kernel⟩, List.mem_of_getElem? (i := 976) (by decide +kernel), List.mem_of_getElem? (i := 1242) (by decide +kernel), List.mem_of_getElem? (i := 1243) (by decide +kernel)⟩
theorem lw_p54 : lw_okq (⟨"PoisonBookModel", "layDown", "(I)V"⟩, 36) := ⟨⟨by decide +kernel, by decide +kernel⟩, List.mem_of_getElem? (i := 976) (by decide +kernel), List.mem_of_getElem? (i := 1246) (by decide +kernel), List.mem_of_getElem? (i := 1247) (by decide +kernel)⟩
theorem lw_p55 : lw_okq (⟨"PoisonBookModel", "isInside", "()Z"⟩, 36) := ⟨⟨by decide +kernel, by decide +kernel⟩, List.mem_of_getElem? (i := 976) (by decide +kernel), List.mem_of_getElem? (i := 1253) (by decide +kernel), List.mem_of_getElem? (i := 1254) (by decide +kernel)⟩
theorem lw_p56 : lw_okq (⟨"PoisonBookModel", "begins", "()V"⟩, 36) := ⟨⟨by decide +kernel, by decide +kernel⟩, List.mem_of_getElem? (i := 976) (by decide +kernel), List.mem_of_getElem? (i := 1263) (by decide +kernel), List.mem_of_getElem? (i := 1264) (by decide +kernel)⟩
theorem lw_p57 : lw_okq (⟨"PoisonBookModel", "isRule", "(I)Z"⟩, 36) := ⟨⟨by decide +kernel, by decide +kernel⟩, List.mem_of_getElem? (i := 976) (by decide +kernel), List.mem_of_getElem? (i := 1271) (by decide +kernel), List.mem_of_getElem? (i := 1272) (by decide +kernel)⟩
theorem lw_p58 : lw_okq (⟨"PoisonBookModel", "isBuyer", "(I)Z"⟩, 36) := ⟨⟨by decide +kernel, by decide +kernel⟩, List.mem_of_getElem? (i := 976) (by decide +kernel), List.mem_of_getElem? (i := 1279) (by decide +kernel), List.mem_of_getElem? (i := 1280) (by decide +kernel)⟩
theorem lw_p59 : lw_okq (⟨"PoisonBookModel", "temperOf", "(I)I"⟩, 36) := ⟨⟨by decide +kernel, by decide +kernel⟩, List.mem_of_getElem? (i := 976) (by decide +kernel), List.mem_of_getElem? (i := 1283) (by decide +kernel), List.mem_of_getElem? (i := 1284) (by decide +kernel)⟩
theorem lw_p60 : lw_okq (⟨"PoisonBookModel", "boughtBy", "(I)I"⟩, 36) := ⟨⟨by decide +kernel, by decide +kernel⟩, List.mem_of_getElem? (i := 976) (by decide +kernel), List.mem_of_getElem? (i := 1287) (by decide +kernel), List.mem_of_getElem? (i := 1288) (by decide +kernel)⟩
theorem lw_p61 : lw_okq (⟨"PoisonBookModel", "metOf", "(I)I"⟩, 36) := ⟨⟨by decide +kernel, by decide +kernel⟩, List.mem_of_getElem? (i := 976) (by decide +kernel), List.mem_of_getElem? (i := 1291) (by decide +kernel), List.mem_of_getElem? (i := 1292) (by decide +kernel)⟩
theorem lw_p62 : lw_okq (⟨"PoisonBookModel", "sinceOf", "(I)I"⟩, 36) := ⟨⟨by decide +kernel, by decide +kernel⟩, List.mem_of_getElem? (i := 976) (by decide +kernel), List.mem_of_getElem? (i := 1295) (by decide +kernel), List.mem_of_getElem? (i := 1296) (by decide +kernel)⟩
theorem lw_p63 : lw_okq (⟨"PoisonBookModel", "lastOf", "(I)I"⟩, 36) := ⟨⟨by decide +kernel, by decide +kernel⟩, List.mem_of_getElem? (i := 976) (by decide +kernel), List.mem_of_getElem? (i := 1299) (by decide +kernel), List.mem_of_getElem? (i := 1300) (by decide +kernel)⟩
def lw_privs_4 : List (MethodName × Nat) := [(⟨"PoisonBookModel", "takesWord", "(J)Z"⟩, 36), (⟨"PoisonBookModel", "tested", "()Z"⟩, 36), (⟨"PoisonBookModel", "fact", "()Z"⟩, 36), (⟨"PoisonBookModel", "opens", "(I)Z"⟩, 36), (⟨"PoisonBookModel", "compare", "()Z"⟩, 36), (⟨"PoisonBookModel", "closes", "()V"⟩, 36), (⟨"PoisonBookModel", "layDown", "(I)V"⟩, 36), (⟨"PoisonBookModel", "isInside", "()Z"⟩, 36), (⟨"PoisonBookModel", "begins", "()V"⟩, 36), (⟨"PoisonBookModel", "isRule", "(I)Z"⟩, 36), (⟨"PoisonBookModel", "isBuyer", "(I)Z"⟩, 36), (⟨"PoisonBookModel", "temperOf", "(I)I"⟩, 36), (⟨"PoisonBookModel", "boughtBy", "(I)I"⟩, 36), (⟨"PoisonBookModel", "metOf", "(I)I"⟩, 36), (⟨"PoisonBookModel", "sinceOf", "(I)I"⟩, 36), (⟨"PoisonBookModel", "lastOf", "(I)I"⟩, 36)]
theorem lw_r4 : ∀ q ∈ lw_privs_4, lw_okq q := List.forall_mem_cons.mpr ⟨lw_p48, List.forall_mem_cons.mpr ⟨lw_p49, List.forall_mem_cons.mpr ⟨lw_p50, List.forall_mem_cons.mpr ⟨lw_p51, List.forall_mem_cons.mpr ⟨lw_p52, List.forall_mem_cons.mpr ⟨lw_p53, List.forall_mem_cons.mpr ⟨lw_p54, List.forall_mem_cons.mpr ⟨lw_p55, List.forall_mem_cons.mpr ⟨lw_p56, List.forall_mem_cons.mpr ⟨lw_p57, List.forall_mem_cons.mpr ⟨lw_p58, List.forall_mem_cons.mpr ⟨lw_p59, List.forall_mem_cons.mpr ⟨lw_p60, List.forall_mem_cons.mpr ⟨lw_p61, List.forall_mem_cons.mpr ⟨lw_p62, List.forall_mem_cons.mpr ⟨lw_p63, fun _ h => absurd h List.not_mem_nil⟩⟩⟩⟩⟩⟩⟩⟩⟩⟩⟩⟩⟩⟩⟩⟩
theorem lw_p64 : lw_okq (⟨"PoisonBookModel", "isClock", "(I)Z"⟩, 36) := ⟨⟨by decide +kernel, by decide +kernel⟩, List.mem_of_getElem? (i := 976) (by decide +kernel), List.mem_of_getElem? (i := 1307) (by decide +kernel), List.mem_of_getElem? (i := 1308) (by decide +kernel)⟩
theorem lw_p65 : lw_okq (⟨"PoisonBookModel", "isBook", "()Z"⟩, 36) := ⟨⟨by decide +kernel, by decide +kernel⟩, List.mem_of_getElem? (i := 976) (by decide +kernel), List.mem_of_getElem? (i := 1311) (by decide +kernel), List.mem_of_getElem? (i := 1312) (by decide +kernel)⟩
theorem lw_p66 : lw_okq (⟨"PoisonBookModel", "keepsAct", "()V"⟩, 36) := ⟨⟨by decide +kernel, by decide +kernel⟩, List.mem_of_getElem? (i := 976) (by decide +kernel), List.mem_of_getElem? (i := 1323) (by decide +kernel), List.mem_of_getElem? (i := 1324) (by decide +kernel)⟩
theorem lw_p67 : lw_okq (⟨"PoisonBookModel", "passes", "()I"⟩, 36) := ⟨⟨by decide +kernel, by decide +kernel⟩, List.mem_of_getElem? (i := 976) (by decide +kernel), List.mem_of_getElem? (i := 1327) (by decide +kernel), List.mem_of_getElem? (i := 1328) (by decide +kernel)⟩
theorem lw_p68 : lw_okq (⟨"PoisonBookModel", "canBuy", "(I)Z"⟩, 36) := ⟨⟨by decide +kernel, by decide +kernel⟩, List.mem_of_getElem? (i := 976) (by decide +kernel), List.mem_of_getElem? (i := 1331) (by decide +kernel), List.mem_of_getElem? (i := 1332) (by decide +kernel)⟩
theorem lw_p69 : lw_okq (⟨"PoisonBookModel", "isWilling", "(I)Z"⟩, 36) := ⟨⟨by decide +kernel, by decide +kernel⟩, List.mem_of_getElem? (i := 976) (by decide +kernel), List.mem_of_getElem? (i := 1335) (by decide +kernel), List.mem_of_getElem? (i := 1336) (by decide +kernel)⟩
theorem lw_p70 : lw_okq (⟨"PoisonBookModel", "clock", "()I"⟩, 36) := ⟨⟨by decide +kernel, by decide +kernel⟩, List.mem_of_getElem? (i := 976) (by decide +kernel), List.mem_of_getElem? (i := 1339) (by decide +kernel), List.mem_of_getElem? (i := 1340) (by decide +kernel)⟩
theorem lw_p71 : lw_okq (⟨"PoisonBookModel", "soldAll", "()I"⟩, 36) := ⟨⟨by decide +kernel, by decide +kernel⟩, List.mem_of_getElem? (i := 976) (by decide +kernel), List.mem_of_getElem? (i := 1343) (by decide +kernel), List.mem_of_getElem? (i := 1344) (by decide +kernel)⟩
theorem lw_p72 : lw_okq (⟨"PoisonBookModel", "summedBy", "(I)J"⟩, 36) := ⟨⟨by decide +kernel, by decide +kernel⟩, List.mem_of_getElem? (i := 976) (by decide +kernel), List.mem_of_getElem? (i := 1347) (by decide +kernel), List.mem_of_getElem? (i := 1348) (by decide +kernel)⟩
theorem lw_p73 : lw_okq (⟨"PoisonBookModel", "reckons", "(III)J"⟩, 36) := ⟨⟨by decide +kernel, by decide +kernel⟩, List.mem_of_getElem? (i := 976) (by decide +kernel), List.mem_of_getElem? (i := 1351) (by decide +kernel), List.mem_of_getElem? (i := 1352) (by decide +kernel)⟩
theorem lw_p74 : lw_okq (⟨"PoisonBookModel", "push", "(J)V"⟩, 36) := ⟨⟨by decide +kernel, by decide +kernel⟩, List.mem_of_getElem? (i := 976) (by decide +kernel), List.mem_of_getElem? (i := 1355) (by decide +kernel), List.mem_of_getElem? (i := 1356) (by decide +kernel)⟩
theorem lw_p75 : lw_okq (⟨"PoisonBookModel", "pop", "()J"⟩, 36) := ⟨⟨by decide +kernel, by decide +kernel⟩, List.mem_of_getElem? (i := 976) (by decide +kernel), List.mem_of_getElem? (i := 1359) (by decide +kernel), List.mem_of_getElem? (i := 1360) (by decide +kernel)⟩
theorem lw_p76 : lw_okq (⟨"PoisonBookModel", "comes", "(I)Z"⟩, 36) := ⟨⟨by decide +kernel, by decide +kernel⟩, List.mem_of_getElem? (i := 976) (by decide +kernel), List.mem_of_getElem? (i := 1366) (by decide +kernel), List.mem_of_getElem? (i := 1367) (by decide +kernel)⟩
theorem lw_p77 : lw_okq (⟨"PoisonBookModel", "isMet", "(I)Z"⟩, 36) := ⟨⟨by decide +kernel, by decide +kernel⟩, List.mem_of_getElem? (i := 976) (by decide +kernel), List.mem_of_getElem? (i := 1370) (by decide +kernel), List.mem_of_getElem? (i := 1371) (by decide +kernel)⟩
theorem lw_p78 : lw_okq (⟨"PoisonBookModel", "takes", "(I)V"⟩, 36) := ⟨⟨by decide +kernel, by decide +kernel⟩, List.mem_of_getElem? (i := 976) (by decide +kernel), List.mem_of_getElem? (i := 1377) (by decide +kernel), List.mem_of_getElem? (i := 1378) (by decide +kernel)⟩
theorem lw_p79 : lw_okq (⟨"PoisonBookModel", "weathers", "()V"⟩, 36) := ⟨⟨by decide +kernel, by decide +kernel⟩, List.mem_of_getElem? (i := 976) (by decide +kernel), List.mem_of_getElem? (i := 1381) (by decide +kernel), List.mem_of_getElem? (i := 1382) (by decide +kernel)⟩
def lw_privs_5 : List (MethodName × Nat) := [(⟨"PoisonBookModel", "isClock", "(I)Z"⟩, 36), (⟨"PoisonBookModel", "isBook", "()Z"⟩, 36), (⟨"PoisonBookModel", "keepsAct", "()V"⟩, 36), (⟨"PoisonBookModel", "passes", "()I"⟩, 36), (⟨"PoisonBookModel", "canBuy", "(I)Z"⟩, 36), (⟨"PoisonBookModel", "isWilling", "(I)Z"⟩, 36), (⟨"PoisonBookModel", "clock", "()I"⟩, 36), (⟨"PoisonBookModel", "soldAll", "()I"⟩, 36), (⟨"PoisonBookModel", "summedBy", "(I)J"⟩, 36), (⟨"PoisonBookModel", "reckons", "(III)J"⟩, 36), (⟨"PoisonBookModel", "push", "(J)V"⟩, 36), (⟨"PoisonBookModel", "pop", "()J"⟩, 36), (⟨"PoisonBookModel", "comes", "(I)Z"⟩, 36), (⟨"PoisonBookModel", "isMet", "(I)Z"⟩, 36), (⟨"PoisonBookModel", "takes", "(I)V"⟩, 36), (⟨"PoisonBookModel", "weathers", "()V"⟩, 36)]
theorem lw_r5 : ∀ q ∈ lw_privs_5, lw_okq q := List.forall_mem_cons.mpr ⟨lw_p64, List.forall_mem_cons.mpr ⟨lw_p65, List.forall_mem_cons.mpr ⟨lw_p66, List.forall_mem_cons.mpr ⟨lw_p67, List.forall_mem_cons.mpr ⟨lw_p68, List.forall_mem_cons.mpr ⟨lw_p69, List.forall_mem_cons.mpr ⟨lw_p70, List.forall_mem_cons.mpr ⟨lw_p71, List.forall_mem_cons.mpr ⟨lw_p72, List.forall_mem_cons.mpr ⟨lw_p73, List.forall_mem_cons.mpr ⟨lw_p74, List.forall_mem_cons.mpr ⟨lw_p75, List.forall_mem_cons.mpr ⟨lw_p76, List.forall_mem_cons.mpr ⟨lw_p77, List.forall_mem_cons.mpr ⟨lw_p78, List.forall_mem_cons.mpr ⟨lw_p79, fun _ h => absurd h List.not_mem_nil⟩⟩⟩⟩⟩⟩⟩⟩⟩⟩⟩⟩⟩⟩⟩⟩
theorem lw_p80 : lw_okq (⟨"PoisonBookModel", "keeps", "()V"⟩, 36) := ⟨⟨by decide +kernel, by decide +kernel⟩, List.mem_of_getElem? (i := 976) (by decide +kernel), List.mem_of_getElem? (i := 1409) (by decide +kernel), List.mem_of_getElem? (i := 1410) (by decide +kernel)⟩
theorem lw_p81 : lw_okq (⟨"PoisonBookModel", "passesAll", "(I)V"⟩, 36) := ⟨⟨by decide +kernel, by decide +kernel⟩, List.mem_of_getElem? (i := 976) (by decide +kernel), List.mem_of_getElem? (i := 1413) (by decide +kernel), List.mem_of_getElem? (i := 1414) (by decide +kernel)⟩
theorem lw_p82 : lw_okq (⟨"PoisonBookModel", "laysBack", "()V"⟩, 36) := ⟨⟨by decide +kernel, by decide +kernel⟩, List.mem_of_getElem? (i := 976) (by decide +kernel), List.mem_of_getElem? (i := 1417) (by decide +kernel), List.mem_of_getElem? (i := 1418) (by decide +kernel)⟩
theorem lw_p83 : lw_okq (⟨"PoisonBookModel", "buysIn", "(II)I"⟩, 36) := ⟨⟨by decide +kernel, by decide +kernel⟩, List.mem_of_getElem? (i := 976) (by decide +kernel), List.mem_of_getElem? (i := 1425) (by decide +kernel), List.mem_of_getElem? (i := 1426) (by decide +kernel)⟩
theorem lw_p84 : lw_okq (⟨"PoisonBookModel", "soldIn", "(I)I"⟩, 36) := ⟨⟨by decide +kernel, by decide +kernel⟩, List.mem_of_getElem? (i := 976) (by decide +kernel), List.mem_of_getElem? (i := 1448) (by decide +kernel), List.mem_of_getElem? (i := 1449) (by decide +kernel)⟩
theorem lw_p85 : lw_okq (⟨"PoisonBookModel", "grainsOf", "(I)I"⟩, 36) := ⟨⟨by decide +kernel, by decide +kernel⟩, List.mem_of_getElem? (i := 976) (by decide +kernel), List.mem_of_getElem? (i := 1469) (by decide +kernel), List.mem_of_getElem? (i := 1470) (by decide +kernel)⟩
theorem lw_p86 : lw_okq (⟨"PoisonBookModel", "valueOf", "(I)I"⟩, 36) := ⟨⟨by decide +kernel, by decide +kernel⟩, List.mem_of_getElem? (i := 976) (by decide +kernel), List.mem_of_getElem? (i := 1482) (by decide +kernel), List.mem_of_getElem? (i := 1483) (by decide +kernel)⟩
theorem lw_p87 : lw_okq (⟨"PoisonBookModel", "isRest", "(II)Z"⟩, 36) := ⟨⟨by decide +kernel, by decide +kernel⟩, List.mem_of_getElem? (i := 976) (by decide +kernel), List.mem_of_getElem? (i := 1486) (by decide +kernel), List.mem_of_getElem? (i := 1487) (by decide +kernel)⟩
theorem lw_p88 : lw_okq (⟨"PoisonBookModel", "areAlike", "(II)Z"⟩, 36) := ⟨⟨by decide +kernel, by decide +kernel⟩, List.mem_of_getElem? (i := 976) (by decide +kernel), List.mem_of_getElem? (i := 1494) (by decide +kernel), List.mem_of_getElem? (i := 1495) (by decide +kernel)⟩
theorem lw_p89 : lw_okq (⟨"PoisonBookModel", "fillsFits", "()V"⟩, 36) := ⟨⟨by decide +kernel, by decide +kernel⟩, List.mem_of_getElem? (i := 976) (by decide +kernel), List.mem_of_getElem? (i := 1510) (by decide +kernel), List.mem_of_getElem? (i := 1511) (by decide +kernel)⟩
theorem lw_p90 : lw_okq (⟨"PoisonBookModel", "areNotesSo", "(I)Z"⟩, 36) := ⟨⟨by decide +kernel, by decide +kernel⟩, List.mem_of_getElem? (i := 976) (by decide +kernel), List.mem_of_getElem? (i := 1517) (by decide +kernel), List.mem_of_getElem? (i := 1518) (by decide +kernel)⟩
theorem lw_p91 : lw_okq (⟨"PoisonBookModel", "alikeAt", "(I)I"⟩, 36) := ⟨⟨by decide +kernel, by decide +kernel⟩, List.mem_of_getElem? (i := 976) (by decide +kernel), List.mem_of_getElem? (i := 1525) (by decide +kernel), List.mem_of_getElem? (i := 1526) (by decide +kernel)⟩
theorem lw_p92 : lw_okq (⟨"PoisonBookModel", "draw", "(I)I"⟩, 36) := ⟨⟨by decide +kernel, by decide +kernel⟩, List.mem_of_getElem? (i := 976) (by decide +kernel), List.mem_of_getElem? (i := 1538) (by decide +kernel), List.mem_of_getElem? (i := 1539) (by decide +kernel)⟩
theorem lw_p93 : lw_okq (⟨"PoisonBookModel", "metAll", "()I"⟩, 36) := ⟨⟨by decide +kernel, by decide +kernel⟩, List.mem_of_getElem? (i := 976) (by decide +kernel), List.mem_of_getElem? (i := 1550) (by decide +kernel), List.mem_of_getElem? (i := 1551) (by decide +kernel)⟩
def lw_privs_6 : List (MethodName × Nat) := [(⟨"PoisonBookModel", "keeps", "()V"⟩, 36), (⟨"PoisonBookModel", "passesAll", "(I)V"⟩, 36), (⟨"PoisonBookModel", "laysBack", "()V"⟩, 36), (⟨"PoisonBookModel", "buysIn", "(II)I"⟩, 36), (⟨"PoisonBookModel", "soldIn", "(I)I"⟩, 36), (⟨"PoisonBookModel", "grainsOf", "(I)I"⟩, 36), (⟨"PoisonBookModel", "valueOf", "(I)I"⟩, 36), (⟨"PoisonBookModel", "isRest", "(II)Z"⟩, 36), (⟨"PoisonBookModel", "areAlike", "(II)Z"⟩, 36), (⟨"PoisonBookModel", "fillsFits", "()V"⟩, 36), (⟨"PoisonBookModel", "areNotesSo", "(I)Z"⟩, 36), (⟨"PoisonBookModel", "alikeAt", "(I)I"⟩, 36), (⟨"PoisonBookModel", "draw", "(I)I"⟩, 36), (⟨"PoisonBookModel", "metAll", "()I"⟩, 36)]
theorem lw_r6 : ∀ q ∈ lw_privs_6, lw_okq q := List.forall_mem_cons.mpr ⟨lw_p80, List.forall_mem_cons.mpr ⟨lw_p81, List.forall_mem_cons.mpr ⟨lw_p82, List.forall_mem_cons.mpr ⟨lw_p83, List.forall_mem_cons.mpr ⟨lw_p84, List.forall_mem_cons.mpr ⟨lw_p85, List.forall_mem_cons.mpr ⟨lw_p86, List.forall_mem_cons.mpr ⟨lw_p87, List.forall_mem_cons.mpr ⟨lw_p88, List.forall_mem_cons.mpr ⟨lw_p89, List.forall_mem_cons.mpr ⟨lw_p90, List.forall_mem_cons.mpr ⟨lw_p91, List.forall_mem_cons.mpr ⟨lw_p92, List.forall_mem_cons.mpr ⟨lw_p93, fun _ h => absurd h List.not_mem_nil⟩⟩⟩⟩⟩⟩⟩⟩⟩⟩⟩⟩⟩⟩
def lw_privs : List (MethodName × Nat) := lw_privs_1 ++ (lw_privs_2 ++ (lw_privs_3 ++ (lw_privs_4 ++ (lw_privs_5 ++ (lw_privs_6)))))
def lw_tbl : List Cond := k2_sels lw_privs ++ tables_1
theorem lw_privs_ok : ∀ q ∈ lw_privs, lw_okq q := by
  show ∀ q ∈ lw_privs_1 ++ (lw_privs_2 ++ (lw_privs_3 ++ (lw_privs_4 ++ (lw_privs_5 ++ (lw_privs_6))))), lw_okq q
  exact List.forall_mem_append.mpr ⟨lw_r1, List.forall_mem_append.mpr ⟨lw_r2, List.forall_mem_append.mpr ⟨lw_r3, List.forall_mem_append.mpr ⟨lw_r4, List.forall_mem_append.mpr ⟨lw_r5, lw_r6⟩⟩⟩⟩⟩
end
section
def RX0 : String := "PoisonBook$BookReader"
def TX0 : u_T := fun k => match k with
  | _ => ("PoisonBook$BookReader", "shop", "LPoisonBook$Shop;", true)
def tyX0 : Nat → FieldType := fun k => match k with
  | _ => .object "PoisonBook$Shop"
abbrev wsX00 : List Cond := u_ws RX0 TX0 1
theorem nmX0 : ∀ a, a < 1 → ∀ b, b < 1 → a ≠ b → (TX0 a).2.1 ≠ (TX0 b).2.1 := by decide +kernel
theorem tyX0_ok : ∀ k, k < 1 → parseFieldDescriptor (TX0 k).2.2.1 = some (tyX0 k) := by decide +kernel
abbrev cX0_init : ByteArray := prog_2_method_1_code
def yX0_init : MethodName := ⟨RX0, "<init>", "()V"⟩
abbrev cX0_read : ByteArray := prog_2_method_2_code
def yX0_read : MethodName := ⟨RX0, "read", "(LPoisonBook$Tape;)I"⟩
abbrev cX0_readClause : ByteArray := prog_2_method_3_code
def yX0_readClause : MethodName := ⟨RX0, "readClause", "(LPoisonBook$Tape;I)V"⟩
abbrev cX0_readBook : ByteArray := prog_2_method_4_code
def yX0_readBook : MethodName := ⟨RX0, "readBook", "(LPoisonBook$Tape;)V"⟩
abbrev cX0_readSky : ByteArray := prog_2_method_5_code
def yX0_readSky : MethodName := ⟨RX0, "readSky", "(LPoisonBook$Tape;)V"⟩
abbrev cX0_readBuyer : ByteArray := prog_2_method_6_code
def yX0_readBuyer : MethodName := ⟨RX0, "readBuyer", "(LPoisonBook$Tape;)V"⟩
abbrev cX0_readWatch : ByteArray := prog_2_method_7_code
def yX0_readWatch : MethodName := ⟨RX0, "readWatch", "(LPoisonBook$Tape;)V"⟩
def RX1 : String := "PoisonBook$Choices"
def TX1 : u_T := fun k => match k with
  | 0 => ("PoisonBook$Choices", "then", "LPoisonBook$Shop;", true)
  | 1 => ("PoisonBook$Choices", "oneHas", "[I", true)
  | _ => ("PoisonBook$Choices", "otherHas", "[I", true)
def tyX1 : Nat → FieldType := fun k => match k with
  | 0 => .object "PoisonBook$Shop"
  | 1 => .array .int
  | _ => .array .int
abbrev wsX10 : List Cond := u_ws RX1 TX1 3
theorem nmX1 : ∀ a, a < 3 → ∀ b, b < 3 → a ≠ b → (TX1 a).2.1 ≠ (TX1 b).2.1 := by decide +kernel
theorem tyX1_ok : ∀ k, k < 3 → parseFieldDescriptor (TX1 k).2.2.1 = some (tyX1 k) := by decide +kernel
abbrev cX1_init : ByteArray := prog_3_method_1_code
def yX1_init : MethodName := ⟨RX1, "<init>", "()V"⟩
abbrev cX1_smallestGuard : ByteArray := prog_3_method_2_code
def yX1_smallestGuard : MethodName := ⟨RX1, "smallestGuard", "(LPoisonBook$Shop;LPoisonBook$Rule;I)I"⟩
abbrev cX1_clockOfPurchase : ByteArray := prog_3_method_3_code
def yX1_clockOfPurchase : MethodName := ⟨RX1, "clockOfPurchase", "(LPoisonBook$Shop;LPoisonBook$Rule;II)I"⟩
abbrev cX1_bestDay : ByteArray := prog_3_method_4_code
def yX1_bestDay : MethodName := ⟨RX1, "bestDay", "(LPoisonBook$Shop;LPoisonBook$Rule;II)I"⟩
abbrev cX1_leastTemper : ByteArray := prog_3_method_5_code
def yX1_leastTemper : MethodName := ⟨RX1, "leastTemper", "(LPoisonBook$Shop;LPoisonBook$Rule;II)I"⟩
abbrev cX1_whomToSoothe : ByteArray := prog_3_method_6_code
def yX1_whomToSoothe : MethodName := ⟨RX1, "whomToSoothe", "(LPoisonBook$Shop;LPoisonBook$Rule;II)I"⟩
abbrev cX1_setsOf : ByteArray := prog_3_method_7_code
def yX1_setsOf : MethodName := ⟨RX1, "setsOf", "(LPoisonBook$Shop;II)I"⟩
abbrev cX1_grainsOf : ByteArray := prog_3_method_8_code
def yX1_grainsOf : MethodName := ⟨RX1, "grainsOf", "(LPoisonBook$Shop;I)I"⟩
abbrev cX1_playAll : ByteArray := prog_3_method_9_code
def yX1_playAll : MethodName := ⟨RX1, "playAll", "(LPoisonBook$Shop;LPoisonBook$Rule;III)V"⟩
abbrev cX1_sizeOf : ByteArray := prog_3_method_10_code
def yX1_sizeOf : MethodName := ⟨RX1, "sizeOf", "(I)I"⟩
abbrev cX1_gain : ByteArray := prog_3_method_11_code
def yX1_gain : MethodName := ⟨RX1, "gain", "(LPoisonBook$Shop;I)I"⟩
abbrev cX1_restAnswer : ByteArray := prog_3_method_12_code
def yX1_restAnswer : MethodName := ⟨RX1, "restAnswer", "(I)I"⟩
abbrev cX1_isRest : ByteArray := prog_3_method_13_code
def yX1_isRest : MethodName := ⟨RX1, "isRest", "(I)Z"⟩
def RX2 : String := "PoisonBook$Inquiry"
def TX2 : u_T := fun k => match k with
  | 0 => ("PoisonBook$Inquiry", "then", "LPoisonBook$Shop;", true)
  | 1 => ("PoisonBook$Inquiry", "who", "[I", true)
  | 2 => ("PoisonBook$Inquiry", "fits", "[Z", true)
  | _ => ("PoisonBook$Inquiry", "fitting", "I", false)
def tyX2 : Nat → FieldType := fun k => match k with
  | 0 => .object "PoisonBook$Shop"
  | 1 => .array .int
  | 2 => .array .boolean
  | _ => .int
abbrev wsX20 : List Cond := u_ws RX2 TX2 4
theorem nmX2 : ∀ a, a < 4 → ∀ b, b < 4 → a ≠ b → (TX2 a).2.1 ≠ (TX2 b).2.1 := by decide +kernel
theorem tyX2_ok : ∀ k, k < 4 → parseFieldDescriptor (TX2 k).2.2.1 = some (tyX2 k) := by decide +kernel
abbrev cX2_init : ByteArray := prog_4_method_1_code
def yX2_init : MethodName := ⟨RX2, "<init>", "()V"⟩
abbrev cX2_weigh : ByteArray := prog_4_method_2_code
def yX2_weigh : MethodName := ⟨RX2, "weigh", "(LPoisonBook$Scene;[LPoisonBook$Rule;I)V"⟩
abbrev cX2_agrees : ByteArray := prog_4_method_3_code
def yX2_agrees : MethodName := ⟨RX2, "agrees", "(ILPoisonBook$Notes;)Z"⟩
abbrev cX2_whoOn : ByteArray := prog_4_method_4_code
def yX2_whoOn : MethodName := ⟨RX2, "whoOn", "(II)I"⟩
abbrev cX2_firstFitting : ByteArray := prog_4_method_5_code
def yX2_firstFitting : MethodName := ⟨RX2, "firstFitting", "()I"⟩
abbrev cX2_dayToLook : ByteArray := prog_4_method_6_code
def yX2_dayToLook : MethodName := ⟨RX2, "dayToLook", "(I)I"⟩
abbrev cX2_mostAlike : ByteArray := prog_4_method_7_code
def yX2_mostAlike : MethodName := ⟨RX2, "mostAlike", "(I)I"⟩
def RX3 : String := "PoisonBook$Notes"
def TX3 : u_T := fun k => match k with
  | 0 => ("PoisonBook$Notes", "days", "[I", true)
  | 1 => ("PoisonBook$Notes", "buyers", "[I", true)
  | 2 => ("PoisonBook$Notes", "bought", "[I", true)
  | _ => ("PoisonBook$Notes", "size", "I", false)
def tyX3 : Nat → FieldType := fun k => match k with
  | 0 => .array .int
  | 1 => .array .int
  | 2 => .array .int
  | _ => .int
abbrev wsX30 : List Cond := u_ws RX3 TX3 4
theorem nmX3 : ∀ a, a < 4 → ∀ b, b < 4 → a ≠ b → (TX3 a).2.1 ≠ (TX3 b).2.1 := by decide +kernel
theorem tyX3_ok : ∀ k, k < 4 → parseFieldDescriptor (TX3 k).2.2.1 = some (tyX3 k) := by decide +kernel
abbrev cX3_init : ByteArray := prog_5_method_1_code
def yX3_init : MethodName := ⟨RX3, "<init>", "()V"⟩
abbrev cX3_add : ByteArray := prog_5_method_2_code
def yX3_add : MethodName := ⟨RX3, "add", "(III)Z"⟩
abbrev cX3_copyFrom : ByteArray := prog_5_method_3_code
def yX3_copyFrom : MethodName := ⟨RX3, "copyFrom", "(LPoisonBook$Notes;)V"⟩
def RX4 : String := "PoisonBook$Outlook"
def TX4 : u_T := fun k => match k with
  | 0 => ("PoisonBook$Outlook", "then", "LPoisonBook$Shop;", true)
  | 1 => ("PoisonBook$Outlook", "marks", "[J", true)
  | _ => ("PoisonBook$Outlook", "drawn", "J", false)
def tyX4 : Nat → FieldType := fun k => match k with
  | 0 => .object "PoisonBook$Shop"
  | 1 => .array .long
  | _ => .long
abbrev wsX40 : List Cond := u_ws RX4 TX4 3
theorem nmX4 : ∀ a, a < 3 → ∀ b, b < 3 → a ≠ b → (TX4 a).2.1 ≠ (TX4 b).2.1 := by decide +kernel
theorem tyX4_ok : ∀ k, k < 3 → parseFieldDescriptor (TX4 k).2.2.1 = some (tyX4 k) := by decide +kernel
abbrev cX4_init : ByteArray := prog_6_method_1_code
def yX4_init : MethodName := ⟨RX4, "<init>", "()V"⟩
abbrev cX4_aheadOf : ByteArray := prog_6_method_2_code
def yX4_aheadOf : MethodName := ⟨RX4, "aheadOf", "(LPoisonBook$Shop;LPoisonBook$Rule;III)I"⟩
abbrev cX4_firstPurchase : ByteArray := prog_6_method_3_code
def yX4_firstPurchase : MethodName := ⟨RX4, "firstPurchase", "(LPoisonBook$Shop;LPoisonBook$Rule;I)I"⟩
abbrev cX4_firstEmptyShelf : ByteArray := prog_6_method_4_code
def yX4_firstEmptyShelf : MethodName := ⟨RX4, "firstEmptyShelf", "(LPoisonBook$Shop;LPoisonBook$Rule;)I"⟩
abbrev cX4_weatherFraction : ByteArray := prog_6_method_5_code
def yX4_weatherFraction : MethodName := ⟨RX4, "weatherFraction", "(LPoisonBook$Shop;LPoisonBook$Rule;II)I"⟩
abbrev cX4_commonDivisor : ByteArray := prog_6_method_6_code
def yX4_commonDivisor : MethodName := ⟨RX4, "commonDivisor", "(II)I"⟩
abbrev cX4_firstRing : ByteArray := prog_6_method_7_code
def yX4_firstRing : MethodName := ⟨RX4, "firstRing", "(LPoisonBook$Shop;LPoisonBook$Rule;I)I"⟩
abbrev cX4_highestDay : ByteArray := prog_6_method_8_code
def yX4_highestDay : MethodName := ⟨RX4, "highestDay", "(LPoisonBook$Shop;LPoisonBook$Rule;II)I"⟩
abbrev cX4_drawnSummers : ByteArray := prog_6_method_9_code
def yX4_drawnSummers : MethodName := ⟨RX4, "drawnSummers", "(LPoisonBook$Shop;LPoisonBook$Rule;IIII)I"⟩
abbrev cX4_drawSky : ByteArray := prog_6_method_10_code
def yX4_drawSky : MethodName := ⟨RX4, "drawSky", "(I)V"⟩
abbrev cX4_draw : ByteArray := prog_6_method_11_code
def yX4_draw : MethodName := ⟨RX4, "draw", "()J"⟩
def RX5 : String := "PoisonBook$Past"
def TX5 : u_T := fun k => match k with
  | 0 => ("PoisonBook$Past", "shops", "[LPoisonBook$Shop;", true)
  | 1 => ("PoisonBook$Past", "next", "I", false)
  | _ => ("PoisonBook$Past", "size", "I", false)
def tyX5 : Nat → FieldType := fun k => match k with
  | 0 => .array (.object "PoisonBook$Shop")
  | 1 => .int
  | _ => .int
abbrev wsX50 : List Cond := u_ws RX5 TX5 3
theorem nmX5 : ∀ a, a < 3 → ∀ b, b < 3 → a ≠ b → (TX5 a).2.1 ≠ (TX5 b).2.1 := by decide +kernel
theorem tyX5_ok : ∀ k, k < 3 → parseFieldDescriptor (TX5 k).2.2.1 = some (tyX5 k) := by decide +kernel
abbrev cX5_init : ByteArray := prog_7_method_1_code
def yX5_init : MethodName := ⟨RX5, "<init>", "()V"⟩
abbrev cX5_keep : ByteArray := prog_7_method_2_code
def yX5_keep : MethodName := ⟨RX5, "keep", "(LPoisonBook$Shop;)V"⟩
abbrev cX5_giveBack : ByteArray := prog_7_method_3_code
def yX5_giveBack : MethodName := ⟨RX5, "giveBack", "(LPoisonBook$Shop;)I"⟩
def RX6 : String := "PoisonBook$Rule"
def TX6 : u_T := fun k => match k with
  | 0 => ("PoisonBook$Rule", "code", "[I", true)
  | _ => ("PoisonBook$Rule", "held", "[J", true)
def tyX6 : Nat → FieldType := fun k => match k with
  | 0 => .array .int
  | _ => .array .long
abbrev wsX60 : List Cond := u_ws RX6 TX6 2
theorem nmX6 : ∀ a, a < 2 → ∀ b, b < 2 → a ≠ b → (TX6 a).2.1 ≠ (TX6 b).2.1 := by decide +kernel
theorem tyX6_ok : ∀ k, k < 2 → parseFieldDescriptor (TX6 k).2.2.1 = some (tyX6 k) := by decide +kernel
abbrev cX6_init : ByteArray := prog_8_method_1_code
def yX6_init : MethodName := ⟨RX6, "<init>", "([I)V"⟩
abbrev cX6_sumFor : ByteArray := prog_8_method_2_code
def yX6_sumFor : MethodName := ⟨RX6, "sumFor", "(LPoisonBook$Shop;I)J"⟩
abbrev cX6_joined : ByteArray := prog_8_method_3_code
def yX6_joined : MethodName := ⟨RX6, "joined", "(IJJ)J"⟩
abbrev cX6_holds : ByteArray := prog_8_method_4_code
def yX6_holds : MethodName := ⟨RX6, "holds", "(IJJ)Z"⟩
def RX7 : String := "PoisonBook$RuleReader"
def TX7 : u_T := fun k => match k with
  | 0 => ("PoisonBook$RuleReader", "code", "[I", true)
  | 1 => ("PoisonBook$RuleReader", "used", "I", false)
  | _ => ("PoisonBook$RuleReader", "counted", "I", false)
def tyX7 : Nat → FieldType := fun k => match k with
  | 0 => .array .int
  | 1 => .int
  | _ => .int
abbrev wsX70 : List Cond := u_ws RX7 TX7 3
theorem nmX7 : ∀ a, a < 3 → ∀ b, b < 3 → a ≠ b → (TX7 a).2.1 ≠ (TX7 b).2.1 := by decide +kernel
theorem tyX7_ok : ∀ k, k < 3 → parseFieldDescriptor (TX7 k).2.2.1 = some (tyX7 k) := by decide +kernel
abbrev cX7_init : ByteArray := prog_9_method_1_code
def yX7_init : MethodName := ⟨RX7, "<init>", "()V"⟩
abbrev cX7_read : ByteArray := prog_9_method_2_code
def yX7_read : MethodName := ⟨RX7, "read", "(LPoisonBook$Tape;)LPoisonBook$Rule;"⟩
abbrev cX7_readTest : ByteArray := prog_9_method_3_code
def yX7_readTest : MethodName := ⟨RX7, "readTest", "(LPoisonBook$Tape;I)V"⟩
abbrev cX7_readFact : ByteArray := prog_9_method_4_code
def yX7_readFact : MethodName := ⟨RX7, "readFact", "(LPoisonBook$Tape;I)V"⟩
abbrev cX7_readSum : ByteArray := prog_9_method_5_code
def yX7_readSum : MethodName := ⟨RX7, "readSum", "(LPoisonBook$Tape;)V"⟩
abbrev cX7_readValue : ByteArray := prog_9_method_6_code
def yX7_readValue : MethodName := ⟨RX7, "readValue", "(LPoisonBook$Tape;)V"⟩
abbrev cX7_countOne : ByteArray := prog_9_method_7_code
def yX7_countOne : MethodName := ⟨RX7, "countOne", "(LPoisonBook$Tape;)V"⟩
abbrev cX7_put : ByteArray := prog_9_method_8_code
def yX7_put : MethodName := ⟨RX7, "put", "(I)V"⟩
abbrev cX7_arithmetic : ByteArray := prog_9_method_9_code
def yX7_arithmetic : MethodName := ⟨RX7, "arithmetic", "(LPoisonBook$Tape;)I"⟩
abbrev cX7_comparison : ByteArray := prog_9_method_10_code
def yX7_comparison : MethodName := ⟨RX7, "comparison", "(LPoisonBook$Tape;)I"⟩
def RX8 : String := "PoisonBook$Scene"
def TX8 : u_T := fun k => match k with
  | 0 => ("PoisonBook$Scene", "now", "LPoisonBook$Shop;", true)
  | 1 => ("PoisonBook$Scene", "begin", "LPoisonBook$Shop;", true)
  | 2 => ("PoisonBook$Scene", "notes", "LPoisonBook$Notes;", true)
  | 3 => ("PoisonBook$Scene", "inForce", "I", false)
  | _ => ("PoisonBook$Scene", "drawn", "I", false)
def tyX8 : Nat → FieldType := fun k => match k with
  | 0 => .object "PoisonBook$Shop"
  | 1 => .object "PoisonBook$Shop"
  | 2 => .object "PoisonBook$Notes"
  | 3 => .int
  | _ => .int
abbrev wsX80 : List Cond := u_ws RX8 TX8 5
theorem nmX8 : ∀ a, a < 5 → ∀ b, b < 5 → a ≠ b → (TX8 a).2.1 ≠ (TX8 b).2.1 := by decide +kernel
theorem tyX8_ok : ∀ k, k < 5 → parseFieldDescriptor (TX8 k).2.2.1 = some (tyX8 k) := by decide +kernel
abbrev cX8_init : ByteArray := prog_10_method_1_code
def yX8_init : MethodName := ⟨RX8, "<init>", "()V"⟩
abbrev cX8_copyFrom : ByteArray := prog_10_method_2_code
def yX8_copyFrom : MethodName := ⟨RX8, "copyFrom", "(LPoisonBook$Scene;)V"⟩
def RX9 : String := "PoisonBook$Shop"
def TX9 : u_T := fun k => match k with
  | 0 => ("PoisonBook$Shop", "shelf", "I", false)
  | 1 => ("PoisonBook$Shop", "fill", "I", false)
  | 2 => ("PoisonBook$Shop", "round", "I", false)
  | 3 => ("PoisonBook$Shop", "buyers", "I", false)
  | 4 => ("PoisonBook$Shop", "day", "I", false)
  | 5 => ("PoisonBook$Shop", "sold", "I", false)
  | 6 => ("PoisonBook$Shop", "still", "[I", true)
  | 7 => ("PoisonBook$Shop", "watched", "[I", true)
  | 8 => ("PoisonBook$Shop", "temper", "[I", true)
  | 9 => ("PoisonBook$Shop", "grains", "[I", true)
  | 10 => ("PoisonBook$Shop", "waits", "[I", true)
  | 11 => ("PoisonBook$Shop", "bought", "[I", true)
  | 12 => ("PoisonBook$Shop", "met", "[I", true)
  | _ => ("PoisonBook$Shop", "last", "[I", true)
def tyX9 : Nat → FieldType := fun k => match k with
  | 0 => .int
  | 1 => .int
  | 2 => .int
  | 3 => .int
  | 4 => .int
  | 5 => .int
  | 6 => .array .int
  | 7 => .array .int
  | 8 => .array .int
  | 9 => .array .int
  | 10 => .array .int
  | 11 => .array .int
  | 12 => .array .int
  | _ => .array .int
abbrev wsX90 : List Cond := u_ws RX9 TX9 14
theorem nmX9 : ∀ a, a < 14 → ∀ b, b < 14 → a ≠ b → (TX9 a).2.1 ≠ (TX9 b).2.1 := by decide +kernel
theorem tyX9_ok : ∀ k, k < 14 → parseFieldDescriptor (TX9 k).2.2.1 = some (tyX9 k) := by decide +kernel
abbrev cX9_init : ByteArray := prog_11_method_1_code
def yX9_init : MethodName := ⟨RX9, "<init>", "()V"⟩
abbrev cX9_clear : ByteArray := prog_11_method_2_code
def yX9_clear : MethodName := ⟨RX9, "clear", "()V"⟩
abbrev cX9_copyFrom : ByteArray := prog_11_method_3_code
def yX9_copyFrom : MethodName := ⟨RX9, "copyFrom", "(LPoisonBook$Shop;)V"⟩
abbrev cX9_isTold : ByteArray := prog_11_method_4_code
def yX9_isTold : MethodName := ⟨RX9, "isTold", "()Z"⟩
abbrev cX9_hasBuyer : ByteArray := prog_11_method_5_code
def yX9_hasBuyer : MethodName := ⟨RX9, "hasBuyer", "(I)Z"⟩
abbrev cX9_hasClock : ByteArray := prog_11_method_6_code
def yX9_hasClock : MethodName := ⟨RX9, "hasClock", "(I)Z"⟩
abbrev cX9_clockOn : ByteArray := prog_11_method_7_code
def yX9_clockOn : MethodName := ⟨RX9, "clockOn", "(I)I"⟩
abbrev cX9_stillOn : ByteArray := prog_11_method_8_code
def yX9_stillOn : MethodName := ⟨RX9, "stillOn", "(I)I"⟩
abbrev cX9_daysSince : ByteArray := prog_11_method_9_code
def yX9_daysSince : MethodName := ⟨RX9, "daysSince", "(I)I"⟩
abbrev cX9_canBuy : ByteArray := prog_11_method_10_code
def yX9_canBuy : MethodName := ⟨RX9, "canBuy", "(I)Z"⟩
abbrev cX9_whoCanBuy : ByteArray := prog_11_method_11_code
def yX9_whoCanBuy : MethodName := ⟨RX9, "whoCanBuy", "()I"⟩
abbrev cX9_timesMet : ByteArray := prog_11_method_12_code
def yX9_timesMet : MethodName := ⟨RX9, "timesMet", "()I"⟩
abbrev cX9_everybody : ByteArray := prog_11_method_13_code
def yX9_everybody : MethodName := ⟨RX9, "everybody", "()I"⟩
abbrev cX9_wordOf : ByteArray := prog_11_method_14_code
def yX9_wordOf : MethodName := ⟨RX9, "wordOf", "(II)J"⟩
abbrev cX9_handOver : ByteArray := prog_11_method_15_code
def yX9_handOver : MethodName := ⟨RX9, "handOver", "(I)V"⟩
abbrev cX9_goThroughDay : ByteArray := prog_11_method_16_code
def yX9_goThroughDay : MethodName := ⟨RX9, "goThroughDay", "(LPoisonBook$Rule;)I"⟩
abbrev cX9_changeTempers : ByteArray := prog_11_method_17_code
def yX9_changeTempers : MethodName := ⟨RX9, "changeTempers", "(I)V"⟩
abbrev cX9_soldWithin : ByteArray := prog_11_method_18_code
def yX9_soldWithin : MethodName := ⟨RX9, "soldWithin", "(ILPoisonBook$Rule;)I"⟩
abbrev cX9_likeness : ByteArray := prog_11_method_19_code
def yX9_likeness : MethodName := ⟨RX9, "likeness", "()J"⟩
abbrev cX9_fineOf : ByteArray := prog_11_method_20_code
def yX9_fineOf : MethodName := ⟨RX9, "fineOf", "(II)I"⟩
def RX10 : String := "PoisonBook$Tape"
def TX10 : u_T := fun k => match k with
  | 0 => ("PoisonBook$Tape", "bytes", "[I", true)
  | 1 => ("PoisonBook$Tape", "length", "I", false)
  | 2 => ("PoisonBook$Tape", "at", "I", false)
  | 3 => ("PoisonBook$Tape", "behind", "I", false)
  | 4 => ("PoisonBook$Tape", "first", "I", false)
  | _ => ("PoisonBook$Tape", "fault", "I", false)
def tyX10 : Nat → FieldType := fun k => match k with
  | 0 => .array .int
  | 1 => .int
  | 2 => .int
  | 3 => .int
  | 4 => .int
  | _ => .int
abbrev wsX100 : List Cond := u_ws RX10 TX10 6
theorem nmX10 : ∀ a, a < 6 → ∀ b, b < 6 → a ≠ b → (TX10 a).2.1 ≠ (TX10 b).2.1 := by decide +kernel
theorem tyX10_ok : ∀ k, k < 6 → parseFieldDescriptor (TX10 k).2.2.1 = some (tyX10 k) := by decide +kernel
abbrev cX10_init : ByteArray := prog_12_method_1_code
def yX10_init : MethodName := ⟨RX10, "<init>", "()V"⟩
abbrev cX10_hasRoom : ByteArray := prog_12_method_2_code
def yX10_hasRoom : MethodName := ⟨RX10, "hasRoom", "()Z"⟩
abbrev cX10_add : ByteArray := prog_12_method_3_code
def yX10_add : MethodName := ⟨RX10, "add", "(I)V"⟩
abbrev cX10_byteAt : ByteArray := prog_12_method_4_code
def yX10_byteAt : MethodName := ⟨RX10, "byteAt", "(I)I"⟩
abbrev cX10_begin : ByteArray := prog_12_method_5_code
def yX10_begin : MethodName := ⟨RX10, "begin", "()V"⟩
abbrev cX10_step : ByteArray := prog_12_method_6_code
def yX10_step : MethodName := ⟨RX10, "step", "()V"⟩
abbrev cX10_isLetter : ByteArray := prog_12_method_7_code
def yX10_isLetter : MethodName := ⟨RX10, "isLetter", "(I)Z"⟩
abbrev cX10_isDigit : ByteArray := prog_12_method_8_code
def yX10_isDigit : MethodName := ⟨RX10, "isDigit", "(I)Z"⟩
abbrev cX10_fail : ByteArray := prog_12_method_9_code
def yX10_fail : MethodName := ⟨RX10, "fail", "(I)V"⟩
abbrev cX10_isWord : ByteArray := prog_12_method_10_code
def yX10_isWord : MethodName := ⟨RX10, "isWord", "(Ljava/lang/String;)Z"⟩
abbrev cX10_takesWord : ByteArray := prog_12_method_11_code
def yX10_takesWord : MethodName := ⟨RX10, "takesWord", "(Ljava/lang/String;)Z"⟩
abbrev cX10_takes : ByteArray := prog_12_method_12_code
def yX10_takes : MethodName := ⟨RX10, "takes", "(C)Z"⟩
abbrev cX10_wordAmong : ByteArray := prog_12_method_13_code
def yX10_wordAmong : MethodName := ⟨RX10, "wordAmong", "(Ljava/lang/String;)I"⟩
abbrev cX10_isPartOf : ByteArray := prog_12_method_14_code
def yX10_isPartOf : MethodName := ⟨RX10, "isPartOf", "(Ljava/lang/String;II)Z"⟩
abbrev cX10_numberHere : ByteArray := prog_12_method_15_code
def yX10_numberHere : MethodName := ⟨RX10, "numberHere", "(II)I"⟩
abbrev cX10_takeNumber : ByteArray := prog_12_method_16_code
def yX10_takeNumber : MethodName := ⟨RX10, "takeNumber", "(II)I"⟩
abbrev cX10_finish : ByteArray := prog_12_method_17_code
def yX10_finish : MethodName := ⟨RX10, "finish", "()V"⟩
def RX11 : String := "PoisonBook"
def TX11 : u_T := fun k => match k with
  | 0 => ("PoisonBook", "tape", "LPoisonBook$Tape;", true)
  | 1 => ("PoisonBook", "bookReader", "LPoisonBook$BookReader;", true)
  | 2 => ("PoisonBook", "ruleReader", "LPoisonBook$RuleReader;", true)
  | 3 => ("PoisonBook", "rules", "[LPoisonBook$Rule;", true)
  | 4 => ("PoisonBook", "ruleCount", "I", false)
  | 5 => ("PoisonBook", "scene", "LPoisonBook$Scene;", true)
  | 6 => ("PoisonBook", "shop", "LPoisonBook$Shop;", true)
  | 7 => ("PoisonBook", "past", "LPoisonBook$Past;", true)
  | 8 => ("PoisonBook", "images", "[LPoisonBook$Scene;", true)
  | 9 => ("PoisonBook", "outlook", "LPoisonBook$Outlook;", true)
  | 10 => ("PoisonBook", "choices", "LPoisonBook$Choices;", true)
  | _ => ("PoisonBook", "inquiry", "LPoisonBook$Inquiry;", true)
def tyX11 : Nat → FieldType := fun k => match k with
  | 0 => .object "PoisonBook$Tape"
  | 1 => .object "PoisonBook$BookReader"
  | 2 => .object "PoisonBook$RuleReader"
  | 3 => .array (.object "PoisonBook$Rule")
  | 4 => .int
  | 5 => .object "PoisonBook$Scene"
  | 6 => .object "PoisonBook$Shop"
  | 7 => .object "PoisonBook$Past"
  | 8 => .array (.object "PoisonBook$Scene")
  | 9 => .object "PoisonBook$Outlook"
  | 10 => .object "PoisonBook$Choices"
  | _ => .object "PoisonBook$Inquiry"
abbrev wsX110 : List Cond := u_ws RX11 TX11 12
theorem nmX11 : ∀ a, a < 12 → ∀ b, b < 12 → a ≠ b → (TX11 a).2.1 ≠ (TX11 b).2.1 := by decide +kernel
theorem tyX11_ok : ∀ k, k < 12 → parseFieldDescriptor (TX11 k).2.2.1 = some (tyX11 k) := by decide +kernel
abbrev cX11_init : ByteArray := prog_1_method_1_code
def yX11_init : MethodName := ⟨RX11, "<init>", "()V"⟩
abbrev cX11_feed : ByteArray := prog_1_method_2_code
def yX11_feed : MethodName := ⟨RX11, "feed", "(IIIII)I"⟩
abbrev cX11_end : ByteArray := prog_1_method_3_code
def yX11_end : MethodName := ⟨RX11, "end", "(I)I"⟩
abbrev cX11_book : ByteArray := prog_1_method_4_code
def yX11_book : MethodName := ⟨RX11, "book", "()I"⟩
abbrev cX11_rule : ByteArray := prog_1_method_5_code
def yX11_rule : MethodName := ⟨RX11, "rule", "()I"⟩
abbrev cX11_force : ByteArray := prog_1_method_6_code
def yX11_force : MethodName := ⟨RX11, "force", "(I)I"⟩
abbrev cX11_buyer : ByteArray := prog_1_method_7_code
def yX11_buyer : MethodName := ⟨RX11, "buyer", "(II)I"⟩
abbrev cX11_sky : ByteArray := prog_1_method_8_code
def yX11_sky : MethodName := ⟨RX11, "sky", "(II)I"⟩
abbrev cX11_day : ByteArray := prog_1_method_9_code
def yX11_day : MethodName := ⟨RX11, "day", "()I"⟩
abbrev cX11_sell : ByteArray := prog_1_method_10_code
def yX11_sell : MethodName := ⟨RX11, "sell", "(I)I"⟩
abbrev cX11_calm : ByteArray := prog_1_method_11_code
def yX11_calm : MethodName := ⟨RX11, "calm", "(II)I"⟩
abbrev cX11_watch : ByteArray := prog_1_method_12_code
def yX11_watch : MethodName := ⟨RX11, "watch", "(II)I"⟩
abbrev cX11_change : ByteArray := prog_1_method_13_code
def yX11_change : MethodName := ⟨RX11, "change", "(II)I"⟩
abbrev cX11_undo : ByteArray := prog_1_method_14_code
def yX11_undo : MethodName := ⟨RX11, "undo", "()I"⟩
abbrev cX11_ahead : ByteArray := prog_1_method_15_code
def yX11_ahead : MethodName := ⟨RX11, "ahead", "(III)I"⟩
abbrev cX11_buys : ByteArray := prog_1_method_16_code
def yX11_buys : MethodName := ⟨RX11, "buys", "(I)I"⟩
abbrev cX11_empty : ByteArray := prog_1_method_17_code
def yX11_empty : MethodName := ⟨RX11, "empty", "()I"⟩
abbrev cX11_tells : ByteArray := prog_1_method_18_code
def yX11_tells : MethodName := ⟨RX11, "tells", "(II)I"⟩
abbrev cX11_guard : ByteArray := prog_1_method_19_code
def yX11_guard : MethodName := ⟨RX11, "guard", "(II)I"⟩
abbrev cX11_best : ByteArray := prog_1_method_20_code
def yX11_best : MethodName := ⟨RX11, "best", "(II)I"⟩
abbrev cX11_least : ByteArray := prog_1_method_21_code
def yX11_least : MethodName := ⟨RX11, "least", "(II)I"⟩
abbrev cX11_soothe : ByteArray := prog_1_method_22_code
def yX11_soothe : MethodName := ⟨RX11, "soothe", "(II)I"⟩
abbrev cX11_page : ByteArray := prog_1_method_23_code
def yX11_page : MethodName := ⟨RX11, "page", "(II)I"⟩
abbrev cX11_fines : ByteArray := prog_1_method_24_code
def yX11_fines : MethodName := ⟨RX11, "fines", "(II)I"⟩
abbrev cX11_rests : ByteArray := prog_1_method_25_code
def yX11_rests : MethodName := ⟨RX11, "rests", "(IIII)I"⟩
abbrev cX11_ring : ByteArray := prog_1_method_26_code
def yX11_ring : MethodName := ⟨RX11, "ring", "(I)I"⟩
abbrev cX11_peak : ByteArray := prog_1_method_27_code
def yX11_peak : MethodName := ⟨RX11, "peak", "(II)I"⟩
abbrev cX11_note : ByteArray := prog_1_method_28_code
def yX11_note : MethodName := ⟨RX11, "note", "(III)I"⟩
abbrev cX11_ruled : ByteArray := prog_1_method_29_code
def yX11_ruled : MethodName := ⟨RX11, "ruled", "(I)I"⟩
abbrev cX11_look : ByteArray := prog_1_method_30_code
def yX11_look : MethodName := ⟨RX11, "look", "(I)I"⟩
abbrev cX11_seed : ByteArray := prog_1_method_31_code
def yX11_seed : MethodName := ⟨RX11, "seed", "(I)I"⟩
abbrev cX11_summers : ByteArray := prog_1_method_32_code
def yX11_summers : MethodName := ⟨RX11, "summers", "(IIII)I"⟩
abbrev cX11_count : ByteArray := prog_1_method_33_code
def yX11_count : MethodName := ⟨RX11, "count", "(I)I"⟩
abbrev cX11_image : ByteArray := prog_1_method_34_code
def yX11_image : MethodName := ⟨RX11, "image", "(I)I"⟩
abbrev cX11_back : ByteArray := prog_1_method_35_code
def yX11_back : MethodName := ⟨RX11, "back", "(I)I"⟩
abbrev cX11_isWithin : ByteArray := prog_1_method_36_code
def yX11_isWithin : MethodName := ⟨RX11, "isWithin", "(III)Z"⟩
abbrev cX11_ruleInForce : ByteArray := prog_1_method_37_code
def yX11_ruleInForce : MethodName := ⟨RX11, "ruleInForce", "()LPoisonBook$Rule;"⟩
def RX12 : String := "PoisonBookModel"
def TX12 : u_T := fun k => match k with
  | 0 => ("PoisonBookModel", "tape", "[B", true)
  | 1 => ("PoisonBookModel", "taped", "I", false)
  | 2 => ("PoisonBookModel", "rules", "I", false)
  | 3 => ("PoisonBookModel", "sign", "[I", true)
  | 4 => ("PoisonBookModel", "length", "[I", true)
  | 5 => ("PoisonBookModel", "clause", "[I", true)
  | 6 => ("PoisonBookModel", "clauses", "[I", true)
  | 7 => ("PoisonBookModel", "read", "[I", true)
  | 8 => ("PoisonBookModel", "next", "I", false)
  | 9 => ("PoisonBookModel", "wrong", "I", false)
  | 10 => ("PoisonBookModel", "number", "I", false)
  | 11 => ("PoisonBookModel", "text", "I", false)
  | 12 => ("PoisonBookModel", "made", "I", false)
  | 13 => ("PoisonBookModel", "deep", "I", false)
  | 14 => ("PoisonBookModel", "lines", "I", false)
  | 15 => ("PoisonBookModel", "open", "[I", true)
  | 16 => ("PoisonBookModel", "opened", "I", false)
  | 17 => ("PoisonBookModel", "stack", "[J", true)
  | 18 => ("PoisonBookModel", "top", "I", false)
  | 19 => ("PoisonBookModel", "word", "[J", true)
  | 20 => ("PoisonBookModel", "said", "[I", true)
  | 21 => ("PoisonBookModel", "force", "I", false)
  | 22 => ("PoisonBookModel", "x", "I", false)
  | 23 => ("PoisonBookModel", "guarded", "I", false)
  | 24 => ("PoisonBookModel", "wasSaid", "[I", true)
  | 25 => ("PoisonBookModel", "undone", "I", false)
  | 26 => ("PoisonBookModel", "kept", "[I", true)
  | 27 => ("PoisonBookModel", "hasBy", "[I", true)
  | 28 => ("PoisonBookModel", "thenAll", "[I", true)
  | 29 => ("PoisonBookModel", "isFit", "[Z", true)
  | 30 => ("PoisonBookModel", "whoBy", "[I", true)
  | 31 => ("PoisonBookModel", "drawX", "J", false)
  | 32 => ("PoisonBookModel", "images", "[I", true)
  | 33 => ("PoisonBookModel", "imageForce", "[I", true)
  | 34 => ("PoisonBookModel", "imageX", "[I", true)
  | _ => ("PoisonBookModel", "isMade", "[Z", true)
def tyX12 : Nat → FieldType := fun k => match k with
  | 0 => .array .byte
  | 1 => .int
  | 2 => .int
  | 3 => .array .int
  | 4 => .array .int
  | 5 => .array .int
  | 6 => .array .int
  | 7 => .array .int
  | 8 => .int
  | 9 => .int
  | 10 => .int
  | 11 => .int
  | 12 => .int
  | 13 => .int
  | 14 => .int
  | 15 => .array .int
  | 16 => .int
  | 17 => .array .long
  | 18 => .int
  | 19 => .array .long
  | 20 => .array .int
  | 21 => .int
  | 22 => .int
  | 23 => .int
  | 24 => .array .int
  | 25 => .int
  | 26 => .array .int
  | 27 => .array .int
  | 28 => .array .int
  | 29 => .array .boolean
  | 30 => .array .int
  | 31 => .long
  | 32 => .array .int
  | 33 => .array .int
  | 34 => .array .int
  | _ => .array .boolean
abbrev wsX120 : List Cond := u_ws RX12 TX12 36
theorem nmX12 : ∀ a, a < 36 → ∀ b, b < 36 → a ≠ b → (TX12 a).2.1 ≠ (TX12 b).2.1 := by decide +kernel
theorem tyX12_ok : ∀ k, k < 36 → parseFieldDescriptor (TX12 k).2.2.1 = some (tyX12 k) := by decide +kernel
abbrev cX12_init : ByteArray := prog_14_method_1_code
def yX12_init : MethodName := ⟨RX12, "<init>", "()V"⟩
abbrev cX12_in : ByteArray := prog_14_method_2_code
def yX12_in : MethodName := ⟨RX12, "in", "(JJJ)Z"⟩
abbrev cX12_isOf : ByteArray := prog_14_method_3_code
def yX12_isOf : MethodName := ⟨RX12, "isOf", "(II)Z"⟩
abbrev cX12_bits : ByteArray := prog_14_method_4_code
def yX12_bits : MethodName := ⟨RX12, "bits", "(I)I"⟩
abbrev cX12_four : ByteArray := prog_14_method_5_code
def yX12_four : MethodName := ⟨RX12, "four", "(I)V"⟩
abbrev cX12_feed : ByteArray := prog_14_method_6_code
def yX12_feed : MethodName := ⟨RX12, "feed", "(IIIII)I"⟩
abbrev cX12_end : ByteArray := prog_14_method_7_code
def yX12_end : MethodName := ⟨RX12, "end", "(I)I"⟩
abbrev cX12_fails : ByteArray := prog_14_method_8_code
def yX12_fails : MethodName := ⟨RX12, "fails", "(II)Z"⟩
abbrev cX12_see : ByteArray := prog_14_method_9_code
def yX12_see : MethodName := ⟨RX12, "see", "()I"⟩
abbrev cX12_isDigit : ByteArray := prog_14_method_10_code
def yX12_isDigit : MethodName := ⟨RX12, "isDigit", "(I)Z"⟩
abbrev cX12_isLetter : ByteArray := prog_14_method_11_code
def yX12_isLetter : MethodName := ⟨RX12, "isLetter", "(I)Z"⟩
abbrev cX12_isWord : ByteArray := prog_14_method_12_code
def yX12_isWord : MethodName := ⟨RX12, "isWord", "(J)Z"⟩
abbrev cX12_passWord : ByteArray := prog_14_method_13_code
def yX12_passWord : MethodName := ⟨RX12, "passWord", "()V"⟩
abbrev cX12_takesWord : ByteArray := prog_14_method_14_code
def yX12_takesWord : MethodName := ⟨RX12, "takesWord", "(J)Z"⟩
abbrev cX12_numberHere : ByteArray := prog_14_method_15_code
def yX12_numberHere : MethodName := ⟨RX12, "numberHere", "(II)Z"⟩
abbrev cX12_wordHere : ByteArray := prog_14_method_16_code
def yX12_wordHere : MethodName := ⟨RX12, "wordHere", "()I"⟩
abbrev cX12_puts : ByteArray := prog_14_method_17_code
def yX12_puts : MethodName := ⟨RX12, "puts", "(II)V"⟩
abbrev cX12_makes : ByteArray := prog_14_method_18_code
def yX12_makes : MethodName := ⟨RX12, "makes", "(I)Z"⟩
abbrev cX12_opens : ByteArray := prog_14_method_19_code
def yX12_opens : MethodName := ⟨RX12, "opens", "(I)Z"⟩
abbrev cX12_strength : ByteArray := prog_14_method_20_code
def yX12_strength : MethodName := ⟨RX12, "strength", "(I)I"⟩
abbrev cX12_layDown : ByteArray := prog_14_method_21_code
def yX12_layDown : MethodName := ⟨RX12, "layDown", "(I)V"⟩
abbrev cX12_value : ByteArray := prog_14_method_22_code
def yX12_value : MethodName := ⟨RX12, "value", "()Z"⟩
abbrev cX12_term : ByteArray := prog_14_method_23_code
def yX12_term : MethodName := ⟨RX12, "term", "()Z"⟩
abbrev cX12_sum : ByteArray := prog_14_method_24_code
def yX12_sum : MethodName := ⟨RX12, "sum", "()Z"⟩
abbrev cX12_compare : ByteArray := prog_14_method_25_code
def yX12_compare : MethodName := ⟨RX12, "compare", "()Z"⟩
abbrev cX12_fact : ByteArray := prog_14_method_26_code
def yX12_fact : MethodName := ⟨RX12, "fact", "()Z"⟩
abbrev cX12_isInside : ByteArray := prog_14_method_27_code
def yX12_isInside : MethodName := ⟨RX12, "isInside", "()Z"⟩
abbrev cX12_closes : ByteArray := prog_14_method_28_code
def yX12_closes : MethodName := ⟨RX12, "closes", "()V"⟩
abbrev cX12_tested : ByteArray := prog_14_method_29_code
def yX12_tested : MethodName := ⟨RX12, "tested", "()Z"⟩
abbrev cX12_isBuyHere : ByteArray := prog_14_method_30_code
def yX12_isBuyHere : MethodName := ⟨RX12, "isBuyHere", "()Z"⟩
abbrev cX12_cellHere : ByteArray := prog_14_method_31_code
def yX12_cellHere : MethodName := ⟨RX12, "cellHere", "(III)Z"⟩
abbrev cX12_isBookHere : ByteArray := prog_14_method_32_code
def yX12_isBookHere : MethodName := ⟨RX12, "isBookHere", "(I)Z"⟩
abbrev cX12_isSkyHere : ByteArray := prog_14_method_33_code
def yX12_isSkyHere : MethodName := ⟨RX12, "isSkyHere", "()Z"⟩
abbrev cX12_isBuyerHere : ByteArray := prog_14_method_34_code
def yX12_isBuyerHere : MethodName := ⟨RX12, "isBuyerHere", "(I)Z"⟩
abbrev cX12_isWatchHere : ByteArray := prog_14_method_35_code
def yX12_isWatchHere : MethodName := ⟨RX12, "isWatchHere", "()Z"⟩
abbrev cX12_bookLineHere : ByteArray := prog_14_method_36_code
def yX12_bookLineHere : MethodName := ⟨RX12, "bookLineHere", "(I)Z"⟩
abbrev cX12_isBookWord : ByteArray := prog_14_method_37_code
def yX12_isBookWord : MethodName := ⟨RX12, "isBookWord", "()Z"⟩
abbrev cX12_clauseHere : ByteArray := prog_14_method_38_code
def yX12_clauseHere : MethodName := ⟨RX12, "clauseHere", "()Z"⟩
abbrev cX12_readsAll : ByteArray := prog_14_method_39_code
def yX12_readsAll : MethodName := ⟨RX12, "readsAll", "()Z"⟩
abbrev cX12_rule : ByteArray := prog_14_method_40_code
def yX12_rule : MethodName := ⟨RX12, "rule", "()I"⟩
abbrev cX12_book : ByteArray := prog_14_method_41_code
def yX12_book : MethodName := ⟨RX12, "book", "()I"⟩
abbrev cX12_isRule : ByteArray := prog_14_method_42_code
def yX12_isRule : MethodName := ⟨RX12, "isRule", "(I)Z"⟩
abbrev cX12_push : ByteArray := prog_14_method_43_code
def yX12_push : MethodName := ⟨RX12, "push", "(J)V"⟩
abbrev cX12_pop : ByteArray := prog_14_method_44_code
def yX12_pop : MethodName := ⟨RX12, "pop", "()J"⟩
abbrev cX12_one : ByteArray := prog_14_method_45_code
def yX12_one : MethodName := ⟨RX12, "one", "(IJJ)J"⟩
abbrev cX12_reckons : ByteArray := prog_14_method_46_code
def yX12_reckons : MethodName := ⟨RX12, "reckons", "(III)J"⟩
abbrev cX12_isBook : ByteArray := prog_14_method_47_code
def yX12_isBook : MethodName := ⟨RX12, "isBook", "()Z"⟩
abbrev cX12_isBuyer : ByteArray := prog_14_method_48_code
def yX12_isBuyer : MethodName := ⟨RX12, "isBuyer", "(I)Z"⟩
abbrev cX12_isClock : ByteArray := prog_14_method_49_code
def yX12_isClock : MethodName := ⟨RX12, "isClock", "(I)Z"⟩
abbrev cX12_temperOf : ByteArray := prog_14_method_50_code
def yX12_temperOf : MethodName := ⟨RX12, "temperOf", "(I)I"⟩
abbrev cX12_boughtBy : ByteArray := prog_14_method_51_code
def yX12_boughtBy : MethodName := ⟨RX12, "boughtBy", "(I)I"⟩
abbrev cX12_metOf : ByteArray := prog_14_method_52_code
def yX12_metOf : MethodName := ⟨RX12, "metOf", "(I)I"⟩
abbrev cX12_lastOf : ByteArray := prog_14_method_53_code
def yX12_lastOf : MethodName := ⟨RX12, "lastOf", "(I)I"⟩
abbrev cX12_sinceOf : ByteArray := prog_14_method_54_code
def yX12_sinceOf : MethodName := ⟨RX12, "sinceOf", "(I)I"⟩
abbrev cX12_clock : ByteArray := prog_14_method_55_code
def yX12_clock : MethodName := ⟨RX12, "clock", "()I"⟩
abbrev cX12_soldAll : ByteArray := prog_14_method_56_code
def yX12_soldAll : MethodName := ⟨RX12, "soldAll", "()I"⟩
abbrev cX12_metAll : ByteArray := prog_14_method_57_code
def yX12_metAll : MethodName := ⟨RX12, "metAll", "()I"⟩
abbrev cX12_canBuy : ByteArray := prog_14_method_58_code
def yX12_canBuy : MethodName := ⟨RX12, "canBuy", "(I)Z"⟩
abbrev cX12_begins : ByteArray := prog_14_method_59_code
def yX12_begins : MethodName := ⟨RX12, "begins", "()V"⟩
abbrev cX12_force : ByteArray := prog_14_method_60_code
def yX12_force : MethodName := ⟨RX12, "force", "(I)I"⟩
abbrev cX12_buyer : ByteArray := prog_14_method_61_code
def yX12_buyer : MethodName := ⟨RX12, "buyer", "(II)I"⟩
abbrev cX12_sky : ByteArray := prog_14_method_62_code
def yX12_sky : MethodName := ⟨RX12, "sky", "(II)I"⟩
abbrev cX12_summedBy : ByteArray := prog_14_method_63_code
def yX12_summedBy : MethodName := ⟨RX12, "summedBy", "(I)J"⟩
abbrev cX12_isWilling : ByteArray := prog_14_method_64_code
def yX12_isWilling : MethodName := ⟨RX12, "isWilling", "(I)Z"⟩
abbrev cX12_takes : ByteArray := prog_14_method_65_code
def yX12_takes : MethodName := ⟨RX12, "takes", "(I)V"⟩
abbrev cX12_isMet : ByteArray := prog_14_method_66_code
def yX12_isMet : MethodName := ⟨RX12, "isMet", "(I)Z"⟩
abbrev cX12_comes : ByteArray := prog_14_method_67_code
def yX12_comes : MethodName := ⟨RX12, "comes", "(I)Z"⟩
abbrev cX12_weathers : ByteArray := prog_14_method_68_code
def yX12_weathers : MethodName := ⟨RX12, "weathers", "()V"⟩
abbrev cX12_passes : ByteArray := prog_14_method_69_code
def yX12_passes : MethodName := ⟨RX12, "passes", "()I"⟩
abbrev cX12_passesAll : ByteArray := prog_14_method_70_code
def yX12_passesAll : MethodName := ⟨RX12, "passesAll", "(I)V"⟩
abbrev cX12_keepsAct : ByteArray := prog_14_method_71_code
def yX12_keepsAct : MethodName := ⟨RX12, "keepsAct", "()V"⟩
abbrev cX12_undo : ByteArray := prog_14_method_72_code
def yX12_undo : MethodName := ⟨RX12, "undo", "()I"⟩
abbrev cX12_day : ByteArray := prog_14_method_73_code
def yX12_day : MethodName := ⟨RX12, "day", "()I"⟩
abbrev cX12_sell : ByteArray := prog_14_method_74_code
def yX12_sell : MethodName := ⟨RX12, "sell", "(I)I"⟩
abbrev cX12_calm : ByteArray := prog_14_method_75_code
def yX12_calm : MethodName := ⟨RX12, "calm", "(II)I"⟩
abbrev cX12_watch : ByteArray := prog_14_method_76_code
def yX12_watch : MethodName := ⟨RX12, "watch", "(II)I"⟩
abbrev cX12_change : ByteArray := prog_14_method_77_code
def yX12_change : MethodName := ⟨RX12, "change", "(II)I"⟩
abbrev cX12_keeps : ByteArray := prog_14_method_78_code
def yX12_keeps : MethodName := ⟨RX12, "keeps", "()V"⟩
abbrev cX12_laysBack : ByteArray := prog_14_method_79_code
def yX12_laysBack : MethodName := ⟨RX12, "laysBack", "()V"⟩
abbrev cX12_ahead : ByteArray := prog_14_method_80_code
def yX12_ahead : MethodName := ⟨RX12, "ahead", "(III)I"⟩
abbrev cX12_buysIn : ByteArray := prog_14_method_81_code
def yX12_buysIn : MethodName := ⟨RX12, "buysIn", "(II)I"⟩
abbrev cX12_buys : ByteArray := prog_14_method_82_code
def yX12_buys : MethodName := ⟨RX12, "buys", "(I)I"⟩
abbrev cX12_empty : ByteArray := prog_14_method_83_code
def yX12_empty : MethodName := ⟨RX12, "empty", "()I"⟩
abbrev cX12_common : ByteArray := prog_14_method_84_code
def yX12_common : MethodName := ⟨RX12, "common", "(II)I"⟩
abbrev cX12_tells : ByteArray := prog_14_method_85_code
def yX12_tells : MethodName := ⟨RX12, "tells", "(II)I"⟩
abbrev cX12_soldIn : ByteArray := prog_14_method_86_code
def yX12_soldIn : MethodName := ⟨RX12, "soldIn", "(I)I"⟩
abbrev cX12_guard : ByteArray := prog_14_method_87_code
def yX12_guard : MethodName := ⟨RX12, "guard", "(II)I"⟩
abbrev cX12_best : ByteArray := prog_14_method_88_code
def yX12_best : MethodName := ⟨RX12, "best", "(II)I"⟩
abbrev cX12_least : ByteArray := prog_14_method_89_code
def yX12_least : MethodName := ⟨RX12, "least", "(II)I"⟩
abbrev cX12_soothe : ByteArray := prog_14_method_90_code
def yX12_soothe : MethodName := ⟨RX12, "soothe", "(II)I"⟩
abbrev cX12_grainsOf : ByteArray := prog_14_method_91_code
def yX12_grainsOf : MethodName := ⟨RX12, "grainsOf", "(I)I"⟩
abbrev cX12_page : ByteArray := prog_14_method_92_code
def yX12_page : MethodName := ⟨RX12, "page", "(II)I"⟩
abbrev cX12_fines : ByteArray := prog_14_method_93_code
def yX12_fines : MethodName := ⟨RX12, "fines", "(II)I"⟩
abbrev cX12_isRest : ByteArray := prog_14_method_94_code
def yX12_isRest : MethodName := ⟨RX12, "isRest", "(II)Z"⟩
abbrev cX12_valueOf : ByteArray := prog_14_method_95_code
def yX12_valueOf : MethodName := ⟨RX12, "valueOf", "(I)I"⟩
abbrev cX12_rests : ByteArray := prog_14_method_96_code
def yX12_rests : MethodName := ⟨RX12, "rests", "(IIII)I"⟩
abbrev cX12_areAlike : ByteArray := prog_14_method_97_code
def yX12_areAlike : MethodName := ⟨RX12, "areAlike", "(II)Z"⟩
abbrev cX12_ring : ByteArray := prog_14_method_98_code
def yX12_ring : MethodName := ⟨RX12, "ring", "(I)I"⟩
abbrev cX12_peak : ByteArray := prog_14_method_99_code
def yX12_peak : MethodName := ⟨RX12, "peak", "(II)I"⟩
abbrev cX12_note : ByteArray := prog_14_method_100_code
def yX12_note : MethodName := ⟨RX12, "note", "(III)I"⟩
abbrev cX12_spot : ByteArray := prog_14_method_101_code
def yX12_spot : MethodName := ⟨RX12, "spot", "(II)I"⟩
abbrev cX12_areNotesSo : ByteArray := prog_14_method_102_code
def yX12_areNotesSo : MethodName := ⟨RX12, "areNotesSo", "(I)Z"⟩
abbrev cX12_fillsFits : ByteArray := prog_14_method_103_code
def yX12_fillsFits : MethodName := ⟨RX12, "fillsFits", "()V"⟩
abbrev cX12_ruled : ByteArray := prog_14_method_104_code
def yX12_ruled : MethodName := ⟨RX12, "ruled", "(I)I"⟩
abbrev cX12_alikeAt : ByteArray := prog_14_method_105_code
def yX12_alikeAt : MethodName := ⟨RX12, "alikeAt", "(I)I"⟩
abbrev cX12_look : ByteArray := prog_14_method_106_code
def yX12_look : MethodName := ⟨RX12, "look", "(I)I"⟩
abbrev cX12_seed : ByteArray := prog_14_method_107_code
def yX12_seed : MethodName := ⟨RX12, "seed", "(I)I"⟩
abbrev cX12_draw : ByteArray := prog_14_method_108_code
def yX12_draw : MethodName := ⟨RX12, "draw", "(I)I"⟩
abbrev cX12_summers : ByteArray := prog_14_method_109_code
def yX12_summers : MethodName := ⟨RX12, "summers", "(IIII)I"⟩
abbrev cX12_count : ByteArray := prog_14_method_110_code
def yX12_count : MethodName := ⟨RX12, "count", "(I)I"⟩
abbrev cX12_image : ByteArray := prog_14_method_111_code
def yX12_image : MethodName := ⟨RX12, "image", "(I)I"⟩
abbrev cX12_back : ByteArray := prog_14_method_112_code
def yX12_back : MethodName := ⟨RX12, "back", "(I)I"⟩
def RJx145de : String := "java/io/Serializable"
def TJx145de : u_T := fun k => match k with
  | _ => ("", "", "", false)
def tyJx145de : Nat → FieldType := fun k => match k with
  | _ => .int
abbrev wsJx145de0 : List Cond := u_ws RJx145de TJx145de 0
theorem nmJx145de : ∀ a, a < 0 → ∀ b, b < 0 → a ≠ b → (TJx145de a).2.1 ≠ (TJx145de b).2.1 := by decide +kernel
theorem tyJx145de_ok : ∀ k, k < 0 → parseFieldDescriptor (TJx145de k).2.2.1 = some (tyJx145de k) := by decide +kernel
def RJx9f9b0 : String := "java/lang/CharSequence"
def TJx9f9b0 : u_T := fun k => match k with
  | _ => ("", "", "", false)
def tyJx9f9b0 : Nat → FieldType := fun k => match k with
  | _ => .int
abbrev wsJx9f9b00 : List Cond := u_ws RJx9f9b0 TJx9f9b0 0
theorem nmJx9f9b0 : ∀ a, a < 0 → ∀ b, b < 0 → a ≠ b → (TJx9f9b0 a).2.1 ≠ (TJx9f9b0 b).2.1 := by decide +kernel
theorem tyJx9f9b0_ok : ∀ k, k < 0 → parseFieldDescriptor (TJx9f9b0 k).2.2.1 = some (tyJx9f9b0 k) := by decide +kernel
def RJx8e188 : String := "java/lang/Cloneable"
def TJx8e188 : u_T := fun k => match k with
  | _ => ("", "", "", false)
def tyJx8e188 : Nat → FieldType := fun k => match k with
  | _ => .int
abbrev wsJx8e1880 : List Cond := u_ws RJx8e188 TJx8e188 0
theorem nmJx8e188 : ∀ a, a < 0 → ∀ b, b < 0 → a ≠ b → (TJx8e188 a).2.1 ≠ (TJx8e188 b).2.1 := by decide +kernel
theorem tyJx8e188_ok : ∀ k, k < 0 → parseFieldDescriptor (TJx8e188 k).2.2.1 = some (tyJx8e188 k) := by decide +kernel
def RJxb160c : String := "java/lang/Comparable"
def TJxb160c : u_T := fun k => match k with
  | _ => ("", "", "", false)
def tyJxb160c : Nat → FieldType := fun k => match k with
  | _ => .int
abbrev wsJxb160c0 : List Cond := u_ws RJxb160c TJxb160c 0
theorem nmJxb160c : ∀ a, a < 0 → ∀ b, b < 0 → a ≠ b → (TJxb160c a).2.1 ≠ (TJxb160c b).2.1 := by decide +kernel
theorem tyJxb160c_ok : ∀ k, k < 0 → parseFieldDescriptor (TJxb160c k).2.2.1 = some (tyJxb160c k) := by decide +kernel
def RJ6 : String := "java/lang/Integer"
def TJ6 : u_T := fun k => match k with
  | _ => ("", "", "", false)
def tyJ6 : Nat → FieldType := fun k => match k with
  | _ => .int
abbrev wsJ60 : List Cond := u_ws RJ6 TJ6 0
theorem nmJ6 : ∀ a, a < 0 → ∀ b, b < 0 → a ≠ b → (TJ6 a).2.1 ≠ (TJ6 b).2.1 := by decide +kernel
theorem tyJ6_ok : ∀ k, k < 0 → parseFieldDescriptor (TJ6 k).2.2.1 = some (tyJ6 k) := by decide +kernel
abbrev cJ6_bitCount_0f7a4 : ByteArray := prog_16_method_49_code
def yJ6_bitCount_0f7a4 : MethodName := ⟨RJ6, "bitCount", "(I)I"⟩
def RJ9 : String := "java/lang/Math"
def TJ9 : u_T := fun k => match k with
  | _ => ("", "", "", false)
def tyJ9 : Nat → FieldType := fun k => match k with
  | _ => .int
abbrev wsJ90 : List Cond := u_ws RJ9 TJ9 0
theorem nmJ9 : ∀ a, a < 0 → ∀ b, b < 0 → a ≠ b → (TJ9 a).2.1 ≠ (TJ9 b).2.1 := by decide +kernel
theorem tyJ9_ok : ∀ k, k < 0 → parseFieldDescriptor (TJ9 k).2.2.1 = some (tyJ9 k) := by decide +kernel
abbrev cJ9_max_7cf53 : ByteArray := prog_17_method_65_code
def yJ9_max_7cf53 : MethodName := ⟨RJ9, "max", "(II)I"⟩
abbrev cJ9_min_7cf53 : ByteArray := prog_17_method_69_code
def yJ9_min_7cf53 : MethodName := ⟨RJ9, "min", "(II)I"⟩
def RJ0 : String := "java/lang/String"
def TJ0 : u_T := fun k => match k with
  | _ => ("", "", "", false)
def tyJ0 : Nat → FieldType := fun k => match k with
  | _ => .int
abbrev wsJ00 : List Cond := u_ws RJ0 TJ0 0
theorem nmJ0 : ∀ a, a < 0 → ∀ b, b < 0 → a ≠ b → (TJ0 a).2.1 ≠ (TJ0 b).2.1 := by decide +kernel
theorem tyJ0_ok : ∀ k, k < 0 → parseFieldDescriptor (TJ0 k).2.2.1 = some (tyJ0 k) := by decide +kernel
abbrev cJ0_length_8abf5 : ByteArray := prog_18_method_54_code
def yJ0_length_8abf5 : MethodName := ⟨RJ0, "length", "()I"⟩
abbrev cJ0_charAt_5068e : ByteArray := prog_18_method_56_code
def yJ0_charAt_5068e : MethodName := ⟨RJ0, "charAt", "(I)C"⟩
abbrev cJ0_coder_7d493 : ByteArray := prog_18_method_152_code
def yJ0_coder_7d493 : MethodName := ⟨RJ0, "coder", "()B"⟩
abbrev cJ0_isLatin1_aae02 : ByteArray := prog_18_method_154_code
def yJ0_isLatin1_aae02 : MethodName := ⟨RJ0, "isLatin1", "()Z"⟩
abbrev cJ0_checkIndex_df160 : ByteArray := prog_18_method_155_code
def yJ0_checkIndex_df160 : MethodName := ⟨RJ0, "checkIndex", "(II)V"⟩
def RJ1 : String := "java/lang/StringLatin1"
def TJ1 : u_T := fun k => match k with
  | _ => ("", "", "", false)
def tyJ1 : Nat → FieldType := fun k => match k with
  | _ => .int
abbrev wsJ10 : List Cond := u_ws RJ1 TJ1 0
theorem nmJ1 : ∀ a, a < 0 → ∀ b, b < 0 → a ≠ b → (TJ1 a).2.1 ≠ (TJ1 b).2.1 := by decide +kernel
theorem tyJ1_ok : ∀ k, k < 0 → parseFieldDescriptor (TJ1 k).2.2.1 = some (tyJ1 k) := by decide +kernel
abbrev cJ1_charAt_3b067 : ByteArray := prog_19_method_2_code
def yJ1_charAt_3b067 : MethodName := ⟨RJ1, "charAt", "([BI)C"⟩
def RJ2 : String := "java/lang/StringUTF16"
def TJ2 : u_T := fun k => match k with
  | _ => ("", "", "", false)
def tyJ2 : Nat → FieldType := fun k => match k with
  | _ => .int
abbrev wsJ20 : List Cond := u_ws RJ2 TJ2 0
theorem nmJ2 : ∀ a, a < 0 → ∀ b, b < 0 → a ≠ b → (TJ2 a).2.1 ≠ (TJ2 b).2.1 := by decide +kernel
theorem tyJ2_ok : ∀ k, k < 0 → parseFieldDescriptor (TJ2 k).2.2.1 = some (tyJ2 k) := by decide +kernel
abbrev cJ2_getChar_3b067 : ByteArray := prog_20_method_5_code
def yJ2_getChar_3b067 : MethodName := ⟨RJ2, "getChar", "([BI)C"⟩
abbrev cJ2_length_9d52b : ByteArray := prog_20_method_6_code
def yJ2_length_9d52b : MethodName := ⟨RJ2, "length", "([B)I"⟩
abbrev cJ2_charAt_3b067 : ByteArray := prog_20_method_83_code
def yJ2_charAt_3b067 : MethodName := ⟨RJ2, "charAt", "([BI)C"⟩
abbrev cJ2_checkIndex_2214a : ByteArray := prog_20_method_91_code
def yJ2_checkIndex_2214a : MethodName := ⟨RJ2, "checkIndex", "(I[B)V"⟩
def RJ10 : String := "java/lang/System"
def TJ10 : u_T := fun k => match k with
  | _ => ("", "", "", false)
def tyJ10 : Nat → FieldType := fun k => match k with
  | _ => .int
abbrev wsJ100 : List Cond := u_ws RJ10 TJ10 0
theorem nmJ10 : ∀ a, a < 0 → ∀ b, b < 0 → a ≠ b → (TJ10 a).2.1 ≠ (TJ10 b).2.1 := by decide +kernel
theorem tyJ10_ok : ∀ k, k < 0 → parseFieldDescriptor (TJ10 k).2.2.1 = some (tyJ10 k) := by decide +kernel
def RJxfd54e : String := "java/lang/constant/Constable"
def TJxfd54e : u_T := fun k => match k with
  | _ => ("", "", "", false)
def tyJxfd54e : Nat → FieldType := fun k => match k with
  | _ => .int
abbrev wsJxfd54e0 : List Cond := u_ws RJxfd54e TJxfd54e 0
theorem nmJxfd54e : ∀ a, a < 0 → ∀ b, b < 0 → a ≠ b → (TJxfd54e a).2.1 ≠ (TJxfd54e b).2.1 := by decide +kernel
theorem tyJxfd54e_ok : ∀ k, k < 0 → parseFieldDescriptor (TJxfd54e k).2.2.1 = some (tyJxfd54e k) := by decide +kernel
def RJx3cf43 : String := "java/lang/constant/ConstantDesc"
def TJx3cf43 : u_T := fun k => match k with
  | _ => ("", "", "", false)
def tyJx3cf43 : Nat → FieldType := fun k => match k with
  | _ => .int
abbrev wsJx3cf430 : List Cond := u_ws RJx3cf43 TJx3cf43 0
theorem nmJx3cf43 : ∀ a, a < 0 → ∀ b, b < 0 → a ≠ b → (TJx3cf43 a).2.1 ≠ (TJx3cf43 b).2.1 := by decide +kernel
theorem tyJx3cf43_ok : ∀ k, k < 0 → parseFieldDescriptor (TJx3cf43 k).2.2.1 = some (tyJx3cf43 k) := by decide +kernel
def RJ7 : String := "java/util/Arrays"
def TJ7 : u_T := fun k => match k with
  | _ => ("", "", "", false)
def tyJ7 : Nat → FieldType := fun k => match k with
  | _ => .int
abbrev wsJ70 : List Cond := u_ws RJ7 TJ7 0
theorem nmJ7 : ∀ a, a < 0 → ∀ b, b < 0 → a ≠ b → (TJ7 a).2.1 ≠ (TJ7 b).2.1 := by decide +kernel
theorem tyJ7_ok : ∀ k, k < 0 → parseFieldDescriptor (TJ7 k).2.2.1 = some (tyJ7 k) := by decide +kernel
abbrev cJ7_copyOf_59c91 : ByteArray := prog_22_method_123_code
def yJ7_copyOf_59c91 : MethodName := ⟨RJ7, "copyOf", "([II)[I"⟩
def RJ3 : String := "jdk/internal/util/Preconditions"
def TJ3 : u_T := fun k => match k with
  | _ => ("", "", "", false)
def tyJ3 : Nat → FieldType := fun k => match k with
  | _ => .int
abbrev wsJ30 : List Cond := u_ws RJ3 TJ3 0
theorem nmJ3 : ∀ a, a < 0 → ∀ b, b < 0 → a ≠ b → (TJ3 a).2.1 ≠ (TJ3 b).2.1 := by decide +kernel
theorem tyJ3_ok : ∀ k, k < 0 → parseFieldDescriptor (TJ3 k).2.2.1 = some (tyJ3 k) := by decide +kernel
abbrev cJ3_checkIndex_8e157 : ByteArray := prog_23_method_11_code
def yJ3_checkIndex_8e157 : MethodName := ⟨RJ3, "checkIndex", "(IILjava/util/function/BiFunction;)I"⟩
def RL : String := "PoisonBookLaw"
abbrev cL_law : ByteArray := code
def yL_law : MethodName := ⟨RL, "law", "([I)Z"⟩
end
section
/-! the layer: one word list for all methods; contracts of one shape; a call, an end, a start of a row each -/
/-- the words that hold in every warmed state -/
def gT : List Cond := lw_tbl.filter goodWord
theorem gm {w : Cond} (i : Nat) (h : lw_tbl[i]? = some w) (g : goodWord w = true) : w ∈ gT := List.mem_filter.mpr ⟨List.mem_of_getElem? h, g⟩
abbrev classes : List vw_C := [(RX0, TX0, 1), (RX1, TX1, 3), (RX2, TX2, 4), (RX3, TX3, 4), (RX4, TX4, 3), (RX5, TX5, 3), (RX6, TX6, 2), (RX7, TX7, 3), (RX8, TX8, 5), (RX9, TX9, 14), (RX10, TX10, 6), (RX11, TX11, 12), (RX12, TX12, 36)]
theorem iX0 : ∀ w ∈ u_ws RX0 TX0 1, w ∈ gT := by decide +kernel
theorem iX1 : ∀ w ∈ u_ws RX1 TX1 3, w ∈ gT := by decide +kernel
theorem iX2 : ∀ w ∈ u_ws RX2 TX2 4, w ∈ gT := by decide +kernel
theorem iX3 : ∀ w ∈ u_ws RX3 TX3 4, w ∈ gT := by decide +kernel
theorem iX4 : ∀ w ∈ u_ws RX4 TX4 3, w ∈ gT := by decide +kernel
theorem iX5 : ∀ w ∈ u_ws RX5 TX5 3, w ∈ gT := by decide +kernel
theorem iX6 : ∀ w ∈ u_ws RX6 TX6 2, w ∈ gT := by decide +kernel
theorem iX7 : ∀ w ∈ u_ws RX7 TX7 3, w ∈ gT := by decide +kernel
theorem iX8 : ∀ w ∈ u_ws RX8 TX8 5, w ∈ gT := by decide +kernel
theorem iX9 : ∀ w ∈ u_ws RX9 TX9 14, w ∈ gT := by decide +kernel
theorem iX10 : ∀ w ∈ u_ws RX10 TX10 6, w ∈ gT := by decide +kernel
theorem iX11 : ∀ w ∈ u_ws RX11 TX11 12, w ∈ gT := by decide +kernel
theorem iX12 : ∀ w ∈ u_ws RX12 TX12 36, w ∈ gT := by decide +kernel
abbrev tysOf (tc : Nat → ClassId) : List (ClassId × FieldType) := [(tc 0, .int), (tc 1, .long), (tc 2, .byte), (tc 3, .boolean), (tc 4, .object RX6), (tc 5, .object RX9), (tc 6, .object RX8)]
theorem good_T : gT.all goodWord = true := List.all_eq_true.mpr fun _ h => (List.mem_filter.mp h).2
abbrev Wd (y : MethodName) (b : ByteArray) (n : Nat) (r : Option FieldType) : List Cond := .code y b n r :: gT
theorem gd {y : MethodName} {b : ByteArray} {n : Nat} {r : Option FieldType} (h : Cond.code y b n r ∈ gT) : GoodIn gT (Wd y b n r) := fun w hw => by
  have hm : w ∈ gT := by
    rcases List.mem_cons.mp hw with e | e
    · rw [e]; exact h
    · exact e
  exact ⟨hm, good_of_word (List.all_eq_true.mp good_T w hm)⟩
def lenS : List Nat := [21, 3, 76, 2, 3, 3, 2]
def bytS : List (List Int32) := [
  [98,111,111,107,32,115,107,121,32,98,117,121,101,114,32,119,97,116,99,104,32],
  [98,117,121],
  [98,117,121,101,114,32,116,101,109,112,101,114,32,103,114,97,105,110,115,32,119,97,105,116,115,32,115,116,105,108,108,32,110,101,120,116,32,115,104,101,108,102,32,98,111,117,103,104,116,32,109,101,116,32,115,105,110,99,101,32,115,111,108,100,32,99,108,111,99,107,32,100,97,121,32],
  [105,102],
  [110,111,116],
  [97,110,100],
  [111,114]]
def sOwn : List (String × Nat × String) := [(RX0, 41, "book sky buyer watch "), (RX7, 31, "buy"), (RX7, 111, "buyer temper grains waits still next shelf bought met since sold clock day "), (RX7, 48, "if"), (RX7, 84, "not"), (RX7, 80, "and"), (RX7, 82, "or")]
/-- the links to private constructors of nest mates; the classes of which arrays are made -/
def nstW : List (String × Nat × MethodName) := [(RX11, 9, yX10_init), (RX11, 18, yX0_init), (RX0, 11, yX9_init), (RX11, 25, yX7_init), (RX11, 42, yX8_init), (RX8, 11, yX9_init), (RX8, 23, yX3_init), (RX11, 56, yX5_init), (RX11, 67, yX4_init), (RX4, 11, yX9_init), (RX11, 74, yX1_init), (RX1, 11, yX9_init), (RX11, 81, yX2_init), (RX2, 13, yX9_init), (RX5, 24, yX9_init)]
def aovW : List String := [RX6, RX9, RX8]
/-- the String constants, the statics that String's methods read, the nest's links, the arrays' classes -/
def Sx (sk : (Nat → Nat) × (Nat → Nat)) (A : Nat → Prop) (U : State) (H : Heap) : Prop :=
  vk_S 7 lenS bytS sk.1 sk.2 A U H ∧ va_Z "java/lang/String" "COMPACT_STRINGS" "Z" (.int 1) A U H ∧ va_Zq "jdk/internal/util/Preconditions" "SIOOBE_FORMATTER" "Ljava/util/function/BiFunction;" A U H ∧
  (∀ (i : Nat) (q : String × Nat × String), sOwn[i]? = some q → vk_R q.1 q.2.1 q.2.2 (sk.1 i) U) ∧ (∀ q ∈ nstW, va_Nw (.methodLinkNest q.1 q.2.1 q.2.2 RX11) U) ∧ ∀ C ∈ aovW, va_AO C U
theorem Sx.narrow {sk : (Nat → Nat) × (Nat → Nat)} {A B : Nat → Prop} {U : State} {H : Heap} (h : Sx sk A U H) (hAB : ∀ q, B q → A q) : Sx sk B U H :=
  ⟨h.1.narrow hAB, h.2.1.narrow hAB, h.2.2.1.elim (fun z => Or.inl (z.narrow hAB)) (fun ⟨t, z⟩ => Or.inr ⟨t, z.narrow hAB⟩), h.2.2.2⟩
theorem Sx.kept {sk : (Nat → Nat) × (Nat → Nat)} {A : Nat → Prop} {U : State} {H H1 : Heap} (h : Sx sk A U H) (hq : ∀ a : Nat, a < H.size → ¬ A a → H1[a]? = H[a]?) : Sx sk A U H1 :=
  ⟨h.1.kept hq, h.2.1.kept hq, h.2.2.1.elim (fun z => Or.inl (z.kept hq)) (fun ⟨t, z⟩ => Or.inr ⟨t, z.kept hq⟩), h.2.2.2⟩
theorem Sx.warm {sk : (Nat → Nat) × (Nat → Nat)} {A : Nat → Prop} {s U : State} {H : Heap} (hW : s.WarmedH U.vm) (h : Sx sk A s H) : Sx sk A U H :=
  ⟨h.1.moved hW.alike, h.2.1.moved hW.alike, h.2.2.1.elim (fun z => Or.inl (z.moved hW.alike)) (fun ⟨t, z⟩ => Or.inr ⟨t, z.moved hW.alike⟩), fun i q hq => (h.2.2.2.1 i q hq).warm hW, fun q hq => (h.2.2.2.2.1 q hq).warmM hW, fun C hC => (h.2.2.2.2.2 C hC).moved hW.alike⟩
theorem Sx.same {sk : (Nat → Nat) × (Nat → Nat)} {A : Nat → Prop} {u U : State} {H : Heap} (hv : U.vm = u.vm) (h : Sx sk A u H) : Sx sk A U H := by
  have ha : u.vm.Alike U.vm := by rw [hv]; exact Vm.Alike.refl _
  exact ⟨h.1.moved ha, h.2.1.moved ha, h.2.2.1.elim (fun z => Or.inl (z.moved ha)) (fun ⟨t, z⟩ => Or.inr ⟨t, z.moved ha⟩), fun i q hq => (h.2.2.2.1 i q hq).same hv, fun q hq => va_Nw.same rfl hv.symm (h.2.2.2.2.1 q hq), fun C hC => (h.2.2.2.2.2 C hC).moved ha⟩
def QW {S : Type} (post : Option Value → S → Prop) (B : S → State → Prop) (A : Nat → Prop) : Array Value → State → Outcome → State → Prop := fun _ st oc t => (∃ (v : Option Value) (u : S), oc = .returned v ∧ post v u ∧ B u t) ∧ va_F A st t
abbrev BW {S : Type} (D : va_G) (cellsf : S → va_W) (A : Nat → Prop) : S → State → Prop := fun u t => va_P D classes (cellsf u) t.heap ∧ va_D A (cellsf u)
def PW (D : va_G) (tc : Nat → ClassId) (sk : (Nat → Nat) × (Nat → Nat)) (pre : va_W) (sz : Nat) : State → Prop := fun U => U.heap.size = sz ∧ va_P D classes pre U.heap ∧ va_K D classes (tysOf tc) U ∧ va_D (fun _ => True) pre ∧ Sx sk (va_A pre sz) U U.heap
def Ct {S : Type} (l : Launch) (y : MethodName) (b : ByteArray) (n : Nat) (r : Option FieldType) (rm : Room) (D : va_G) (tc : Nat → ClassId) (sk : (Nat → Nat) × (Nat → Nat)) (av : List Value) (pre : va_W) (post : Option Value → S → Prop) (cellsf : S → va_W) (mc ms : Nat) : Prop :=
  ∀ sz : Nat, Met l y (Wd y b n r) rm (va_Pc av (PW D tc sk pre sz)) (QW post (BW D cellsf (va_A pre sz)) (va_A pre sz)) mc ms (va_A pre sz)
theorem Ct.start {S : Type} {l : Launch} {y : MethodName} {b : ByteArray} {n : Nat} {r : Option FieldType} {rm : Room} {D : va_G} {tc : Nat → ClassId} {sk : (Nat → Nat) × (Nat → Nat)} {av : List Value} {pre : va_W} {post : Option Value → S → Prop} {cellsf : S → va_W} {mc ms : Nat} (hpl : plainName y.cls = true) (hlen : (lg_sl av).length ≤ n)
    (body : ∀ (p : Program) (e : Env) (s : State) (m : MethodId) (below : List Frame) (meth : Method) (c : Code) (A : Nat → Prop) (ls : Array Slot), p.tables.exec = Jvm.exec → c.code = b → meth.sig.returnType = r → meth.locks = false → meth.name = y.name → c.maxLocals = n → s.vm.findClass y.cls = some m.cls → (∀ w ∈ gT, w.before av.toArray s = true) → va_K D classes (tysOf tc) s → Sx sk A s s.heap → va_P D classes pre s.heap → va_D A pre → (∀ q, s.heap.size ≤ q → A q) → lv_has ls n (lv_args 0 av) → va_S A s.heap s.heap [] →
      W p l e rm s m av.toArray below meth c s.heap [] 0 0 (MQ below (QW post (BW D cellsf A) A) av.toArray s mc ms A) (F0 m 0 ls [])) : Ct l y b n r rm D tc sk av pre post cellsf mc ms := by
  intro sz
  refine Met.ofW (cc := b) (maxL := n) (ret := r) hpl rfl ?_
  intro p e s m args below meth c s₁ B hml hv
  obtain ⟨rfl, hsz, hP, hK, hD0, hX⟩ := hv
  subst hsz
  have hts := atoms_spec (ws := Wd y b n r) B.pre
  have hl := lv_entry av (n := n) hlen
  rw [lg_entry_eq]
  exact body p e s m below meth c (va_A pre s.heap.size) _ B.exec B.bytes B.returns B.notSynchronized (name_of_methodNamed B.named B.method).1 hml (findClass_of_methodNamed B.named) (fun w hw => hts w (List.mem_cons_of_mem _ hw)) hK hX hP hD0.self (fun q h => Or.inr h) hl va_S.rf
section LYR
variable {p : Program} {l : Launch} {e : Env} {R : Room} {s : State} {m : MethodId} {args : Array Value} {below : List Frame} {meth : Method} {c : Code} {H : Heap} {locs : List Loc} {cells slots : Nat} {Q : State → Prop}
variable {cc b : ByteArray} {pc : Nat} {ls : Array Slot} {rest st0 : List Value} {D : va_G} {A : Nat → Prop} {a n nL k mc ms index : Nat} {tc : Nat → ClassId} {sk : (Nat → Nat) × (Nat → Nat)} {ws wr pre : va_W} {r : Option FieldType} {rm : Room} {y : MethodName} {own C : String} {As : List Value}
theorem retI {S : Type} {post : Option Value → S → Prop} {cellsf : S → va_W} {ty : FieldType} {v : Int32} (hx : p.tables.exec = Jvm.exec) (hb : c.code = cc) (hr : meth.sig.returnType = some ty) (hlocks : meth.locks = false) (hn : narrow ty (.int v) = .int v) (hP : va_P D classes ws H) (hD : va_D A ws) (hS : va_S A s.heap H locs) (u : S) (hp : post (some (.int v)) u) (is : List Nat) (h2 : va_nd is = true) (h3 : is.map (fun i => ws[i]?) = (cellsf u).map some) (hdg : decode cc pc = .ok (.ireturn, 1)) (hc : cells ≤ mc) (hs : slots ≤ ms) (h1 : is.filterMap (fun i => ws[i]?) = cellsf u) :
    W p l e R s m args below meth c H locs cells slots (MQ below (QW post (BW D cellsf A) A) args s mc ms A) (F0 m pc ls [.int v]) := by
  refine W.widen hc hs ?_
  exact W.zret hx hb hr hn (fun t ht hW => ⟨⟨_, u, rfl, hp, by rw [ht]; exact hP.sub is h1, hD.sub is h2 h3⟩, hS.F ht⟩) hS.2.2 hdg hlocks
theorem retL {S : Type} {post : Option Value → S → Prop} {cellsf : S → va_W} {v : Int64} (hx : p.tables.exec = Jvm.exec) (hb : c.code = cc) (hr : meth.sig.returnType = some .long) (hlocks : meth.locks = false) (hP : va_P D classes ws H) (hD : va_D A ws) (hS : va_S A s.heap H locs) (u : S) (hp : post (some (.long v)) u) (is : List Nat) (h2 : va_nd is = true) (h3 : is.map (fun i => ws[i]?) = (cellsf u).map some) (hdg : decode cc pc = .ok (.lreturn, 1)) (hc : cells ≤ mc) (hs : slots ≤ ms) (h1 : is.filterMap (fun i => ws[i]?) = cellsf u) :
    W p l e R s m args below meth c H locs cells slots (MQ below (QW post (BW D cellsf A) A) args s mc ms A) (F0 m pc ls [.long v]) := by
  refine W.widen hc hs ?_
  exact W.lret hx hb hr (fun t ht hW => ⟨⟨_, u, rfl, hp, by rw [ht]; exact hP.sub is h1, hD.sub is h2 h3⟩, hS.F ht⟩) hS.2.2 hdg hlocks
theorem retA {S : Type} {post : Option Value → S → Prop} {cellsf : S → va_W} {v : Value} {rt : FieldType} (hx : p.tables.exec = Jvm.exec) (hb : c.code = cc) (hr : meth.sig.returnType = some rt) (hlocks : meth.locks = false) (hrt : (∃ n, rt = .object n) ∨ ∃ t, rt = .array t) (hv : v = .null ∨ ∃ a, v = .ref a) (hP : va_P D classes ws H) (hD : va_D A ws) (hS : va_S A s.heap H locs) (u : S) (hp : post (some v) u) (is : List Nat) (h2 : va_nd is = true) (h3 : is.map (fun i => ws[i]?) = (cellsf u).map some) (hdg : decode cc pc = .ok (.areturn, 1)) (hc : cells ≤ mc) (hs : slots ≤ ms) (h1 : is.filterMap (fun i => ws[i]?) = cellsf u) :
    W p l e R s m args below meth c H locs cells slots (MQ below (QW post (BW D cellsf A) A) args s mc ms A) (F0 m pc ls [v]) := by
  refine W.widen hc hs ?_
  exact W.aret hx hb hr hrt hv (fun t ht hW => ⟨⟨_, u, rfl, hp, by rw [ht]; exact hP.sub is h1, hD.sub is h2 h3⟩, hS.F ht⟩) hS.2.2 hdg hlocks
theorem retV {S : Type} {post : Option Value → S → Prop} {cellsf : S → va_W} (hx : p.tables.exec = Jvm.exec) (hb : c.code = cc) (hr : meth.sig.returnType = none) (hlocks : meth.locks = false) (hP : va_P D classes ws H) (hD : va_D A ws) (hS : va_S A s.heap H locs) (u : S) (hp : post none u) (is : List Nat) (h2 : va_nd is = true) (h3 : is.map (fun i => ws[i]?) = (cellsf u).map some) (hdg : decode cc pc = .ok (.return_, 1)) (hc : cells ≤ mc) (hs : slots ≤ ms) (h1 : is.filterMap (fun i => ws[i]?) = cellsf u) :
    W p l e R s m args below meth c H locs cells slots (MQ below (QW post (BW D cellsf A) A) args s mc ms A) (F0 m pc ls []) := by
  refine W.widen hc hs ?_
  exact W.vret hx hb hr (fun t ht hW => ⟨⟨_, u, rfl, hp, by rw [ht]; exact hP.sub is h1, hD.sub is h2 h3⟩, hS.F ht⟩) hS.2.2 hdg hlocks
theorem cRun {S : Type} {post : Option Value → S → Prop} {B : S → State → Prop} {A1 : Nat → Prop} {av : Array Value} {free : Addr → Prop} (hr : va_Run p l e R s m args below meth c H locs cells slots mc ms (F0 m pc ls st0) rest (QW post B A1 av) free) (hS : va_S A s.heap H locs) (hA : ∀ q, q < H.size → A1 q → A q) (hf : ∀ q, free q → A q)
    (kk : ∀ (v : Option Value) (u : S) (t : State) (H1 : Heap) (locs1 : List Loc), t.heap = H1 → post v u → B u t → H.size ≤ H1.size → (∀ q : Nat, q < H.size → ¬ A1 q → H1[q]? = H[q]?) → va_S A s.heap H1 locs1 → W p l e R s m args below meth c H1 locs1 (cells + mc) (slots + ms) Q (F0 m (pc + 3) ls (v.toList ++ rest))) : W p l e R s m args below meth c H locs cells slots Q (F0 m pc ls st0) := by
  intro T hT X
  obtain ⟨v, st₀, t, T', L, h0, X', hL, e1, e2, ⟨⟨v', u, hv, hp, hb⟩, hz, hk⟩, st⟩ := hr T hT X
  cases hv
  rw [h0] at hz hk
  obtain ⟨t2, a1, b1⟩ := kk v u t T'.heap (locs ++ L) e1.symm hp hb (by rw [e1]; exact hz) (fun q h1 h2 => by rw [e1]; exact hk q h1 h2)
    ⟨Nat.le_trans hS.1 (by rw [e1]; exact hz), fun q h1 h2 => by rw [e1, hk q (Nat.lt_of_lt_of_le h1 hS.1) (fun z => h2 (hA q (Nat.lt_of_lt_of_le h1 hS.1) z))]; exact hS.2.1 q h1 h2, fun q hq => by
      rcases List.mem_append.mp hq with h | h
      · exact hS.2.2 q h
      · exact hf _ (hL q h)⟩ T' rfl X'
  exact ⟨t2, st t2 a1, b1⟩
theorem PW.blind (av : List Value) (sz : Nat) : FrameBlind (va_Pc av (PW D tc sk pre sz)) := by
  intro a' U g mk q
  obtain ⟨q0, q1, qP, qK, qD, qX⟩ := q
  exact ⟨q0, q1, qP, va_K.moved (u := U) (U := U.calling g mk a') (Vm.Alike.refl U.vm) qK, qD, Sx.same (u := U) rfl qX⟩
theorem PW.of (hK : va_K D classes (tysOf tc) s) (hX : Sx sk A s s.heap) (hA : ∀ q, s.heap.size ≤ q → A q) (hP : va_P D classes ws H) (hD : va_D A ws) (hS : va_S A s.heap H locs) (isC : List Nat) (hC1 : isC.filterMap (fun i => ws[i]?) = pre) (hC : isC.map (fun i => ws[i]?) = pre.map some) (hnC : va_nd isC = true) {U : State} (hU : U.heap = H) (hW : s.WarmedH U.vm) : PW D tc sk pre H.size U := by
  refine ⟨by rw [hU], by rw [hU]; exact hP.sub isC hC1, va_K.moved hW.alike hK, (hD.sub isC hnC hC).weaken (fun _ _ _ _ => trivial), ?_⟩
  rw [hU]
  exact Sx.warm hW ((hX.kept hS.2.1).narrow (va_free hD hS hA isC hC))
theorem goOn {S : Type} {post : Option Value → S → Prop} {cellsf : S → va_W} {av : Array Value} (hA : ∀ q, s.heap.size ≤ q → A q) (hP : va_P D classes ws H) (hD : va_D A ws) (hS : va_S A s.heap H locs) (isC isR : List Nat) (hC : isC.map (fun i => ws[i]?) = pre.map some) (hR : isR.map (fun i => ws[i]?) = wr.map some) (hn : va_nd isR = true) (hdis : ∀ i ∈ isR, i ∉ isC)
    (hr : va_Run p l e R s m args below meth c H locs cells slots mc ms (F0 m pc ls st0) rest (QW post (BW D cellsf (va_A pre H.size)) (va_A pre H.size) av) (va_A pre H.size))
    (kk : ∀ (v : Option Value) (u : S) (H1 : Heap) (locs1 : List Loc), post v u → va_P D classes (wr ++ cellsf u) H1 → va_D A (wr ++ cellsf u) → va_S A s.heap H1 locs1 → W p l e R s m args below meth c H1 locs1 (cells + mc) (slots + ms) Q (F0 m (pc + 3) ls (v.toList ++ rest))) : W p l e R s m args below meth c H locs cells slots Q (F0 m pc ls st0) := by
  have hFc := va_free (wc := pre) hD hS hA isC hC
  refine cRun hr hS (fun q _ h => hFc q h) hFc (fun v u t H1 locs1 ht hw hB hz1 hk1 hS1 => ?_)
  obtain ⟨hP1, hD1⟩ := hB
  rw [ht] at hP1
  obtain ⟨hP2, hD2⟩ := va_join (wr := wr) (w1 := cellsf u) hP hD isC isR hC hR hn hdis hk1 hFc hP1 hD1
  exact kk v u H1 locs1 hw hP2 hD2 hS1
/-- the room of a callee -/
abbrev RoomOk (R rm : Room) (n : Nat) : Prop := rm.frames + 1 ≤ R.frames ∧ 8 + (n + 11) + rm.locals ≤ R.locals
abbrev PlainC (y : MethodName) (k : Nat) : Prop := y.cls ≠ "java/lang/invoke/MethodHandle" ∧ y.cls ≠ "java/lang/invoke/VarHandle" ∧ (parseMethodDescriptor y.desc).map (fun d => d.parameters.length) = some k
theorem cV {S : Type} {post : Option Value → S → Prop} {cellsf : S → va_W} (X : CallFix p m c cc nL s args gT own) (hK : va_K D classes (tysOf tc) s) (hX : Sx sk A s s.heap) (hA : ∀ q, s.heap.size ≤ q → A q) (hM : Ct l y b n r rm D tc sk (.ref a :: As) pre post cellsf mc ms)
    (hw1 : Cond.code y b n r ∈ gT) (hw2 : Cond.methodLink own index y ∈ gT) (hw3 : Cond.instanceMethod y ∈ gT) (hw4 : Cond.selects y.cls y y ∈ gT) (hw5 : Cond.initialized y.cls ∈ gT) (hd : PlainC y k) (hR1 : RoomOk R rm n) (hrc : rm.cells = mc) (hrs : rm.slots = ms)
    (hrec : ∃ cell : Cell, H[a]? = some cell ∧ cell.vm.isStatics = false ∧ s.vm.findClass y.cls = some cell.cls)
    (hP : va_P D classes ws H) (hD : va_D A ws) (hS : va_S A s.heap H locs) (isC isR : List Nat) (hC1 : isC.filterMap (fun i => ws[i]?) = pre) (hC : isC.map (fun i => ws[i]?) = pre.map some) (hnC : va_nd isC = true) (hR : isR.map (fun i => ws[i]?) = wr.map some) (hn : va_nd isR = true) (hdis : ∀ i ∈ isR, i ∉ isC)
    (hlen : As.length = k) (hls : ls.size = nL) (hst : st0 = As.reverse ++ .ref a :: rest) (hroom : (rest.map fun v => v.category).sum ≤ 8) (hdg : decode cc pc = .ok (.invokevirtual index, 3)) (hf : cells + mc ≤ R.cells ∧ slots + ms ≤ R.slots)
    (kk : ∀ (v : Option Value) (u : S) (H1 : Heap) (locs1 : List Loc), post v u → va_P D classes (wr ++ cellsf u) H1 → va_D A (wr ++ cellsf u) → va_S A s.heap H1 locs1 → W p l e R s m args below meth c H1 locs1 (cells + mc) (slots + ms) Q (F0 m (pc + 3) ls (v.toList ++ rest))) : W p l e R s m args below meth c H locs cells slots Q (F0 m pc ls st0) := by
  have hts := X.2.2.2.2
  have cw : CallW R s args own y.cls index y b n r (Wd y b n r) rm mc ms k := ⟨callB_of k hts (gd hw1) rfl hrc hrs (hts _ hw5) (hts _ hw2) hd hR1, hts _ hw3, hts _ hw4⟩
  refine goOn hA hP hD hS isC isR hC hR hn hdis (va_runV X (hM H.size) cw ⟨PW.blind _ _, hrec, fun U hU hW => ⟨rfl, PW.of hK hX hA hP hD hS isC hC1 hC hnC hU hW⟩⟩ rfl hlen hls hst (lv_room hroom) hdg hf) kk
theorem cS {S : Type} {post : Option Value → S → Prop} {cellsf : S → va_W} (X : CallFix p m c cc nL s args gT own) (hK : va_K D classes (tysOf tc) s) (hX : Sx sk A s s.heap) (hA : ∀ q, s.heap.size ≤ q → A q) (hM : Ct l y b n r rm D tc sk As pre post cellsf mc ms)
    (hw1 : Cond.code y b n r ∈ gT) (hw2 : Cond.methodLink own index y ∈ gT) (hw3 : Cond.static y ∈ gT) (hw5 : Cond.initialized y.cls ∈ gT) (hd : PlainC y k) (hR1 : RoomOk R rm n) (hrc : rm.cells = mc) (hrs : rm.slots = ms)
    (hP : va_P D classes ws H) (hD : va_D A ws) (hS : va_S A s.heap H locs) (isC isR : List Nat) (hC1 : isC.filterMap (fun i => ws[i]?) = pre) (hC : isC.map (fun i => ws[i]?) = pre.map some) (hnC : va_nd isC = true) (hR : isR.map (fun i => ws[i]?) = wr.map some) (hn : va_nd isR = true) (hdis : ∀ i ∈ isR, i ∉ isC)
    (hlen : As.length = k) (hls : ls.size = nL) (hst : st0 = As.reverse ++ rest) (hroom : (rest.map fun v => v.category).sum ≤ 8) (hdg : decode cc pc = .ok (.invokestatic index, 3)) (hf : cells + mc ≤ R.cells ∧ slots + ms ≤ R.slots)
    (kk : ∀ (v : Option Value) (u : S) (H1 : Heap) (locs1 : List Loc), post v u → va_P D classes (wr ++ cellsf u) H1 → va_D A (wr ++ cellsf u) → va_S A s.heap H1 locs1 → W p l e R s m args below meth c H1 locs1 (cells + mc) (slots + ms) Q (F0 m (pc + 3) ls (v.toList ++ rest))) : W p l e R s m args below meth c H locs cells slots Q (F0 m pc ls st0) := by
  have hts := X.2.2.2.2
  have cw : CallB R s args own index y b n r (Wd y b n r) rm mc ms k ∧ (Cond.static y).before args s = true := ⟨callB_of k hts (gd hw1) rfl hrc hrs (hts _ hw5) (hts _ hw2) hd hR1, hts _ hw3⟩
  refine goOn hA hP hD hS isC isR hC hR hn hdis (va_runS X (hM H.size) cw ⟨PW.blind _ _, fun U hU hW => ⟨rfl, PW.of hK hX hA hP hD hS isC hC1 hC hnC hU hW⟩⟩ rfl hlen hls hst (lv_room hroom) hdg hf) kk
theorem cI {S : Type} {post : Option Value → S → Prop} {cellsf : S → va_W} (X : CallFix p m c cc nL s args gT own) (hK : va_K D classes (tysOf tc) s) (hX : Sx sk A s s.heap) (hA : ∀ q, s.heap.size ≤ q → A q) (hM : Ct l y b n none rm D tc sk (.ref a :: As) pre post cellsf mc ms)
    (hw1 : Cond.code y b n none ∈ gT) (hw2 : Cond.methodLink own index y ∈ gT) (hw3 : Cond.instanceMethod y ∈ gT) (hw5 : Cond.initialized y.cls ∈ gT) (hy1 : y.name = "<init>") (hd : PlainC y k) (hR1 : RoomOk R rm n) (hrc : rm.cells = mc) (hrs : rm.slots = ms)
    (hP : va_P D classes ws H) (hD : va_D A ws) (hS : va_S A s.heap H locs) (isC isR : List Nat) (hC1 : isC.filterMap (fun i => ws[i]?) = pre) (hC : isC.map (fun i => ws[i]?) = pre.map some) (hnC : va_nd isC = true) (hR : isR.map (fun i => ws[i]?) = wr.map some) (hn : va_nd isR = true) (hdis : ∀ i ∈ isR, i ∉ isC)
    (hlen : As.length = k) (hls : ls.size = nL) (hst : st0 = As.reverse ++ .ref a :: rest) (hroom : (rest.map fun v => v.category).sum ≤ 8) (hdg : decode cc pc = .ok (.invokespecial index, 3)) (hf : cells + mc ≤ R.cells ∧ slots + ms ≤ R.slots)
    (kk : ∀ (v : Option Value) (u : S) (H1 : Heap) (locs1 : List Loc), post v u → va_P D classes (wr ++ cellsf u) H1 → va_D A (wr ++ cellsf u) → va_S A s.heap H1 locs1 → W p l e R s m args below meth c H1 locs1 (cells + mc) (slots + ms) Q (F0 m (pc + 3) ls (v.toList ++ rest))) : W p l e R s m args below meth c H locs cells slots Q (F0 m pc ls st0) := by
  have hts := X.2.2.2.2
  refine goOn hA hP hD hS isC isR hC hR hn hdis (va_runI X (hM H.size) (cwI k hts (gd hw1) rfl hrc hrs (hts _ hw5) (hts _ hw2) (hts _ hw3) hy1 hd hR1) ⟨PW.blind _ _, fun U hU hW => ⟨rfl, PW.of hK hX hA hP hD hS isC hC1 hC hnC hU hW⟩⟩ rfl hlen hls hst (lv_room hroom) hdg hf) kk
theorem cN {S : Type} {post : Option Value → S → Prop} {cellsf : S → va_W} (X : CallFix p m c cc nL s args gT own) (hK : va_K D classes (tysOf tc) s) (hX : Sx sk A s s.heap) (hA : ∀ q, s.heap.size ≤ q → A q) (hM : Ct l y b n none rm D tc sk (.ref a :: As) pre post cellsf mc ms)
    (hw1 : Cond.code y b n none ∈ gT) (hw2 : (own, index, y) ∈ nstW) (hw3 : Cond.instanceMethod y ∈ gT) (hw5 : Cond.initialized y.cls ∈ gT) (hy1 : y.name = "<init>") (hd : PlainC y k) (hR1 : RoomOk R rm n) (hrc : rm.cells = mc) (hrs : rm.slots = ms)
    (hP : va_P D classes ws H) (hD : va_D A ws) (hS : va_S A s.heap H locs) (isC isR : List Nat) (hC1 : isC.filterMap (fun i => ws[i]?) = pre) (hC : isC.map (fun i => ws[i]?) = pre.map some) (hnC : va_nd isC = true) (hR : isR.map (fun i => ws[i]?) = wr.map some) (hn : va_nd isR = true) (hdis : ∀ i ∈ isR, i ∉ isC)
    (hlen : As.length = k) (hls : ls.size = nL) (hst : st0 = As.reverse ++ .ref a :: rest) (hroom : (rest.map fun v => v.category).sum ≤ 8) (hdg : decode cc pc = .ok (.invokespecial index, 3)) (hf : cells + mc ≤ R.cells ∧ slots + ms ≤ R.slots)
    (kk : ∀ (v : Option Value) (u : S) (H1 : Heap) (locs1 : List Loc), post v u → va_P D classes (wr ++ cellsf u) H1 → va_D A (wr ++ cellsf u) → va_S A s.heap H1 locs1 → W p l e R s m args below meth c H1 locs1 (cells + mc) (slots + ms) Q (F0 m (pc + 3) ls (v.toList ++ rest))) : W p l e R s m args below meth c H locs cells slots Q (F0 m pc ls st0) := by
  have hts := X.2.2.2.2
  refine goOn hA hP hD hS isC isR hC hR hn hdis (va_runIN X (hM H.size) ⟨va_cnB k hts (gd hw1) rfl hrc hrs (hX.2.2.2.2.1 _ hw2) (hts _ hw5) hd hR1, hy1, hts _ hw3⟩ ⟨PW.blind _ _, fun U hU hW => ⟨rfl, PW.of hK hX hA hP hD hS isC hC1 hC hnC hU hW⟩⟩ rfl hlen hls hst (lv_room hroom) hdg hf) kk
theorem ra_inj {U : State} {cA cB : ClassId} {ty : FieldType} (h1 : va_RA U cA ty) (h2 : va_RA U cB ty) : cA = cB := by
  cases ty with
  | object C =>
    obtain ⟨kA, comp, -, -, -, h4⟩ := h1
    obtain ⟨kB, comp', -, -, -, g4⟩ := h2
    exact Option.some.inj (h4.symm.trans g4)
  | _ => exact Option.some.inj (Eq.trans (Eq.symm h1) h2)
theorem nwA (hx : p.tables.exec = Jvm.exec) (hb : c.code = cc) {atype : ArrayType} (harr : (Cond.arrayClass (newarray.typeOf atype)).before args s = true) {ty : FieldType} (hty : newarray.typeOf atype = ty) (hK : va_K D classes (tysOf tc) s) (hP : va_P D classes ws H) (hD : va_D A ws) (hS : va_S A s.heap H locs) (hA : ∀ q, s.heap.size ≤ q → A q) (t0 : Nat) {cI : ClassId} (ht : (tysOf tc)[t0]? = some (cI, ty))
    {n : Int32} {N' : Nat} {a0 : vp_A} (ha : ∀ cA : ClassId, vp_cell cA a0 = arrV cA N' (fun _ => defaultValue ty)) (hn : ¬ n < 0) (hN : n.toNatClampNeg = N') (hbytes : N' * componentBytes ty ≤ 536870912) (hcells : cells + 1 ≤ R.cells) (hslots : slots + N' ≤ R.slots) (hdg : decode cc pc = .ok (.newarray atype, 2))
    (kk : ∀ (q : Nat) (H1 : Heap), va_P D classes (ws ++ [(q, .inl (cI, a0))]) H1 → va_D A (ws ++ [(q, .inl (cI, a0))]) → va_S A s.heap H1 locs →
      W p l e R s m args below meth c H1 locs (cells + 1) (slots + N') Q (F0 m (pc + 2) ls (.ref q :: rest))) : W p l e R s m args below meth c H locs cells slots Q (F0 m pc ls (.int n :: rest)) := by
  refine va_newa hx hb harr hty hK hP hD hS hA ha hn hN hbytes hcells hslots hdg (fun q cA H1 hK1 hP1 hD1 hS1 => ?_)
  have e1 : va_RA s cA ty := (hK1.2 7 (cA, ty) rfl).2
  have e2 : va_RA s cI ty := (hK.2 t0 _ ht).2
  have e3 := ra_inj e1 e2
  subst e3
  exact kk q H1 hP1 hD1 hS1
theorem nwQ (hx : p.tables.exec = Jvm.exec) (hb : c.code = cc) (hown : s.vm.findClass own = some m.cls) (hclink : (Cond.classLink own index C).before args s = true) (hX : Sx sk A s s.heap) (hover : C ∈ aovW) (hK : va_K D classes (tysOf tc) s) (hP : va_P D classes ws H) (hD : va_D A ws) (hS : va_S A s.heap H locs) (hA : ∀ q, s.heap.size ≤ q → A q) (t0 : Nat) {cI : ClassId} (ht : (tysOf tc)[t0]? = some (cI, .object C))
    {n : Int32} {N' : Nat} (hn : ¬ n < 0) (hN : n.toNatClampNeg = N') (hbytes : N' * 4 ≤ 536870912) (hcells : cells + 1 ≤ R.cells) (hslots : slots + N' ≤ R.slots) (hdg : decode cc pc = .ok (.anewarray index, 3))
    (kk : ∀ (q : Nat) (H1 : Heap), va_P D classes (ws ++ [(q, .inl (cI, N', .inr (.inr (.inr (.inr (fun _ => none))))))]) H1 → va_D A (ws ++ [(q, .inl (cI, N', .inr (.inr (.inr (.inr (fun _ => none))))))]) → va_S A s.heap H1 locs →
      W p l e R s m args below meth c H1 locs (cells + 1) (slots + N') Q (F0 m (pc + 3) ls (.ref q :: rest))) : W p l e R s m args below meth c H locs cells slots Q (F0 m pc ls (.int n :: rest)) := by
  refine va_newq hx hb hown hclink (hX.2.2.2.2.2 C hover) hK hP hD hS hA hn hN hbytes hcells hslots hdg (fun q cA H1 hK1 hP1 hD1 hS1 => ?_)
  have e1 : va_RA s cA (.object C) := (hK1.2 7 (cA, .object C) rfl).2
  have e2 : va_RA s cI (.object C) := (hK.2 t0 _ ht).2
  have e3 := ra_inj e1 e2
  subst e3
  exact kk q H1 hP1 hD1 hS1
theorem lv_lit {x v : Int32} (h : x = v) (k : W p l e R s m args below meth c H locs cells slots Q (F0 m pc ls (.int v :: rest))) : W p l e R s m args below meth c H locs cells slots Q (F0 m pc ls (.int x :: rest)) := h ▸ k
theorem lv_litl {x v : Int64} (h : x = v) (k : W p l e R s m args below meth c H locs cells slots Q (F0 m pc ls (.long v :: rest))) : W p l e R s m args below meth c H locs cells slots Q (F0 m pc ls (.long x :: rest)) := h ▸ k
end LYR
theorem vin_dec {i : Int32} {n : Nat} (h : (!decide (i < 0) && decide (i.toNatClampNeg < n)) = true) : vp_in i n := by
  simp only [Bool.and_eq_true, Bool.not_eq_true', decide_eq_false_iff_not, decide_eq_true_eq] at h
  intro z
  rcases z with z | z
  · exact h.1 z
  · omega
end
section
/-! the tables' words, one by one; then a row for each field that is read or written -/
theorem k_0 : Cond.selects RX10 yX10_byteAt yX10_byteAt ∈ gT := gm 0 (by decide +kernel) (by decide +kernel)
theorem k_1 : Cond.selects RX0 yX0_readClause yX0_readClause ∈ gT := gm 1 (by decide +kernel) (by decide +kernel)
theorem k_2 : Cond.selects RX10 yX10_isPartOf yX10_isPartOf ∈ gT := gm 2 (by decide +kernel) (by decide +kernel)
theorem k_3 : Cond.selects RX0 yX0_readBook yX0_readBook ∈ gT := gm 3 (by decide +kernel) (by decide +kernel)
theorem k_4 : Cond.selects RX0 yX0_readSky yX0_readSky ∈ gT := gm 4 (by decide +kernel) (by decide +kernel)
theorem k_5 : Cond.selects RX0 yX0_readBuyer yX0_readBuyer ∈ gT := gm 5 (by decide +kernel) (by decide +kernel)
theorem k_6 : Cond.selects RX0 yX0_readWatch yX0_readWatch ∈ gT := gm 6 (by decide +kernel) (by decide +kernel)
theorem k_7 : Cond.selects RX7 yX7_readSum yX7_readSum ∈ gT := gm 7 (by decide +kernel) (by decide +kernel)
theorem k_8 : Cond.selects RX7 yX7_readValue yX7_readValue ∈ gT := gm 8 (by decide +kernel) (by decide +kernel)
theorem k_9 : Cond.selects RX7 yX7_countOne yX7_countOne ∈ gT := gm 9 (by decide +kernel) (by decide +kernel)
theorem k_10 : Cond.selects RX7 yX7_put yX7_put ∈ gT := gm 10 (by decide +kernel) (by decide +kernel)
theorem k_11 : Cond.selects RX7 yX7_readTest yX7_readTest ∈ gT := gm 11 (by decide +kernel) (by decide +kernel)
theorem k_12 : Cond.selects RX7 yX7_readFact yX7_readFact ∈ gT := gm 12 (by decide +kernel) (by decide +kernel)
theorem k_13 : Cond.selects RX11 yX11_ruleInForce yX11_ruleInForce ∈ gT := gm 13 (by decide +kernel) (by decide +kernel)
theorem k_14 : Cond.selects RX9 yX9_canBuy yX9_canBuy ∈ gT := gm 14 (by decide +kernel) (by decide +kernel)
theorem k_15 : Cond.selects RX9 yX9_changeTempers yX9_changeTempers ∈ gT := gm 15 (by decide +kernel) (by decide +kernel)
theorem k_16 : Cond.selects RX1 yX1_clockOfPurchase yX1_clockOfPurchase ∈ gT := gm 16 (by decide +kernel) (by decide +kernel)
theorem k_17 : Cond.selects RX1 yX1_gain yX1_gain ∈ gT := gm 17 (by decide +kernel) (by decide +kernel)
theorem k_18 : Cond.selects RX1 yX1_isRest yX1_isRest ∈ gT := gm 18 (by decide +kernel) (by decide +kernel)
theorem k_19 : Cond.selects RX2 yX2_agrees yX2_agrees ∈ gT := gm 19 (by decide +kernel) (by decide +kernel)
theorem k_20 : Cond.selects RX2 yX2_whoOn yX2_whoOn ∈ gT := gm 20 (by decide +kernel) (by decide +kernel)
theorem k_21 : Cond.selects RX2 yX2_mostAlike yX2_mostAlike ∈ gT := gm 21 (by decide +kernel) (by decide +kernel)
theorem k_22 : Cond.selects RX4 yX4_drawSky yX4_drawSky ∈ gT := gm 22 (by decide +kernel) (by decide +kernel)
theorem k_23 : Cond.selects RX4 yX4_draw yX4_draw ∈ gT := gm 23 (by decide +kernel) (by decide +kernel)
theorem k_24 : Cond.selects RX12 yX12_four yX12_four ∈ gT := gm 24 (by decide +kernel) (by decide +kernel)
theorem k_25 : Cond.selects RX12 yX12_readsAll yX12_readsAll ∈ gT := gm 25 (by decide +kernel) (by decide +kernel)
theorem k_26 : Cond.selects RX12 yX12_clauseHere yX12_clauseHere ∈ gT := gm 26 (by decide +kernel) (by decide +kernel)
theorem k_27 : Cond.selects RX12 yX12_see yX12_see ∈ gT := gm 27 (by decide +kernel) (by decide +kernel)
theorem k_28 : Cond.selects RX12 yX12_isBookWord yX12_isBookWord ∈ gT := gm 28 (by decide +kernel) (by decide +kernel)
theorem k_29 : Cond.selects RX12 yX12_isWord yX12_isWord ∈ gT := gm 29 (by decide +kernel) (by decide +kernel)
theorem k_30 : Cond.selects RX12 yX12_isLetter yX12_isLetter ∈ gT := gm 30 (by decide +kernel) (by decide +kernel)
theorem k_31 : Cond.selects RX12 yX12_fails yX12_fails ∈ gT := gm 31 (by decide +kernel) (by decide +kernel)
theorem k_32 : Cond.selects RX12 yX12_bookLineHere yX12_bookLineHere ∈ gT := gm 32 (by decide +kernel) (by decide +kernel)
theorem k_33 : Cond.selects RX12 yX12_isBookHere yX12_isBookHere ∈ gT := gm 33 (by decide +kernel) (by decide +kernel)
theorem k_34 : Cond.selects RX12 yX12_passWord yX12_passWord ∈ gT := gm 34 (by decide +kernel) (by decide +kernel)
theorem k_35 : Cond.selects RX12 yX12_cellHere yX12_cellHere ∈ gT := gm 35 (by decide +kernel) (by decide +kernel)
theorem k_36 : Cond.selects RX12 yX12_numberHere yX12_numberHere ∈ gT := gm 36 (by decide +kernel) (by decide +kernel)
theorem k_37 : Cond.selects RX12 yX12_isDigit yX12_isDigit ∈ gT := gm 37 (by decide +kernel) (by decide +kernel)
theorem k_38 : Cond.selects RX12 yX12_isSkyHere yX12_isSkyHere ∈ gT := gm 38 (by decide +kernel) (by decide +kernel)
theorem k_39 : Cond.selects RX12 yX12_isBuyerHere yX12_isBuyerHere ∈ gT := gm 39 (by decide +kernel) (by decide +kernel)
theorem k_40 : Cond.selects RX12 yX12_isWatchHere yX12_isWatchHere ∈ gT := gm 40 (by decide +kernel) (by decide +kernel)
theorem k_41 : Cond.selects RX12 yX12_isBuyHere yX12_isBuyHere ∈ gT := gm 41 (by decide +kernel) (by decide +kernel)
theorem k_42 : Cond.selects RX12 yX12_sum yX12_sum ∈ gT := gm 42 (by decide +kernel) (by decide +kernel)
theorem k_43 : Cond.selects RX12 yX12_term yX12_term ∈ gT := gm 43 (by decide +kernel) (by decide +kernel)
theorem k_44 : Cond.selects RX12 yX12_value yX12_value ∈ gT := gm 44 (by decide +kernel) (by decide +kernel)
theorem k_45 : Cond.selects RX12 yX12_makes yX12_makes ∈ gT := gm 45 (by decide +kernel) (by decide +kernel)
theorem k_46 : Cond.selects RX12 yX12_puts yX12_puts ∈ gT := gm 46 (by decide +kernel) (by decide +kernel)
theorem k_47 : Cond.selects RX12 yX12_wordHere yX12_wordHere ∈ gT := gm 47 (by decide +kernel) (by decide +kernel)
theorem k_48 : Cond.selects RX12 yX12_takesWord yX12_takesWord ∈ gT := gm 48 (by decide +kernel) (by decide +kernel)
theorem k_49 : Cond.selects RX12 yX12_tested yX12_tested ∈ gT := gm 49 (by decide +kernel) (by decide +kernel)
theorem k_50 : Cond.selects RX12 yX12_fact yX12_fact ∈ gT := gm 50 (by decide +kernel) (by decide +kernel)
theorem k_51 : Cond.selects RX12 yX12_opens yX12_opens ∈ gT := gm 51 (by decide +kernel) (by decide +kernel)
theorem k_52 : Cond.selects RX12 yX12_compare yX12_compare ∈ gT := gm 52 (by decide +kernel) (by decide +kernel)
theorem k_53 : Cond.selects RX12 yX12_closes yX12_closes ∈ gT := gm 53 (by decide +kernel) (by decide +kernel)
theorem k_54 : Cond.selects RX12 yX12_layDown yX12_layDown ∈ gT := gm 54 (by decide +kernel) (by decide +kernel)
theorem k_55 : Cond.selects RX12 yX12_isInside yX12_isInside ∈ gT := gm 55 (by decide +kernel) (by decide +kernel)
theorem k_56 : Cond.selects RX12 yX12_begins yX12_begins ∈ gT := gm 56 (by decide +kernel) (by decide +kernel)
theorem k_57 : Cond.selects RX12 yX12_isRule yX12_isRule ∈ gT := gm 57 (by decide +kernel) (by decide +kernel)
theorem k_58 : Cond.selects RX12 yX12_isBuyer yX12_isBuyer ∈ gT := gm 58 (by decide +kernel) (by decide +kernel)
theorem k_59 : Cond.selects RX12 yX12_temperOf yX12_temperOf ∈ gT := gm 59 (by decide +kernel) (by decide +kernel)
theorem k_60 : Cond.selects RX12 yX12_boughtBy yX12_boughtBy ∈ gT := gm 60 (by decide +kernel) (by decide +kernel)
theorem k_61 : Cond.selects RX12 yX12_metOf yX12_metOf ∈ gT := gm 61 (by decide +kernel) (by decide +kernel)
theorem k_62 : Cond.selects RX12 yX12_sinceOf yX12_sinceOf ∈ gT := gm 62 (by decide +kernel) (by decide +kernel)
theorem k_63 : Cond.selects RX12 yX12_lastOf yX12_lastOf ∈ gT := gm 63 (by decide +kernel) (by decide +kernel)
theorem k_64 : Cond.selects RX12 yX12_isClock yX12_isClock ∈ gT := gm 64 (by decide +kernel) (by decide +kernel)
theorem k_65 : Cond.selects RX12 yX12_isBook yX12_isBook ∈ gT := gm 65 (by decide +kernel) (by decide +kernel)
theorem k_66 : Cond.selects RX12 yX12_keepsAct yX12_keepsAct ∈ gT := gm 66 (by decide +kernel) (by decide +kernel)
theorem k_67 : Cond.selects RX12 yX12_passes yX12_passes ∈ gT := gm 67 (by decide +kernel) (by decide +kernel)
theorem k_68 : Cond.selects RX12 yX12_canBuy yX12_canBuy ∈ gT := gm 68 (by decide +kernel) (by decide +kernel)
theorem k_69 : Cond.selects RX12 yX12_isWilling yX12_isWilling ∈ gT := gm 69 (by decide +kernel) (by decide +kernel)
theorem k_70 : Cond.selects RX12 yX12_clock yX12_clock ∈ gT := gm 70 (by decide +kernel) (by decide +kernel)
theorem k_71 : Cond.selects RX12 yX12_soldAll yX12_soldAll ∈ gT := gm 71 (by decide +kernel) (by decide +kernel)
theorem k_72 : Cond.selects RX12 yX12_summedBy yX12_summedBy ∈ gT := gm 72 (by decide +kernel) (by decide +kernel)
theorem k_73 : Cond.selects RX12 yX12_reckons yX12_reckons ∈ gT := gm 73 (by decide +kernel) (by decide +kernel)
theorem k_74 : Cond.selects RX12 yX12_push yX12_push ∈ gT := gm 74 (by decide +kernel) (by decide +kernel)
theorem k_75 : Cond.selects RX12 yX12_pop yX12_pop ∈ gT := gm 75 (by decide +kernel) (by decide +kernel)
theorem k_76 : Cond.selects RX12 yX12_comes yX12_comes ∈ gT := gm 76 (by decide +kernel) (by decide +kernel)
theorem k_77 : Cond.selects RX12 yX12_isMet yX12_isMet ∈ gT := gm 77 (by decide +kernel) (by decide +kernel)
theorem k_78 : Cond.selects RX12 yX12_takes yX12_takes ∈ gT := gm 78 (by decide +kernel) (by decide +kernel)
theorem k_79 : Cond.selects RX12 yX12_weathers yX12_weathers ∈ gT := gm 79 (by decide +kernel) (by decide +kernel)
theorem k_80 : Cond.selects RX12 yX12_keeps yX12_keeps ∈ gT := gm 80 (by decide +kernel) (by decide +kernel)
theorem k_81 : Cond.selects RX12 yX12_passesAll yX12_passesAll ∈ gT := gm 81 (by decide +kernel) (by decide +kernel)
theorem k_82 : Cond.selects RX12 yX12_laysBack yX12_laysBack ∈ gT := gm 82 (by decide +kernel) (by decide +kernel)
theorem k_83 : Cond.selects RX12 yX12_buysIn yX12_buysIn ∈ gT := gm 83 (by decide +kernel) (by decide +kernel)
theorem k_84 : Cond.selects RX12 yX12_soldIn yX12_soldIn ∈ gT := gm 84 (by decide +kernel) (by decide +kernel)
theorem k_85 : Cond.selects RX12 yX12_grainsOf yX12_grainsOf ∈ gT := gm 85 (by decide +kernel) (by decide +kernel)
theorem k_86 : Cond.selects RX12 yX12_valueOf yX12_valueOf ∈ gT := gm 86 (by decide +kernel) (by decide +kernel)
theorem k_87 : Cond.selects RX12 yX12_isRest yX12_isRest ∈ gT := gm 87 (by decide +kernel) (by decide +kernel)
theorem k_88 : Cond.selects RX12 yX12_areAlike yX12_areAlike ∈ gT := gm 88 (by decide +kernel) (by decide +kernel)
theorem k_89 : Cond.selects RX12 yX12_fillsFits yX12_fillsFits ∈ gT := gm 89 (by decide +kernel) (by decide +kernel)
theorem k_90 : Cond.selects RX12 yX12_areNotesSo yX12_areNotesSo ∈ gT := gm 90 (by decide +kernel) (by decide +kernel)
theorem k_91 : Cond.selects RX12 yX12_alikeAt yX12_alikeAt ∈ gT := gm 91 (by decide +kernel) (by decide +kernel)
theorem k_92 : Cond.selects RX12 yX12_draw yX12_draw ∈ gT := gm 92 (by decide +kernel) (by decide +kernel)
theorem k_93 : Cond.selects RX12 yX12_metAll yX12_metAll ∈ gT := gm 93 (by decide +kernel) (by decide +kernel)
theorem k_94 : Cond.initialized RL ∈ gT := gm 94 (by decide +kernel) (by decide +kernel)
theorem k_95 : Cond.initialized RX11 ∈ gT := gm 95 (by decide +kernel) (by decide +kernel)
theorem k_96 : Cond.initialized RX10 ∈ gT := gm 96 (by decide +kernel) (by decide +kernel)
theorem k_97 : Cond.initialized RX0 ∈ gT := gm 97 (by decide +kernel) (by decide +kernel)
theorem k_98 : Cond.initialized RX9 ∈ gT := gm 98 (by decide +kernel) (by decide +kernel)
theorem k_99 : Cond.initialized RX7 ∈ gT := gm 99 (by decide +kernel) (by decide +kernel)
theorem k_100 : Cond.initialized RX8 ∈ gT := gm 100 (by decide +kernel) (by decide +kernel)
theorem k_101 : Cond.initialized RX3 ∈ gT := gm 101 (by decide +kernel) (by decide +kernel)
theorem k_102 : Cond.initialized RX5 ∈ gT := gm 102 (by decide +kernel) (by decide +kernel)
theorem k_103 : Cond.initialized RX4 ∈ gT := gm 103 (by decide +kernel) (by decide +kernel)
theorem k_104 : Cond.initialized RX1 ∈ gT := gm 104 (by decide +kernel) (by decide +kernel)
theorem k_105 : Cond.initialized RX2 ∈ gT := gm 105 (by decide +kernel) (by decide +kernel)
theorem k_106 : Cond.initialized RX12 ∈ gT := gm 106 (by decide +kernel) (by decide +kernel)
theorem k_107 : Cond.initialized RJ0 ∈ gT := gm 107 (by decide +kernel) (by decide +kernel)
theorem k_108 : Cond.initialized RJ1 ∈ gT := gm 108 (by decide +kernel) (by decide +kernel)
theorem k_109 : Cond.initialized RJ3 ∈ gT := gm 109 (by decide +kernel) (by decide +kernel)
theorem k_110 : Cond.initialized RJ2 ∈ gT := gm 110 (by decide +kernel) (by decide +kernel)
theorem k_111 : Cond.initialized RJ10 ∈ gT := gm 111 (by decide +kernel) (by decide +kernel)
theorem k_112 : Cond.initialized RX6 ∈ gT := gm 112 (by decide +kernel) (by decide +kernel)
theorem k_113 : Cond.initialized RJ7 ∈ gT := gm 113 (by decide +kernel) (by decide +kernel)
theorem k_114 : Cond.initialized RJ9 ∈ gT := gm 114 (by decide +kernel) (by decide +kernel)
theorem k_115 : Cond.initialized RJ6 ∈ gT := gm 115 (by decide +kernel) (by decide +kernel)
theorem k_116 : Cond.classLink RL 7 RX11 ∈ gT := gm 116 (by decide +kernel) (by decide +kernel)
theorem k_117 : Cond.instantiable RX11 12 ∈ gT := gm 117 (by decide +kernel) (by decide +kernel)
theorem k_118 : Cond.methodLink RL 9 yX11_init ∈ gT := gm 118 (by decide +kernel) (by decide +kernel)
theorem k_119 : Cond.instanceMethod yX11_init ∈ gT := gm 119 (by decide +kernel) (by decide +kernel)
set_option maxRecDepth 100000 in
theorem k_120 : Cond.code yX11_init cX11_init 1 none ∈ gT := gm 120 (rfl) (by decide +kernel)
theorem k_121 : Cond.methodLink RX11 1 objectInit ∈ gT := gm 121 (by decide +kernel) (by decide +kernel)
theorem k_122 : Cond.instanceMethod objectInit ∈ gT := gm 122 (by decide +kernel) (by decide +kernel)
set_option maxRecDepth 100000 in
theorem k_123 : Cond.code objectInit object_method_1_code 1 none ∈ gT := gm 123 (rfl) (by decide +kernel)
theorem k_124 : Cond.classLink RX11 7 RX10 ∈ gT := gm 124 (by decide +kernel) (by decide +kernel)
theorem k_125 : Cond.instantiable RX10 6 ∈ gT := gm 125 (by decide +kernel) (by decide +kernel)
theorem k_127 : Cond.instanceMethod yX10_init ∈ gT := gm 127 (by decide +kernel) (by decide +kernel)
set_option maxRecDepth 100000 in
theorem k_128 : Cond.code yX10_init cX10_init 1 none ∈ gT := gm 128 (rfl) (by decide +kernel)
theorem k_129 : Cond.methodLink RX10 3 objectInit ∈ gT := gm 129 (by decide +kernel) (by decide +kernel)
theorem k_130 : Cond.fieldLink RX10 9 "PoisonBook$Tape" "bytes" "[I" ∈ gT := gm 130 (by decide +kernel) (by decide +kernel)
theorem k_131 : Cond.fieldLink RX10 15 "PoisonBook$Tape" "length" "I" ∈ gT := gm 131 (by decide +kernel) (by decide +kernel)
theorem k_132 : Cond.fieldLink RX11 94 "PoisonBook$Tape" "length" "I" ∈ gT := gm 132 (by decide +kernel) (by decide +kernel)
theorem k_133 : Cond.fieldLink RX10 19 "PoisonBook$Tape" "at" "I" ∈ gT := gm 133 (by decide +kernel) (by decide +kernel)
theorem k_134 : Cond.fieldLink RX7 121 "PoisonBook$Tape" "at" "I" ∈ gT := gm 134 (by decide +kernel) (by decide +kernel)
theorem k_135 : Cond.fieldLink RX10 22 "PoisonBook$Tape" "behind" "I" ∈ gT := gm 135 (by decide +kernel) (by decide +kernel)
theorem k_136 : Cond.fieldLink RX7 118 "PoisonBook$Tape" "behind" "I" ∈ gT := gm 136 (by decide +kernel) (by decide +kernel)
theorem k_137 : Cond.fieldLink RX10 25 "PoisonBook$Tape" "first" "I" ∈ gT := gm 137 (by decide +kernel) (by decide +kernel)
theorem k_138 : Cond.fieldLink RX7 86 "PoisonBook$Tape" "first" "I" ∈ gT := gm 138 (by decide +kernel) (by decide +kernel)
theorem k_139 : Cond.fieldLink RX10 28 "PoisonBook$Tape" "fault" "I" ∈ gT := gm 139 (by decide +kernel) (by decide +kernel)
theorem k_140 : Cond.fieldLink RX0 37 "PoisonBook$Tape" "fault" "I" ∈ gT := gm 140 (by decide +kernel) (by decide +kernel)
theorem k_141 : Cond.fieldLink RX7 65 "PoisonBook$Tape" "fault" "I" ∈ gT := gm 141 (by decide +kernel) (by decide +kernel)
theorem k_142 : Cond.fieldLink RX11 127 "PoisonBook$Tape" "fault" "I" ∈ gT := gm 142 (by decide +kernel) (by decide +kernel)
theorem k_156 : Cond.arrayClass .int ∈ gT := gm 156 (by decide +kernel) (by decide +kernel)
theorem k_157 : Cond.classLink RX11 16 RX0 ∈ gT := gm 157 (by decide +kernel) (by decide +kernel)
theorem k_158 : Cond.instantiable RX0 1 ∈ gT := gm 158 (by decide +kernel) (by decide +kernel)
theorem k_160 : Cond.instanceMethod yX0_init ∈ gT := gm 160 (by decide +kernel) (by decide +kernel)
set_option maxRecDepth 100000 in
theorem k_161 : Cond.code yX0_init cX0_init 1 none ∈ gT := gm 161 (rfl) (by decide +kernel)
theorem k_162 : Cond.methodLink RX0 3 objectInit ∈ gT := gm 162 (by decide +kernel) (by decide +kernel)
theorem k_163 : Cond.classLink RX0 9 RX9 ∈ gT := gm 163 (by decide +kernel) (by decide +kernel)
theorem k_164 : Cond.instantiable RX9 14 ∈ gT := gm 164 (by decide +kernel) (by decide +kernel)
theorem k_166 : Cond.instanceMethod yX9_init ∈ gT := gm 166 (by decide +kernel) (by decide +kernel)
set_option maxRecDepth 100000 in
theorem k_167 : Cond.code yX9_init cX9_init 1 none ∈ gT := gm 167 (rfl) (by decide +kernel)
theorem k_168 : Cond.methodLink RX9 3 objectInit ∈ gT := gm 168 (by decide +kernel) (by decide +kernel)
theorem k_169 : Cond.fieldLink RX9 9 "PoisonBook$Shop" "shelf" "I" ∈ gT := gm 169 (by decide +kernel) (by decide +kernel)
theorem k_170 : Cond.fieldLink RX4 34 "PoisonBook$Shop" "shelf" "I" ∈ gT := gm 170 (by decide +kernel) (by decide +kernel)
theorem k_171 : Cond.fieldLink RX0 74 "PoisonBook$Shop" "shelf" "I" ∈ gT := gm 171 (by decide +kernel) (by decide +kernel)
theorem k_172 : Cond.fieldLink RX11 193 "PoisonBook$Shop" "shelf" "I" ∈ gT := gm 172 (by decide +kernel) (by decide +kernel)
theorem k_173 : Cond.fieldLink RX9 15 "PoisonBook$Shop" "fill" "I" ∈ gT := gm 173 (by decide +kernel) (by decide +kernel)
theorem k_174 : Cond.fieldLink RX0 77 "PoisonBook$Shop" "fill" "I" ∈ gT := gm 174 (by decide +kernel) (by decide +kernel)
theorem k_175 : Cond.fieldLink RX11 282 "PoisonBook$Shop" "fill" "I" ∈ gT := gm 175 (by decide +kernel) (by decide +kernel)
theorem k_176 : Cond.fieldLink RX9 18 "PoisonBook$Shop" "round" "I" ∈ gT := gm 176 (by decide +kernel) (by decide +kernel)
theorem k_177 : Cond.fieldLink RX1 56 "PoisonBook$Shop" "round" "I" ∈ gT := gm 177 (by decide +kernel) (by decide +kernel)
theorem k_178 : Cond.fieldLink RX0 80 "PoisonBook$Shop" "round" "I" ∈ gT := gm 178 (by decide +kernel) (by decide +kernel)
theorem k_179 : Cond.fieldLink RX11 285 "PoisonBook$Shop" "round" "I" ∈ gT := gm 179 (by decide +kernel) (by decide +kernel)
theorem k_180 : Cond.fieldLink RX9 21 "PoisonBook$Shop" "buyers" "I" ∈ gT := gm 180 (by decide +kernel) (by decide +kernel)
theorem k_181 : Cond.fieldLink RX0 51 "PoisonBook$Shop" "buyers" "I" ∈ gT := gm 181 (by decide +kernel) (by decide +kernel)
theorem k_182 : Cond.fieldLink RX11 121 "PoisonBook$Shop" "buyers" "I" ∈ gT := gm 182 (by decide +kernel) (by decide +kernel)
theorem k_183 : Cond.fieldLink RX1 66 "PoisonBook$Shop" "buyers" "I" ∈ gT := gm 183 (by decide +kernel) (by decide +kernel)
theorem k_184 : Cond.fieldLink RX9 24 "PoisonBook$Shop" "day" "I" ∈ gT := gm 184 (by decide +kernel) (by decide +kernel)
theorem k_185 : Cond.fieldLink RX4 53 "PoisonBook$Shop" "day" "I" ∈ gT := gm 185 (by decide +kernel) (by decide +kernel)
theorem k_186 : Cond.fieldLink RX1 44 "PoisonBook$Shop" "day" "I" ∈ gT := gm 186 (by decide +kernel) (by decide +kernel)
theorem k_187 : Cond.fieldLink RX11 179 "PoisonBook$Shop" "day" "I" ∈ gT := gm 187 (by decide +kernel) (by decide +kernel)
theorem k_188 : Cond.fieldLink RX9 27 "PoisonBook$Shop" "sold" "I" ∈ gT := gm 188 (by decide +kernel) (by decide +kernel)
theorem k_189 : Cond.fieldLink RX11 294 "PoisonBook$Shop" "sold" "I" ∈ gT := gm 189 (by decide +kernel) (by decide +kernel)
theorem k_190 : Cond.fieldLink RX9 30 "PoisonBook$Shop" "still" "[I" ∈ gT := gm 190 (by decide +kernel) (by decide +kernel)
theorem k_191 : Cond.fieldLink RX0 87 "PoisonBook$Shop" "still" "[I" ∈ gT := gm 191 (by decide +kernel) (by decide +kernel)
theorem k_192 : Cond.fieldLink RX11 170 "PoisonBook$Shop" "still" "[I" ∈ gT := gm 192 (by decide +kernel) (by decide +kernel)
theorem k_193 : Cond.fieldLink RX4 95 "PoisonBook$Shop" "still" "[I" ∈ gT := gm 193 (by decide +kernel) (by decide +kernel)
theorem k_194 : Cond.fieldLink RX9 34 "PoisonBook$Shop" "watched" "[I" ∈ gT := gm 194 (by decide +kernel) (by decide +kernel)
theorem k_195 : Cond.fieldLink RX1 33 "PoisonBook$Shop" "watched" "[I" ∈ gT := gm 195 (by decide +kernel) (by decide +kernel)
theorem k_196 : Cond.fieldLink RX0 103 "PoisonBook$Shop" "watched" "[I" ∈ gT := gm 196 (by decide +kernel) (by decide +kernel)
theorem k_197 : Cond.fieldLink RX11 173 "PoisonBook$Shop" "watched" "[I" ∈ gT := gm 197 (by decide +kernel) (by decide +kernel)
theorem k_198 : Cond.fieldLink RX9 37 "PoisonBook$Shop" "temper" "[I" ∈ gT := gm 198 (by decide +kernel) (by decide +kernel)
theorem k_199 : Cond.fieldLink RX4 42 "PoisonBook$Shop" "temper" "[I" ∈ gT := gm 199 (by decide +kernel) (by decide +kernel)
theorem k_200 : Cond.fieldLink RX1 63 "PoisonBook$Shop" "temper" "[I" ∈ gT := gm 200 (by decide +kernel) (by decide +kernel)
theorem k_201 : Cond.fieldLink RX0 91 "PoisonBook$Shop" "temper" "[I" ∈ gT := gm 201 (by decide +kernel) (by decide +kernel)
theorem k_202 : Cond.fieldLink RX11 137 "PoisonBook$Shop" "temper" "[I" ∈ gT := gm 202 (by decide +kernel) (by decide +kernel)
theorem k_203 : Cond.fieldLink RX9 40 "PoisonBook$Shop" "grains" "[I" ∈ gT := gm 203 (by decide +kernel) (by decide +kernel)
theorem k_204 : Cond.fieldLink RX0 94 "PoisonBook$Shop" "grains" "[I" ∈ gT := gm 204 (by decide +kernel) (by decide +kernel)
theorem k_205 : Cond.fieldLink RX11 141 "PoisonBook$Shop" "grains" "[I" ∈ gT := gm 205 (by decide +kernel) (by decide +kernel)
theorem k_206 : Cond.fieldLink RX1 73 "PoisonBook$Shop" "grains" "[I" ∈ gT := gm 206 (by decide +kernel) (by decide +kernel)
theorem k_207 : Cond.fieldLink RX9 43 "PoisonBook$Shop" "waits" "[I" ∈ gT := gm 207 (by decide +kernel) (by decide +kernel)
theorem k_208 : Cond.fieldLink RX0 97 "PoisonBook$Shop" "waits" "[I" ∈ gT := gm 208 (by decide +kernel) (by decide +kernel)
theorem k_209 : Cond.fieldLink RX11 144 "PoisonBook$Shop" "waits" "[I" ∈ gT := gm 209 (by decide +kernel) (by decide +kernel)
theorem k_210 : Cond.fieldLink RX9 46 "PoisonBook$Shop" "bought" "[I" ∈ gT := gm 210 (by decide +kernel) (by decide +kernel)
theorem k_211 : Cond.fieldLink RX4 46 "PoisonBook$Shop" "bought" "[I" ∈ gT := gm 211 (by decide +kernel) (by decide +kernel)
theorem k_212 : Cond.fieldLink RX11 147 "PoisonBook$Shop" "bought" "[I" ∈ gT := gm 212 (by decide +kernel) (by decide +kernel)
theorem k_213 : Cond.fieldLink RX1 82 "PoisonBook$Shop" "bought" "[I" ∈ gT := gm 213 (by decide +kernel) (by decide +kernel)
theorem k_214 : Cond.fieldLink RX9 49 "PoisonBook$Shop" "met" "[I" ∈ gT := gm 214 (by decide +kernel) (by decide +kernel)
theorem k_215 : Cond.fieldLink RX11 150 "PoisonBook$Shop" "met" "[I" ∈ gT := gm 215 (by decide +kernel) (by decide +kernel)
theorem k_216 : Cond.fieldLink RX1 85 "PoisonBook$Shop" "met" "[I" ∈ gT := gm 216 (by decide +kernel) (by decide +kernel)
theorem k_217 : Cond.fieldLink RX9 52 "PoisonBook$Shop" "last" "[I" ∈ gT := gm 217 (by decide +kernel) (by decide +kernel)
theorem k_247 : Cond.fieldLink RX0 12 "PoisonBook$BookReader" "shop" "LPoisonBook$Shop;" ∈ gT := gm 247 (by decide +kernel) (by decide +kernel)
theorem k_248 : Cond.fieldLink RX11 104 "PoisonBook$BookReader" "shop" "LPoisonBook$Shop;" ∈ gT := gm 248 (by decide +kernel) (by decide +kernel)
theorem k_252 : Cond.classLink RX11 23 RX7 ∈ gT := gm 252 (by decide +kernel) (by decide +kernel)
theorem k_253 : Cond.instantiable RX7 3 ∈ gT := gm 253 (by decide +kernel) (by decide +kernel)
theorem k_255 : Cond.instanceMethod yX7_init ∈ gT := gm 255 (by decide +kernel) (by decide +kernel)
set_option maxRecDepth 100000 in
theorem k_256 : Cond.code yX7_init cX7_init 1 none ∈ gT := gm 256 (rfl) (by decide +kernel)
theorem k_257 : Cond.methodLink RX7 3 objectInit ∈ gT := gm 257 (by decide +kernel) (by decide +kernel)
theorem k_258 : Cond.fieldLink RX7 9 "PoisonBook$RuleReader" "code" "[I" ∈ gT := gm 258 (by decide +kernel) (by decide +kernel)
theorem k_259 : Cond.fieldLink RX7 15 "PoisonBook$RuleReader" "used" "I" ∈ gT := gm 259 (by decide +kernel) (by decide +kernel)
theorem k_260 : Cond.fieldLink RX7 19 "PoisonBook$RuleReader" "counted" "I" ∈ gT := gm 260 (by decide +kernel) (by decide +kernel)
theorem k_268 : Cond.classLink RX11 30 RX6 ∈ gT := gm 268 (by decide +kernel) (by decide +kernel)
theorem k_270 : Cond.classLink RX11 40 RX8 ∈ gT := gm 270 (by decide +kernel) (by decide +kernel)
theorem k_271 : Cond.instantiable RX8 5 ∈ gT := gm 271 (by decide +kernel) (by decide +kernel)
theorem k_273 : Cond.instanceMethod yX8_init ∈ gT := gm 273 (by decide +kernel) (by decide +kernel)
set_option maxRecDepth 100000 in
theorem k_274 : Cond.code yX8_init cX8_init 1 none ∈ gT := gm 274 (rfl) (by decide +kernel)
theorem k_275 : Cond.methodLink RX8 3 objectInit ∈ gT := gm 275 (by decide +kernel) (by decide +kernel)
theorem k_276 : Cond.classLink RX8 9 RX9 ∈ gT := gm 276 (by decide +kernel) (by decide +kernel)
theorem k_278 : Cond.classLink RX8 21 RX3 ∈ gT := gm 278 (by decide +kernel) (by decide +kernel)
theorem k_279 : Cond.instantiable RX3 4 ∈ gT := gm 279 (by decide +kernel) (by decide +kernel)
theorem k_281 : Cond.instanceMethod yX3_init ∈ gT := gm 281 (by decide +kernel) (by decide +kernel)
set_option maxRecDepth 100000 in
theorem k_282 : Cond.code yX3_init cX3_init 1 none ∈ gT := gm 282 (rfl) (by decide +kernel)
theorem k_283 : Cond.methodLink RX3 1 objectInit ∈ gT := gm 283 (by decide +kernel) (by decide +kernel)
theorem k_284 : Cond.fieldLink RX3 9 "PoisonBook$Notes" "days" "[I" ∈ gT := gm 284 (by decide +kernel) (by decide +kernel)
theorem k_285 : Cond.fieldLink RX2 56 "PoisonBook$Notes" "days" "[I" ∈ gT := gm 285 (by decide +kernel) (by decide +kernel)
theorem k_286 : Cond.fieldLink RX3 13 "PoisonBook$Notes" "buyers" "[I" ∈ gT := gm 286 (by decide +kernel) (by decide +kernel)
theorem k_287 : Cond.fieldLink RX2 63 "PoisonBook$Notes" "buyers" "[I" ∈ gT := gm 287 (by decide +kernel) (by decide +kernel)
theorem k_288 : Cond.fieldLink RX3 16 "PoisonBook$Notes" "bought" "[I" ∈ gT := gm 288 (by decide +kernel) (by decide +kernel)
theorem k_289 : Cond.fieldLink RX2 66 "PoisonBook$Notes" "bought" "[I" ∈ gT := gm 289 (by decide +kernel) (by decide +kernel)
theorem k_290 : Cond.fieldLink RX3 19 "PoisonBook$Notes" "size" "I" ∈ gT := gm 290 (by decide +kernel) (by decide +kernel)
theorem k_291 : Cond.fieldLink RX2 51 "PoisonBook$Notes" "size" "I" ∈ gT := gm 291 (by decide +kernel) (by decide +kernel)
theorem k_292 : Cond.fieldLink RX11 115 "PoisonBook$Notes" "size" "I" ∈ gT := gm 292 (by decide +kernel) (by decide +kernel)
theorem k_302 : Cond.fieldLink RX8 12 "PoisonBook$Scene" "now" "LPoisonBook$Shop;" ∈ gT := gm 302 (by decide +kernel) (by decide +kernel)
theorem k_303 : Cond.fieldLink RX11 47 "PoisonBook$Scene" "now" "LPoisonBook$Shop;" ∈ gT := gm 303 (by decide +kernel) (by decide +kernel)
theorem k_304 : Cond.fieldLink RX8 18 "PoisonBook$Scene" "begin" "LPoisonBook$Shop;" ∈ gT := gm 304 (by decide +kernel) (by decide +kernel)
theorem k_305 : Cond.fieldLink RX2 30 "PoisonBook$Scene" "begin" "LPoisonBook$Shop;" ∈ gT := gm 305 (by decide +kernel) (by decide +kernel)
theorem k_306 : Cond.fieldLink RX11 101 "PoisonBook$Scene" "begin" "LPoisonBook$Shop;" ∈ gT := gm 306 (by decide +kernel) (by decide +kernel)
theorem k_307 : Cond.fieldLink RX8 24 "PoisonBook$Scene" "notes" "LPoisonBook$Notes;" ∈ gT := gm 307 (by decide +kernel) (by decide +kernel)
theorem k_308 : Cond.fieldLink RX2 43 "PoisonBook$Scene" "notes" "LPoisonBook$Notes;" ∈ gT := gm 308 (by decide +kernel) (by decide +kernel)
theorem k_309 : Cond.fieldLink RX11 111 "PoisonBook$Scene" "notes" "LPoisonBook$Notes;" ∈ gT := gm 309 (by decide +kernel) (by decide +kernel)
theorem k_310 : Cond.fieldLink RX8 28 "PoisonBook$Scene" "inForce" "I" ∈ gT := gm 310 (by decide +kernel) (by decide +kernel)
theorem k_311 : Cond.fieldLink RX11 130 "PoisonBook$Scene" "inForce" "I" ∈ gT := gm 311 (by decide +kernel) (by decide +kernel)
theorem k_312 : Cond.fieldLink RX8 32 "PoisonBook$Scene" "drawn" "I" ∈ gT := gm 312 (by decide +kernel) (by decide +kernel)
theorem k_313 : Cond.fieldLink RX11 272 "PoisonBook$Scene" "drawn" "I" ∈ gT := gm 313 (by decide +kernel) (by decide +kernel)
theorem k_325 : Cond.classLink RX11 54 RX5 ∈ gT := gm 325 (by decide +kernel) (by decide +kernel)
theorem k_326 : Cond.instantiable RX5 3 ∈ gT := gm 326 (by decide +kernel) (by decide +kernel)
theorem k_328 : Cond.instanceMethod yX5_init ∈ gT := gm 328 (by decide +kernel) (by decide +kernel)
set_option maxRecDepth 100000 in
theorem k_329 : Cond.code yX5_init cX5_init 1 none ∈ gT := gm 329 (rfl) (by decide +kernel)
theorem k_330 : Cond.methodLink RX5 3 objectInit ∈ gT := gm 330 (by decide +kernel) (by decide +kernel)
theorem k_331 : Cond.classLink RX5 11 RX9 ∈ gT := gm 331 (by decide +kernel) (by decide +kernel)
theorem k_333 : Cond.fieldLink RX5 13 "PoisonBook$Past" "shops" "[LPoisonBook$Shop;" ∈ gT := gm 333 (by decide +kernel) (by decide +kernel)
theorem k_334 : Cond.fieldLink RX5 17 "PoisonBook$Past" "next" "I" ∈ gT := gm 334 (by decide +kernel) (by decide +kernel)
theorem k_335 : Cond.fieldLink RX5 21 "PoisonBook$Past" "size" "I" ∈ gT := gm 335 (by decide +kernel) (by decide +kernel)
theorem k_336 : Cond.fieldLink RX11 120 "PoisonBook$Past" "size" "I" ∈ gT := gm 336 (by decide +kernel) (by decide +kernel)
theorem k_345 : Cond.classLink RX11 65 RX4 ∈ gT := gm 345 (by decide +kernel) (by decide +kernel)
theorem k_346 : Cond.instantiable RX4 3 ∈ gT := gm 346 (by decide +kernel) (by decide +kernel)
theorem k_348 : Cond.instanceMethod yX4_init ∈ gT := gm 348 (by decide +kernel) (by decide +kernel)
set_option maxRecDepth 100000 in
theorem k_349 : Cond.code yX4_init cX4_init 1 none ∈ gT := gm 349 (rfl) (by decide +kernel)
theorem k_350 : Cond.methodLink RX4 3 objectInit ∈ gT := gm 350 (by decide +kernel) (by decide +kernel)
theorem k_351 : Cond.classLink RX4 9 RX9 ∈ gT := gm 351 (by decide +kernel) (by decide +kernel)
theorem k_353 : Cond.fieldLink RX4 12 "PoisonBook$Outlook" "then" "LPoisonBook$Shop;" ∈ gT := gm 353 (by decide +kernel) (by decide +kernel)
theorem k_354 : Cond.fieldLink RX4 18 "PoisonBook$Outlook" "marks" "[J" ∈ gT := gm 354 (by decide +kernel) (by decide +kernel)
theorem k_355 : Cond.fieldLink RX4 22 "PoisonBook$Outlook" "drawn" "J" ∈ gT := gm 355 (by decide +kernel) (by decide +kernel)
theorem k_356 : Cond.fieldLink RX11 275 "PoisonBook$Outlook" "drawn" "J" ∈ gT := gm 356 (by decide +kernel) (by decide +kernel)
theorem k_364 : Cond.arrayClass .long ∈ gT := gm 364 (by decide +kernel) (by decide +kernel)
theorem k_365 : Cond.classLink RX11 72 RX1 ∈ gT := gm 365 (by decide +kernel) (by decide +kernel)
theorem k_366 : Cond.instantiable RX1 3 ∈ gT := gm 366 (by decide +kernel) (by decide +kernel)
theorem k_368 : Cond.instanceMethod yX1_init ∈ gT := gm 368 (by decide +kernel) (by decide +kernel)
set_option maxRecDepth 100000 in
theorem k_369 : Cond.code yX1_init cX1_init 1 none ∈ gT := gm 369 (rfl) (by decide +kernel)
theorem k_370 : Cond.methodLink RX1 3 objectInit ∈ gT := gm 370 (by decide +kernel) (by decide +kernel)
theorem k_371 : Cond.classLink RX1 9 RX9 ∈ gT := gm 371 (by decide +kernel) (by decide +kernel)
theorem k_373 : Cond.fieldLink RX1 12 "PoisonBook$Choices" "then" "LPoisonBook$Shop;" ∈ gT := gm 373 (by decide +kernel) (by decide +kernel)
theorem k_374 : Cond.fieldLink RX1 18 "PoisonBook$Choices" "oneHas" "[I" ∈ gT := gm 374 (by decide +kernel) (by decide +kernel)
theorem k_375 : Cond.fieldLink RX1 22 "PoisonBook$Choices" "otherHas" "[I" ∈ gT := gm 375 (by decide +kernel) (by decide +kernel)
theorem k_383 : Cond.classLink RX11 79 RX2 ∈ gT := gm 383 (by decide +kernel) (by decide +kernel)
theorem k_384 : Cond.instantiable RX2 4 ∈ gT := gm 384 (by decide +kernel) (by decide +kernel)
theorem k_386 : Cond.instanceMethod yX2_init ∈ gT := gm 386 (by decide +kernel) (by decide +kernel)
set_option maxRecDepth 100000 in
theorem k_387 : Cond.code yX2_init cX2_init 1 none ∈ gT := gm 387 (rfl) (by decide +kernel)
theorem k_388 : Cond.methodLink RX2 5 objectInit ∈ gT := gm 388 (by decide +kernel) (by decide +kernel)
theorem k_389 : Cond.classLink RX2 11 RX9 ∈ gT := gm 389 (by decide +kernel) (by decide +kernel)
theorem k_391 : Cond.fieldLink RX2 14 "PoisonBook$Inquiry" "then" "LPoisonBook$Shop;" ∈ gT := gm 391 (by decide +kernel) (by decide +kernel)
theorem k_392 : Cond.fieldLink RX2 18 "PoisonBook$Inquiry" "who" "[I" ∈ gT := gm 392 (by decide +kernel) (by decide +kernel)
theorem k_393 : Cond.fieldLink RX2 22 "PoisonBook$Inquiry" "fits" "[Z" ∈ gT := gm 393 (by decide +kernel) (by decide +kernel)
theorem k_394 : Cond.fieldLink RX2 26 "PoisonBook$Inquiry" "fitting" "I" ∈ gT := gm 394 (by decide +kernel) (by decide +kernel)
theorem k_395 : Cond.fieldLink RX11 262 "PoisonBook$Inquiry" "fitting" "I" ∈ gT := gm 395 (by decide +kernel) (by decide +kernel)
theorem k_405 : Cond.arrayClass .boolean ∈ gT := gm 405 (by decide +kernel) (by decide +kernel)
theorem k_406 : Cond.fieldLink RX11 10 "PoisonBook" "tape" "LPoisonBook$Tape;" ∈ gT := gm 406 (by decide +kernel) (by decide +kernel)
theorem k_407 : Cond.fieldLink RX11 19 "PoisonBook" "bookReader" "LPoisonBook$BookReader;" ∈ gT := gm 407 (by decide +kernel) (by decide +kernel)
theorem k_408 : Cond.fieldLink RX11 26 "PoisonBook" "ruleReader" "LPoisonBook$RuleReader;" ∈ gT := gm 408 (by decide +kernel) (by decide +kernel)
theorem k_409 : Cond.fieldLink RX11 32 "PoisonBook" "rules" "[LPoisonBook$Rule;" ∈ gT := gm 409 (by decide +kernel) (by decide +kernel)
theorem k_410 : Cond.fieldLink RX11 36 "PoisonBook" "ruleCount" "I" ∈ gT := gm 410 (by decide +kernel) (by decide +kernel)
theorem k_411 : Cond.fieldLink RX11 43 "PoisonBook" "scene" "LPoisonBook$Scene;" ∈ gT := gm 411 (by decide +kernel) (by decide +kernel)
theorem k_412 : Cond.fieldLink RX11 51 "PoisonBook" "shop" "LPoisonBook$Shop;" ∈ gT := gm 412 (by decide +kernel) (by decide +kernel)
theorem k_413 : Cond.fieldLink RX11 57 "PoisonBook" "past" "LPoisonBook$Past;" ∈ gT := gm 413 (by decide +kernel) (by decide +kernel)
theorem k_414 : Cond.fieldLink RX11 61 "PoisonBook" "images" "[LPoisonBook$Scene;" ∈ gT := gm 414 (by decide +kernel) (by decide +kernel)
theorem k_415 : Cond.fieldLink RX11 68 "PoisonBook" "outlook" "LPoisonBook$Outlook;" ∈ gT := gm 415 (by decide +kernel) (by decide +kernel)
theorem k_416 : Cond.fieldLink RX11 75 "PoisonBook" "choices" "LPoisonBook$Choices;" ∈ gT := gm 416 (by decide +kernel) (by decide +kernel)
theorem k_417 : Cond.fieldLink RX11 82 "PoisonBook" "inquiry" "LPoisonBook$Inquiry;" ∈ gT := gm 417 (by decide +kernel) (by decide +kernel)
theorem k_443 : Cond.methodLink RL 13 yX11_feed ∈ gT := gm 443 (by decide +kernel) (by decide +kernel)
theorem k_444 : Cond.instanceMethod yX11_feed ∈ gT := gm 444 (by decide +kernel) (by decide +kernel)
theorem k_445 : Cond.selects RX11 yX11_feed yX11_feed ∈ gT := gm 445 (by decide +kernel) (by decide +kernel)
set_option maxRecDepth 100000 in
theorem k_446 : Cond.code yX11_feed cX11_feed 6 (some .int) ∈ gT := gm 446 (rfl) (by decide +kernel)
theorem k_447 : Cond.methodLink RX11 86 yX10_hasRoom ∈ gT := gm 447 (by decide +kernel) (by decide +kernel)
theorem k_448 : Cond.instanceMethod yX10_hasRoom ∈ gT := gm 448 (by decide +kernel) (by decide +kernel)
theorem k_449 : Cond.selects RX10 yX10_hasRoom yX10_hasRoom ∈ gT := gm 449 (by decide +kernel) (by decide +kernel)
set_option maxRecDepth 100000 in
theorem k_450 : Cond.code yX10_hasRoom cX10_hasRoom 1 (some .boolean) ∈ gT := gm 450 (rfl) (by decide +kernel)
theorem k_451 : Cond.methodLink RX11 90 yX10_add ∈ gT := gm 451 (by decide +kernel) (by decide +kernel)
theorem k_452 : Cond.instanceMethod yX10_add ∈ gT := gm 452 (by decide +kernel) (by decide +kernel)
theorem k_453 : Cond.selects RX10 yX10_add yX10_add ∈ gT := gm 453 (by decide +kernel) (by decide +kernel)
set_option maxRecDepth 100000 in
theorem k_454 : Cond.code yX10_add cX10_add 3 none ∈ gT := gm 454 (rfl) (by decide +kernel)
theorem k_455 : Cond.methodLink RL 18 yX11_end ∈ gT := gm 455 (by decide +kernel) (by decide +kernel)
theorem k_456 : Cond.instanceMethod yX11_end ∈ gT := gm 456 (by decide +kernel) (by decide +kernel)
theorem k_457 : Cond.selects RX11 yX11_end yX11_end ∈ gT := gm 457 (by decide +kernel) (by decide +kernel)
set_option maxRecDepth 100000 in
theorem k_458 : Cond.code yX11_end cX11_end 2 (some .int) ∈ gT := gm 458 (rfl) (by decide +kernel)
theorem k_459 : Cond.methodLink RL 23 yX11_book ∈ gT := gm 459 (by decide +kernel) (by decide +kernel)
theorem k_460 : Cond.instanceMethod yX11_book ∈ gT := gm 460 (by decide +kernel) (by decide +kernel)
theorem k_461 : Cond.selects RX11 yX11_book yX11_book ∈ gT := gm 461 (by decide +kernel) (by decide +kernel)
set_option maxRecDepth 100000 in
theorem k_462 : Cond.code yX11_book cX11_book 2 (some .int) ∈ gT := gm 462 (rfl) (by decide +kernel)
theorem k_463 : Cond.methodLink RX11 97 yX0_read ∈ gT := gm 463 (by decide +kernel) (by decide +kernel)
theorem k_464 : Cond.instanceMethod yX0_read ∈ gT := gm 464 (by decide +kernel) (by decide +kernel)
theorem k_465 : Cond.selects RX0 yX0_read yX0_read ∈ gT := gm 465 (by decide +kernel) (by decide +kernel)
set_option maxRecDepth 100000 in
theorem k_466 : Cond.code yX0_read cX0_read 3 (some .int) ∈ gT := gm 466 (rfl) (by decide +kernel)
theorem k_467 : Cond.methodLink RX0 18 yX9_clear ∈ gT := gm 467 (by decide +kernel) (by decide +kernel)
theorem k_468 : Cond.instanceMethod yX9_clear ∈ gT := gm 468 (by decide +kernel) (by decide +kernel)
theorem k_469 : Cond.selects RX9 yX9_clear yX9_clear ∈ gT := gm 469 (by decide +kernel) (by decide +kernel)
set_option maxRecDepth 100000 in
theorem k_470 : Cond.code yX9_clear cX9_clear 2 none ∈ gT := gm 470 (rfl) (by decide +kernel)
theorem k_471 : Cond.methodLink RX0 21 yX10_begin ∈ gT := gm 471 (by decide +kernel) (by decide +kernel)
theorem k_472 : Cond.instanceMethod yX10_begin ∈ gT := gm 472 (by decide +kernel) (by decide +kernel)
theorem k_473 : Cond.selects RX10 yX10_begin yX10_begin ∈ gT := gm 473 (by decide +kernel) (by decide +kernel)
set_option maxRecDepth 100000 in
theorem k_474 : Cond.code yX10_begin cX10_begin 1 none ∈ gT := gm 474 (rfl) (by decide +kernel)
theorem k_475 : Cond.methodLink RX10 31 yX10_step ∈ gT := gm 475 (by decide +kernel) (by decide +kernel)
theorem k_476 : Cond.instanceMethod yX10_step ∈ gT := gm 476 (by decide +kernel) (by decide +kernel)
theorem k_477 : Cond.selects RX10 yX10_step yX10_step ∈ gT := gm 477 (by decide +kernel) (by decide +kernel)
set_option maxRecDepth 100000 in
theorem k_478 : Cond.code yX10_step cX10_step 2 none ∈ gT := gm 478 (rfl) (by decide +kernel)
theorem k_479 : Cond.methodLink RX10 34 yX10_byteAt ∈ gT := gm 479 (by decide +kernel) (by decide +kernel)
theorem k_481 : Cond.instanceMethod yX10_byteAt ∈ gT := gm 481 (by decide +kernel) (by decide +kernel)
set_option maxRecDepth 100000 in
theorem k_482 : Cond.code yX10_byteAt cX10_byteAt 2 (some .int) ∈ gT := gm 482 (rfl) (by decide +kernel)
theorem k_483 : Cond.methodLink RX10 38 yX10_isLetter ∈ gT := gm 483 (by decide +kernel) (by decide +kernel)
theorem k_484 : Cond.static yX10_isLetter ∈ gT := gm 484 (by decide +kernel) (by decide +kernel)
set_option maxRecDepth 100000 in
theorem k_485 : Cond.code yX10_isLetter cX10_isLetter 1 (some .boolean) ∈ gT := gm 485 (rfl) (by decide +kernel)
theorem k_486 : Cond.methodLink RX10 42 yX10_isDigit ∈ gT := gm 486 (by decide +kernel) (by decide +kernel)
theorem k_487 : Cond.static yX10_isDigit ∈ gT := gm 487 (by decide +kernel) (by decide +kernel)
set_option maxRecDepth 100000 in
theorem k_488 : Cond.code yX10_isDigit cX10_isDigit 1 (some .boolean) ∈ gT := gm 488 (rfl) (by decide +kernel)
theorem k_489 : Cond.methodLink RX0 26 yX10_takes ∈ gT := gm 489 (by decide +kernel) (by decide +kernel)
theorem k_490 : Cond.instanceMethod yX10_takes ∈ gT := gm 490 (by decide +kernel) (by decide +kernel)
theorem k_491 : Cond.selects RX10 yX10_takes yX10_takes ∈ gT := gm 491 (by decide +kernel) (by decide +kernel)
set_option maxRecDepth 100000 in
theorem k_492 : Cond.code yX10_takes cX10_takes 2 (some .boolean) ∈ gT := gm 492 (rfl) (by decide +kernel)
theorem k_493 : Cond.methodLink RX0 30 yX0_readClause ∈ gT := gm 493 (by decide +kernel) (by decide +kernel)
theorem k_495 : Cond.instanceMethod yX0_readClause ∈ gT := gm 495 (by decide +kernel) (by decide +kernel)
set_option maxRecDepth 100000 in
theorem k_496 : Cond.code yX0_readClause cX0_readClause 4 none ∈ gT := gm 496 (rfl) (by decide +kernel)
theorem k_498 : Cond.methodLink RX0 43 yX10_wordAmong ∈ gT := gm 498 (by decide +kernel) (by decide +kernel)
theorem k_499 : Cond.instanceMethod yX10_wordAmong ∈ gT := gm 499 (by decide +kernel) (by decide +kernel)
theorem k_500 : Cond.selects RX10 yX10_wordAmong yX10_wordAmong ∈ gT := gm 500 (by decide +kernel) (by decide +kernel)
set_option maxRecDepth 100000 in
theorem k_501 : Cond.code yX10_wordAmong cX10_wordAmong 5 (some .int) ∈ gT := gm 501 (rfl) (by decide +kernel)
theorem k_502 : Cond.methodLink RX10 45 yJ0_length_8abf5 ∈ gT := gm 502 (by decide +kernel) (by decide +kernel)
theorem k_503 : Cond.instanceMethod yJ0_length_8abf5 ∈ gT := gm 503 (by decide +kernel) (by decide +kernel)
theorem k_504 : Cond.selects RJ0 yJ0_length_8abf5 yJ0_length_8abf5 ∈ gT := gm 504 (by decide +kernel) (by decide +kernel)
set_option maxRecDepth 100000 in
theorem k_505 : Cond.code yJ0_length_8abf5 cJ0_length_8abf5 1 (some .int) ∈ gT := gm 505 (rfl) (by decide +kernel)
theorem k_506 : Cond.methodLink RJ0 335 yJ0_coder_7d493 ∈ gT := gm 506 (by decide +kernel) (by decide +kernel)
theorem k_507 : Cond.instanceMethod yJ0_coder_7d493 ∈ gT := gm 507 (by decide +kernel) (by decide +kernel)
theorem k_508 : Cond.selects RJ0 yJ0_coder_7d493 yJ0_coder_7d493 ∈ gT := gm 508 (by decide +kernel) (by decide +kernel)
set_option maxRecDepth 100000 in
theorem k_509 : Cond.code yJ0_coder_7d493 cJ0_coder_7d493 1 (some .byte) ∈ gT := gm 509 (rfl) (by decide +kernel)
theorem k_510 : Cond.fieldLink RJ0 38 "java/lang/String" "COMPACT_STRINGS" "Z" ∈ gT := gm 510 (by decide +kernel) (by decide +kernel)
theorem k_512 : Cond.methodLink RX10 58 yJ0_charAt_5068e ∈ gT := gm 512 (by decide +kernel) (by decide +kernel)
theorem k_513 : Cond.instanceMethod yJ0_charAt_5068e ∈ gT := gm 513 (by decide +kernel) (by decide +kernel)
theorem k_514 : Cond.selects RJ0 yJ0_charAt_5068e yJ0_charAt_5068e ∈ gT := gm 514 (by decide +kernel) (by decide +kernel)
set_option maxRecDepth 100000 in
theorem k_515 : Cond.code yJ0_charAt_5068e cJ0_charAt_5068e 2 (some .char) ∈ gT := gm 515 (rfl) (by decide +kernel)
theorem k_516 : Cond.methodLink RJ0 492 yJ0_isLatin1_aae02 ∈ gT := gm 516 (by decide +kernel) (by decide +kernel)
theorem k_517 : Cond.instanceMethod yJ0_isLatin1_aae02 ∈ gT := gm 517 (by decide +kernel) (by decide +kernel)
theorem k_518 : Cond.selects RJ0 yJ0_isLatin1_aae02 yJ0_isLatin1_aae02 ∈ gT := gm 518 (by decide +kernel) (by decide +kernel)
set_option maxRecDepth 100000 in
theorem k_519 : Cond.code yJ0_isLatin1_aae02 cJ0_isLatin1_aae02 1 (some .boolean) ∈ gT := gm 519 (rfl) (by decide +kernel)
theorem k_520 : Cond.methodLink RJ0 495 yJ1_charAt_3b067 ∈ gT := gm 520 (by decide +kernel) (by decide +kernel)
theorem k_521 : Cond.static yJ1_charAt_3b067 ∈ gT := gm 521 (by decide +kernel) (by decide +kernel)
set_option maxRecDepth 100000 in
theorem k_522 : Cond.code yJ1_charAt_3b067 cJ1_charAt_3b067 2 (some .char) ∈ gT := gm 522 (rfl) (by decide +kernel)
theorem k_523 : Cond.methodLink RJ1 9 yJ0_checkIndex_df160 ∈ gT := gm 523 (by decide +kernel) (by decide +kernel)
theorem k_524 : Cond.static yJ0_checkIndex_df160 ∈ gT := gm 524 (by decide +kernel) (by decide +kernel)
set_option maxRecDepth 100000 in
theorem k_525 : Cond.code yJ0_checkIndex_df160 cJ0_checkIndex_df160 2 none ∈ gT := gm 525 (rfl) (by decide +kernel)
theorem k_526 : Cond.fieldLink RJ0 1053 "jdk/internal/util/Preconditions" "SIOOBE_FORMATTER" "Ljava/util/function/BiFunction;" ∈ gT := gm 526 (by decide +kernel) (by decide +kernel)
theorem k_528 : Cond.methodLink RJ0 1059 yJ3_checkIndex_8e157 ∈ gT := gm 528 (by decide +kernel) (by decide +kernel)
theorem k_529 : Cond.static yJ3_checkIndex_8e157 ∈ gT := gm 529 (by decide +kernel) (by decide +kernel)
set_option maxRecDepth 100000 in
theorem k_530 : Cond.code yJ3_checkIndex_8e157 cJ3_checkIndex_8e157 3 (some .int) ∈ gT := gm 530 (rfl) (by decide +kernel)
theorem k_531 : Cond.methodLink RJ0 498 yJ2_charAt_3b067 ∈ gT := gm 531 (by decide +kernel) (by decide +kernel)
theorem k_532 : Cond.static yJ2_charAt_3b067 ∈ gT := gm 532 (by decide +kernel) (by decide +kernel)
set_option maxRecDepth 100000 in
theorem k_533 : Cond.code yJ2_charAt_3b067 cJ2_charAt_3b067 2 (some .char) ∈ gT := gm 533 (rfl) (by decide +kernel)
theorem k_534 : Cond.methodLink RJ2 67 yJ2_checkIndex_2214a ∈ gT := gm 534 (by decide +kernel) (by decide +kernel)
theorem k_535 : Cond.static yJ2_checkIndex_2214a ∈ gT := gm 535 (by decide +kernel) (by decide +kernel)
set_option maxRecDepth 100000 in
theorem k_536 : Cond.code yJ2_checkIndex_2214a cJ2_checkIndex_2214a 2 none ∈ gT := gm 536 (rfl) (by decide +kernel)
theorem k_537 : Cond.methodLink RJ2 48 yJ2_length_9d52b ∈ gT := gm 537 (by decide +kernel) (by decide +kernel)
theorem k_538 : Cond.static yJ2_length_9d52b ∈ gT := gm 538 (by decide +kernel) (by decide +kernel)
set_option maxRecDepth 100000 in
theorem k_539 : Cond.code yJ2_length_9d52b cJ2_length_9d52b 1 (some .int) ∈ gT := gm 539 (rfl) (by decide +kernel)
theorem k_540 : Cond.methodLink RJ2 414 yJ0_checkIndex_df160 ∈ gT := gm 540 (by decide +kernel) (by decide +kernel)
theorem k_541 : Cond.methodLink RJ2 71 yJ2_getChar_3b067 ∈ gT := gm 541 (by decide +kernel) (by decide +kernel)
theorem k_542 : Cond.static yJ2_getChar_3b067 ∈ gT := gm 542 (by decide +kernel) (by decide +kernel)
set_option maxRecDepth 100000 in
theorem k_543 : Cond.code yJ2_getChar_3b067 cJ2_getChar_3b067 2 (some .char) ∈ gT := gm 543 (rfl) (by decide +kernel)
theorem k_544 : Cond.fieldLink RJ2 44 "java/lang/StringUTF16" "$assertionsDisabled" "Z" ∈ gT := gm 544 (by decide +kernel) (by decide +kernel)
theorem k_546 : Cond.fieldLink RJ2 59 "java/lang/StringUTF16" "HI_BYTE_SHIFT" "I" ∈ gT := gm 546 (by decide +kernel) (by decide +kernel)
theorem k_548 : Cond.fieldLink RJ2 63 "java/lang/StringUTF16" "LO_BYTE_SHIFT" "I" ∈ gT := gm 548 (by decide +kernel) (by decide +kernel)
theorem k_550 : Cond.methodLink RX10 50 yX10_isPartOf ∈ gT := gm 550 (by decide +kernel) (by decide +kernel)
theorem k_552 : Cond.instanceMethod yX10_isPartOf ∈ gT := gm 552 (by decide +kernel) (by decide +kernel)
set_option maxRecDepth 100000 in
theorem k_553 : Cond.code yX10_isPartOf cX10_isPartOf 5 (some .boolean) ∈ gT := gm 553 (rfl) (by decide +kernel)
theorem k_554 : Cond.methodLink RX0 47 yX10_fail ∈ gT := gm 554 (by decide +kernel) (by decide +kernel)
theorem k_555 : Cond.instanceMethod yX10_fail ∈ gT := gm 555 (by decide +kernel) (by decide +kernel)
theorem k_556 : Cond.selects RX10 yX10_fail yX10_fail ∈ gT := gm 556 (by decide +kernel) (by decide +kernel)
set_option maxRecDepth 100000 in
theorem k_557 : Cond.code yX10_fail cX10_fail 2 none ∈ gT := gm 557 (rfl) (by decide +kernel)
theorem k_558 : Cond.methodLink RX0 54 yX10_step ∈ gT := gm 558 (by decide +kernel) (by decide +kernel)
theorem k_559 : Cond.methodLink RX0 57 yX0_readBook ∈ gT := gm 559 (by decide +kernel) (by decide +kernel)
theorem k_561 : Cond.instanceMethod yX0_readBook ∈ gT := gm 561 (by decide +kernel) (by decide +kernel)
set_option maxRecDepth 100000 in
theorem k_562 : Cond.code yX0_readBook cX0_readBook 2 none ∈ gT := gm 562 (rfl) (by decide +kernel)
theorem k_563 : Cond.methodLink RX0 70 yX10_takeNumber ∈ gT := gm 563 (by decide +kernel) (by decide +kernel)
theorem k_564 : Cond.instanceMethod yX10_takeNumber ∈ gT := gm 564 (by decide +kernel) (by decide +kernel)
theorem k_565 : Cond.selects RX10 yX10_takeNumber yX10_takeNumber ∈ gT := gm 565 (by decide +kernel) (by decide +kernel)
set_option maxRecDepth 100000 in
theorem k_566 : Cond.code yX10_takeNumber cX10_takeNumber 4 (some .int) ∈ gT := gm 566 (rfl) (by decide +kernel)
theorem k_567 : Cond.methodLink RX10 66 yX10_numberHere ∈ gT := gm 567 (by decide +kernel) (by decide +kernel)
theorem k_568 : Cond.instanceMethod yX10_numberHere ∈ gT := gm 568 (by decide +kernel) (by decide +kernel)
theorem k_569 : Cond.selects RX10 yX10_numberHere yX10_numberHere ∈ gT := gm 569 (by decide +kernel) (by decide +kernel)
set_option maxRecDepth 100000 in
theorem k_570 : Cond.code yX10_numberHere cX10_numberHere 5 (some .int) ∈ gT := gm 570 (rfl) (by decide +kernel)
theorem k_571 : Cond.methodLink RX10 62 yX10_fail ∈ gT := gm 571 (by decide +kernel) (by decide +kernel)
theorem k_572 : Cond.methodLink RX0 61 yX0_readSky ∈ gT := gm 572 (by decide +kernel) (by decide +kernel)
theorem k_574 : Cond.instanceMethod yX0_readSky ∈ gT := gm 574 (by decide +kernel) (by decide +kernel)
set_option maxRecDepth 100000 in
theorem k_575 : Cond.code yX0_readSky cX0_readSky 4 none ∈ gT := gm 575 (rfl) (by decide +kernel)
theorem k_576 : Cond.methodLink RX0 83 yX9_hasClock ∈ gT := gm 576 (by decide +kernel) (by decide +kernel)
theorem k_577 : Cond.instanceMethod yX9_hasClock ∈ gT := gm 577 (by decide +kernel) (by decide +kernel)
theorem k_578 : Cond.selects RX9 yX9_hasClock yX9_hasClock ∈ gT := gm 578 (by decide +kernel) (by decide +kernel)
set_option maxRecDepth 100000 in
theorem k_579 : Cond.code yX9_hasClock cX9_hasClock 2 (some .boolean) ∈ gT := gm 579 (rfl) (by decide +kernel)
theorem k_580 : Cond.methodLink RX0 64 yX0_readBuyer ∈ gT := gm 580 (by decide +kernel) (by decide +kernel)
theorem k_582 : Cond.instanceMethod yX0_readBuyer ∈ gT := gm 582 (by decide +kernel) (by decide +kernel)
set_option maxRecDepth 100000 in
theorem k_583 : Cond.code yX0_readBuyer cX0_readBuyer 3 none ∈ gT := gm 583 (rfl) (by decide +kernel)
theorem k_584 : Cond.methodLink RX0 67 yX0_readWatch ∈ gT := gm 584 (by decide +kernel) (by decide +kernel)
theorem k_586 : Cond.instanceMethod yX0_readWatch ∈ gT := gm 586 (by decide +kernel) (by decide +kernel)
set_option maxRecDepth 100000 in
theorem k_587 : Cond.code yX0_readWatch cX0_readWatch 4 none ∈ gT := gm 587 (rfl) (by decide +kernel)
theorem k_588 : Cond.methodLink RX0 100 yX9_hasBuyer ∈ gT := gm 588 (by decide +kernel) (by decide +kernel)
theorem k_589 : Cond.instanceMethod yX9_hasBuyer ∈ gT := gm 589 (by decide +kernel) (by decide +kernel)
theorem k_590 : Cond.selects RX9 yX9_hasBuyer yX9_hasBuyer ∈ gT := gm 590 (by decide +kernel) (by decide +kernel)
set_option maxRecDepth 100000 in
theorem k_591 : Cond.code yX9_hasBuyer cX9_hasBuyer 2 (some .boolean) ∈ gT := gm 591 (rfl) (by decide +kernel)
theorem k_592 : Cond.methodLink RX0 34 yX10_finish ∈ gT := gm 592 (by decide +kernel) (by decide +kernel)
theorem k_593 : Cond.instanceMethod yX10_finish ∈ gT := gm 593 (by decide +kernel) (by decide +kernel)
theorem k_594 : Cond.selects RX10 yX10_finish yX10_finish ∈ gT := gm 594 (by decide +kernel) (by decide +kernel)
set_option maxRecDepth 100000 in
theorem k_595 : Cond.code yX10_finish cX10_finish 1 none ∈ gT := gm 595 (rfl) (by decide +kernel)
theorem k_596 : Cond.methodLink RX11 105 yX9_copyFrom ∈ gT := gm 596 (by decide +kernel) (by decide +kernel)
theorem k_597 : Cond.instanceMethod yX9_copyFrom ∈ gT := gm 597 (by decide +kernel) (by decide +kernel)
theorem k_598 : Cond.selects RX9 yX9_copyFrom yX9_copyFrom ∈ gT := gm 598 (by decide +kernel) (by decide +kernel)
set_option maxRecDepth 100000 in
theorem k_599 : Cond.code yX9_copyFrom cX9_copyFrom 2 none ∈ gT := gm 599 (rfl) (by decide +kernel)
theorem k_600 : Cond.methodLink RX9 55 arraycopyName ∈ gT := gm 600 (by decide +kernel) (by decide +kernel)
theorem k_601 : Cond.static arraycopyName ∈ gT := gm 601 (by decide +kernel) (by decide +kernel)
theorem k_602 : Cond.native arraycopyName ∈ gT := gm 602 (by decide +kernel) (by decide +kernel)
theorem k_603 : Cond.arrayClass .byte ∈ gT := gm 603 (by decide +kernel) (by decide +kernel)
theorem k_604 : Cond.methodLink RL 28 yX11_rule ∈ gT := gm 604 (by decide +kernel) (by decide +kernel)
theorem k_605 : Cond.instanceMethod yX11_rule ∈ gT := gm 605 (by decide +kernel) (by decide +kernel)
theorem k_606 : Cond.selects RX11 yX11_rule yX11_rule ∈ gT := gm 606 (by decide +kernel) (by decide +kernel)
set_option maxRecDepth 100000 in
theorem k_607 : Cond.code yX11_rule cX11_rule 2 (some .int) ∈ gT := gm 607 (rfl) (by decide +kernel)
theorem k_608 : Cond.methodLink RX11 124 yX7_read ∈ gT := gm 608 (by decide +kernel) (by decide +kernel)
theorem k_609 : Cond.instanceMethod yX7_read ∈ gT := gm 609 (by decide +kernel) (by decide +kernel)
theorem k_610 : Cond.selects RX7 yX7_read yX7_read ∈ gT := gm 610 (by decide +kernel) (by decide +kernel)
set_option maxRecDepth 100000 in
theorem k_611 : Cond.code yX7_read cX7_read 3 (some (.object "PoisonBook$Rule")) ∈ gT := gm 611 (rfl) (by decide +kernel)
theorem k_612 : Cond.methodLink RX7 22 yX10_begin ∈ gT := gm 612 (by decide +kernel) (by decide +kernel)
theorem k_613 : Cond.methodLink RX7 27 yX10_takes ∈ gT := gm 613 (by decide +kernel) (by decide +kernel)
theorem k_615 : Cond.methodLink RX7 33 yX10_isWord ∈ gT := gm 615 (by decide +kernel) (by decide +kernel)
theorem k_616 : Cond.instanceMethod yX10_isWord ∈ gT := gm 616 (by decide +kernel) (by decide +kernel)
theorem k_617 : Cond.selects RX10 yX10_isWord yX10_isWord ∈ gT := gm 617 (by decide +kernel) (by decide +kernel)
set_option maxRecDepth 100000 in
theorem k_618 : Cond.code yX10_isWord cX10_isWord 2 (some .boolean) ∈ gT := gm 618 (rfl) (by decide +kernel)
theorem k_619 : Cond.methodLink RX7 37 yX10_fail ∈ gT := gm 619 (by decide +kernel) (by decide +kernel)
theorem k_620 : Cond.methodLink RX7 41 yX10_step ∈ gT := gm 620 (by decide +kernel) (by decide +kernel)
theorem k_621 : Cond.methodLink RX7 44 yX7_readSum ∈ gT := gm 621 (by decide +kernel) (by decide +kernel)
theorem k_623 : Cond.instanceMethod yX7_readSum ∈ gT := gm 623 (by decide +kernel) (by decide +kernel)
set_option maxRecDepth 100000 in
theorem k_624 : Cond.code yX7_readSum cX7_readSum 5 none ∈ gT := gm 624 (rfl) (by decide +kernel)
theorem k_625 : Cond.methodLink RX7 96 yX7_readValue ∈ gT := gm 625 (by decide +kernel) (by decide +kernel)
theorem k_627 : Cond.instanceMethod yX7_readValue ∈ gT := gm 627 (by decide +kernel) (by decide +kernel)
set_option maxRecDepth 100000 in
theorem k_628 : Cond.code yX7_readValue cX7_readValue 4 none ∈ gT := gm 628 (rfl) (by decide +kernel)
theorem k_629 : Cond.methodLink RX7 102 yX10_isDigit ∈ gT := gm 629 (by decide +kernel) (by decide +kernel)
theorem k_630 : Cond.constant RX7 106 (99999) ∈ gT := gm 630 (by decide +kernel) (by decide +kernel)
theorem k_631 : Cond.methodLink RX7 107 yX10_numberHere ∈ gT := gm 631 (by decide +kernel) (by decide +kernel)
theorem k_633 : Cond.methodLink RX7 113 yX10_wordAmong ∈ gT := gm 633 (by decide +kernel) (by decide +kernel)
theorem k_634 : Cond.constant RX7 117 (100000) ∈ gT := gm 634 (by decide +kernel) (by decide +kernel)
theorem k_635 : Cond.methodLink RX7 93 yX7_countOne ∈ gT := gm 635 (by decide +kernel) (by decide +kernel)
theorem k_637 : Cond.instanceMethod yX7_countOne ∈ gT := gm 637 (by decide +kernel) (by decide +kernel)
set_option maxRecDepth 100000 in
theorem k_638 : Cond.code yX7_countOne cX7_countOne 2 none ∈ gT := gm 638 (rfl) (by decide +kernel)
theorem k_639 : Cond.methodLink RX7 59 yX7_put ∈ gT := gm 639 (by decide +kernel) (by decide +kernel)
theorem k_641 : Cond.instanceMethod yX7_put ∈ gT := gm 641 (by decide +kernel) (by decide +kernel)
set_option maxRecDepth 100000 in
theorem k_642 : Cond.code yX7_put cX7_put 2 none ∈ gT := gm 642 (rfl) (by decide +kernel)
theorem k_643 : Cond.methodLink RX7 99 yX7_arithmetic ∈ gT := gm 643 (by decide +kernel) (by decide +kernel)
theorem k_644 : Cond.static yX7_arithmetic ∈ gT := gm 644 (by decide +kernel) (by decide +kernel)
set_option maxRecDepth 100000 in
theorem k_645 : Cond.code yX7_arithmetic cX7_arithmetic 1 (some .int) ∈ gT := gm 645 (rfl) (by decide +kernel)
theorem k_647 : Cond.methodLink RX7 50 yX10_takesWord ∈ gT := gm 647 (by decide +kernel) (by decide +kernel)
theorem k_648 : Cond.instanceMethod yX10_takesWord ∈ gT := gm 648 (by decide +kernel) (by decide +kernel)
theorem k_649 : Cond.selects RX10 yX10_takesWord yX10_takesWord ∈ gT := gm 649 (by decide +kernel) (by decide +kernel)
set_option maxRecDepth 100000 in
theorem k_650 : Cond.code yX10_takesWord cX10_takesWord 2 (some .boolean) ∈ gT := gm 650 (rfl) (by decide +kernel)
theorem k_651 : Cond.methodLink RX10 54 yX10_isWord ∈ gT := gm 651 (by decide +kernel) (by decide +kernel)
theorem k_652 : Cond.methodLink RX7 53 yX7_readTest ∈ gT := gm 652 (by decide +kernel) (by decide +kernel)
theorem k_654 : Cond.instanceMethod yX7_readTest ∈ gT := gm 654 (by decide +kernel) (by decide +kernel)
set_option maxRecDepth 100000 in
theorem k_655 : Cond.code yX7_readTest cX7_readTest 6 none ∈ gT := gm 655 (rfl) (by decide +kernel)
theorem k_656 : Cond.methodLink RX7 77 yX7_readFact ∈ gT := gm 656 (by decide +kernel) (by decide +kernel)
theorem k_658 : Cond.instanceMethod yX7_readFact ∈ gT := gm 658 (by decide +kernel) (by decide +kernel)
set_option maxRecDepth 100000 in
theorem k_659 : Cond.code yX7_readFact cX7_readFact 5 none ∈ gT := gm 659 (rfl) (by decide +kernel)
theorem k_661 : Cond.methodLink RX7 89 yX7_comparison ∈ gT := gm 661 (by decide +kernel) (by decide +kernel)
theorem k_662 : Cond.static yX7_comparison ∈ gT := gm 662 (by decide +kernel) (by decide +kernel)
set_option maxRecDepth 100000 in
theorem k_663 : Cond.code yX7_comparison cX7_comparison 2 (some .int) ∈ gT := gm 663 (rfl) (by decide +kernel)
theorem k_666 : Cond.methodLink RX7 62 yX10_finish ∈ gT := gm 666 (by decide +kernel) (by decide +kernel)
theorem k_667 : Cond.classLink RX7 57 RX6 ∈ gT := gm 667 (by decide +kernel) (by decide +kernel)
theorem k_668 : Cond.instantiable RX6 2 ∈ gT := gm 668 (by decide +kernel) (by decide +kernel)
theorem k_669 : Cond.methodLink RX7 68 yJ7_copyOf_59c91 ∈ gT := gm 669 (by decide +kernel) (by decide +kernel)
theorem k_670 : Cond.static yJ7_copyOf_59c91 ∈ gT := gm 670 (by decide +kernel) (by decide +kernel)
set_option maxRecDepth 100000 in
theorem k_671 : Cond.code yJ7_copyOf_59c91 cJ7_copyOf_59c91 3 (some (.array .int)) ∈ gT := gm 671 (rfl) (by decide +kernel)
theorem k_672 : Cond.methodLink RJ7 316 (⟨"[I", "clone", "()Ljava/lang/Object;"⟩ : MethodName) ∈ gT := gm 672 (by decide +kernel) (by decide +kernel)
theorem k_674 : Cond.native (⟨"java/lang/Object", "clone", "()Ljava/lang/Object;"⟩ : MethodName) ∈ gT := gm 674 (by decide +kernel) (by decide +kernel)
theorem k_675 : Cond.instanceMethod (⟨"java/lang/Object", "clone", "()Ljava/lang/Object;"⟩ : MethodName) ∈ gT := gm 675 (by decide +kernel) (by decide +kernel)
theorem k_676 : Cond.selects "[I" (⟨"[I", "clone", "()Ljava/lang/Object;"⟩ : MethodName) (⟨"java/lang/Object", "clone", "()Ljava/lang/Object;"⟩ : MethodName) ∈ gT := gm 676 (by decide +kernel) (by decide +kernel)
theorem k_678 : Cond.classLink RJ7 317 "[I" ∈ gT := gm 678 (by decide +kernel) (by decide +kernel)
theorem k_679 : Cond.methodLink RJ7 304 yJ9_min_7cf53 ∈ gT := gm 679 (by decide +kernel) (by decide +kernel)
theorem k_680 : Cond.static yJ9_min_7cf53 ∈ gT := gm 680 (by decide +kernel) (by decide +kernel)
set_option maxRecDepth 100000 in
theorem k_681 : Cond.code yJ9_min_7cf53 cJ9_min_7cf53 2 (some .int) ∈ gT := gm 681 (rfl) (by decide +kernel)
theorem k_682 : Cond.methodLink RJ7 150 arraycopyName ∈ gT := gm 682 (by decide +kernel) (by decide +kernel)
theorem k_683 : Cond.methodLink RX7 74 yX6_init ∈ gT := gm 683 (by decide +kernel) (by decide +kernel)
theorem k_684 : Cond.instanceMethod yX6_init ∈ gT := gm 684 (by decide +kernel) (by decide +kernel)
set_option maxRecDepth 100000 in
theorem k_685 : Cond.code yX6_init cX6_init 2 none ∈ gT := gm 685 (rfl) (by decide +kernel)
theorem k_686 : Cond.methodLink RX6 1 objectInit ∈ gT := gm 686 (by decide +kernel) (by decide +kernel)
theorem k_687 : Cond.fieldLink RX6 13 "PoisonBook$Rule" "code" "[I" ∈ gT := gm 687 (by decide +kernel) (by decide +kernel)
theorem k_688 : Cond.fieldLink RX6 9 "PoisonBook$Rule" "held" "[J" ∈ gT := gm 688 (by decide +kernel) (by decide +kernel)
theorem k_694 : Cond.methodLink RL 32 yX11_force ∈ gT := gm 694 (by decide +kernel) (by decide +kernel)
theorem k_695 : Cond.instanceMethod yX11_force ∈ gT := gm 695 (by decide +kernel) (by decide +kernel)
theorem k_696 : Cond.selects RX11 yX11_force yX11_force ∈ gT := gm 696 (by decide +kernel) (by decide +kernel)
set_option maxRecDepth 100000 in
theorem k_697 : Cond.code yX11_force cX11_force 3 (some .int) ∈ gT := gm 697 (rfl) (by decide +kernel)
theorem k_698 : Cond.methodLink RL 36 yX11_buyer ∈ gT := gm 698 (by decide +kernel) (by decide +kernel)
theorem k_699 : Cond.instanceMethod yX11_buyer ∈ gT := gm 699 (by decide +kernel) (by decide +kernel)
theorem k_700 : Cond.selects RX11 yX11_buyer yX11_buyer ∈ gT := gm 700 (by decide +kernel) (by decide +kernel)
set_option maxRecDepth 100000 in
theorem k_701 : Cond.code yX11_buyer cX11_buyer 3 (some .int) ∈ gT := gm 701 (rfl) (by decide +kernel)
theorem k_702 : Cond.methodLink RX11 133 yX9_hasBuyer ∈ gT := gm 702 (by decide +kernel) (by decide +kernel)
theorem k_703 : Cond.methodLink RX11 153 yX9_daysSince ∈ gT := gm 703 (by decide +kernel) (by decide +kernel)
theorem k_704 : Cond.instanceMethod yX9_daysSince ∈ gT := gm 704 (by decide +kernel) (by decide +kernel)
theorem k_705 : Cond.selects RX9 yX9_daysSince yX9_daysSince ∈ gT := gm 705 (by decide +kernel) (by decide +kernel)
set_option maxRecDepth 100000 in
theorem k_706 : Cond.code yX9_daysSince cX9_daysSince 2 (some .int) ∈ gT := gm 706 (rfl) (by decide +kernel)
theorem k_707 : Cond.methodLink RX9 61 yX9_hasBuyer ∈ gT := gm 707 (by decide +kernel) (by decide +kernel)
theorem k_708 : Cond.methodLink RX11 157 yJ9_min_7cf53 ∈ gT := gm 708 (by decide +kernel) (by decide +kernel)
theorem k_709 : Cond.methodLink RL 41 yX11_sky ∈ gT := gm 709 (by decide +kernel) (by decide +kernel)
theorem k_710 : Cond.instanceMethod yX11_sky ∈ gT := gm 710 (by decide +kernel) (by decide +kernel)
theorem k_711 : Cond.selects RX11 yX11_sky yX11_sky ∈ gT := gm 711 (by decide +kernel) (by decide +kernel)
set_option maxRecDepth 100000 in
theorem k_712 : Cond.code yX11_sky cX11_sky 3 (some .int) ∈ gT := gm 712 (rfl) (by decide +kernel)
theorem k_713 : Cond.methodLink RX11 163 yX9_hasClock ∈ gT := gm 713 (by decide +kernel) (by decide +kernel)
theorem k_714 : Cond.methodLink RX11 166 yX11_isWithin ∈ gT := gm 714 (by decide +kernel) (by decide +kernel)
theorem k_715 : Cond.static yX11_isWithin ∈ gT := gm 715 (by decide +kernel) (by decide +kernel)
set_option maxRecDepth 100000 in
theorem k_716 : Cond.code yX11_isWithin cX11_isWithin 3 (some .boolean) ∈ gT := gm 716 (rfl) (by decide +kernel)
theorem k_717 : Cond.methodLink RL 45 yX11_day ∈ gT := gm 717 (by decide +kernel) (by decide +kernel)
theorem k_718 : Cond.instanceMethod yX11_day ∈ gT := gm 718 (by decide +kernel) (by decide +kernel)
theorem k_719 : Cond.selects RX11 yX11_day yX11_day ∈ gT := gm 719 (by decide +kernel) (by decide +kernel)
set_option maxRecDepth 100000 in
theorem k_720 : Cond.code yX11_day cX11_day 1 (some .int) ∈ gT := gm 720 (rfl) (by decide +kernel)
theorem k_721 : Cond.methodLink RX11 176 yX9_isTold ∈ gT := gm 721 (by decide +kernel) (by decide +kernel)
theorem k_722 : Cond.instanceMethod yX9_isTold ∈ gT := gm 722 (by decide +kernel) (by decide +kernel)
theorem k_723 : Cond.selects RX9 yX9_isTold yX9_isTold ∈ gT := gm 723 (by decide +kernel) (by decide +kernel)
set_option maxRecDepth 100000 in
theorem k_724 : Cond.code yX9_isTold cX9_isTold 1 (some .boolean) ∈ gT := gm 724 (rfl) (by decide +kernel)
theorem k_725 : Cond.methodLink RX11 182 yX5_keep ∈ gT := gm 725 (by decide +kernel) (by decide +kernel)
theorem k_726 : Cond.instanceMethod yX5_keep ∈ gT := gm 726 (by decide +kernel) (by decide +kernel)
theorem k_727 : Cond.selects RX5 yX5_keep yX5_keep ∈ gT := gm 727 (by decide +kernel) (by decide +kernel)
set_option maxRecDepth 100000 in
theorem k_728 : Cond.code yX5_keep cX5_keep 3 none ∈ gT := gm 728 (rfl) (by decide +kernel)
theorem k_730 : Cond.methodLink RX5 25 yX9_copyFrom ∈ gT := gm 730 (by decide +kernel) (by decide +kernel)
theorem k_731 : Cond.methodLink RX5 29 yJ9_min_7cf53 ∈ gT := gm 731 (by decide +kernel) (by decide +kernel)
theorem k_732 : Cond.methodLink RX11 185 yX11_ruleInForce ∈ gT := gm 732 (by decide +kernel) (by decide +kernel)
theorem k_734 : Cond.instanceMethod yX11_ruleInForce ∈ gT := gm 734 (by decide +kernel) (by decide +kernel)
set_option maxRecDepth 100000 in
theorem k_735 : Cond.code yX11_ruleInForce cX11_ruleInForce 2 (some (.object "PoisonBook$Rule")) ∈ gT := gm 735 (rfl) (by decide +kernel)
theorem k_736 : Cond.methodLink RX11 189 yX9_goThroughDay ∈ gT := gm 736 (by decide +kernel) (by decide +kernel)
theorem k_737 : Cond.instanceMethod yX9_goThroughDay ∈ gT := gm 737 (by decide +kernel) (by decide +kernel)
theorem k_738 : Cond.selects RX9 yX9_goThroughDay yX9_goThroughDay ∈ gT := gm 738 (by decide +kernel) (by decide +kernel)
set_option maxRecDepth 100000 in
theorem k_739 : Cond.code yX9_goThroughDay cX9_goThroughDay 8 (some .int) ∈ gT := gm 739 (rfl) (by decide +kernel)
theorem k_740 : Cond.methodLink RX9 68 yX9_stillOn ∈ gT := gm 740 (by decide +kernel) (by decide +kernel)
theorem k_741 : Cond.instanceMethod yX9_stillOn ∈ gT := gm 741 (by decide +kernel) (by decide +kernel)
theorem k_742 : Cond.selects RX9 yX9_stillOn yX9_stillOn ∈ gT := gm 742 (by decide +kernel) (by decide +kernel)
set_option maxRecDepth 100000 in
theorem k_743 : Cond.code yX9_stillOn cX9_stillOn 3 (some .int) ∈ gT := gm 743 (rfl) (by decide +kernel)
theorem k_744 : Cond.methodLink RX9 75 yX9_clockOn ∈ gT := gm 744 (by decide +kernel) (by decide +kernel)
theorem k_745 : Cond.instanceMethod yX9_clockOn ∈ gT := gm 745 (by decide +kernel) (by decide +kernel)
theorem k_746 : Cond.selects RX9 yX9_clockOn yX9_clockOn ∈ gT := gm 746 (by decide +kernel) (by decide +kernel)
set_option maxRecDepth 100000 in
theorem k_747 : Cond.code yX9_clockOn cX9_clockOn 2 (some .int) ∈ gT := gm 747 (rfl) (by decide +kernel)
theorem k_748 : Cond.methodLink RX9 84 yX9_hasClock ∈ gT := gm 748 (by decide +kernel) (by decide +kernel)
theorem k_749 : Cond.methodLink RX9 65 yX9_canBuy ∈ gT := gm 749 (by decide +kernel) (by decide +kernel)
theorem k_751 : Cond.instanceMethod yX9_canBuy ∈ gT := gm 751 (by decide +kernel) (by decide +kernel)
set_option maxRecDepth 100000 in
theorem k_752 : Cond.code yX9_canBuy cX9_canBuy 2 (some .boolean) ∈ gT := gm 752 (rfl) (by decide +kernel)
theorem k_753 : Cond.methodLink RX9 87 yX6_sumFor ∈ gT := gm 753 (by decide +kernel) (by decide +kernel)
theorem k_754 : Cond.instanceMethod yX6_sumFor ∈ gT := gm 754 (by decide +kernel) (by decide +kernel)
theorem k_755 : Cond.selects RX6 yX6_sumFor yX6_sumFor ∈ gT := gm 755 (by decide +kernel) (by decide +kernel)
set_option maxRecDepth 100000 in
theorem k_756 : Cond.code yX6_sumFor cX6_sumFor 6 (some .long) ∈ gT := gm 756 (rfl) (by decide +kernel)
theorem k_757 : Cond.constant RX6 17 (100000) ∈ gT := gm 757 (by decide +kernel) (by decide +kernel)
theorem k_758 : Cond.methodLink RX6 18 yX9_wordOf ∈ gT := gm 758 (by decide +kernel) (by decide +kernel)
theorem k_759 : Cond.instanceMethod yX9_wordOf ∈ gT := gm 759 (by decide +kernel) (by decide +kernel)
theorem k_760 : Cond.selects RX9 yX9_wordOf yX9_wordOf ∈ gT := gm 760 (by decide +kernel) (by decide +kernel)
set_option maxRecDepth 100000 in
theorem k_761 : Cond.code yX9_wordOf cX9_wordOf 3 (some .long) ∈ gT := gm 761 (rfl) (by decide +kernel)
theorem k_762 : Cond.methodLink RX9 72 yX9_daysSince ∈ gT := gm 762 (by decide +kernel) (by decide +kernel)
theorem k_763 : Cond.methodLink RX6 24 yX6_joined ∈ gT := gm 763 (by decide +kernel) (by decide +kernel)
theorem k_764 : Cond.static yX6_joined ∈ gT := gm 764 (by decide +kernel) (by decide +kernel)
set_option maxRecDepth 100000 in
theorem k_765 : Cond.code yX6_joined cX6_joined 5 (some .long) ∈ gT := gm 765 (rfl) (by decide +kernel)
theorem k_766 : Cond.methodLink RX6 28 yX6_holds ∈ gT := gm 766 (by decide +kernel) (by decide +kernel)
theorem k_767 : Cond.static yX6_holds ∈ gT := gm 767 (by decide +kernel) (by decide +kernel)
set_option maxRecDepth 100000 in
theorem k_768 : Cond.code yX6_holds cX6_holds 5 (some .boolean) ∈ gT := gm 768 (rfl) (by decide +kernel)
theorem k_769 : Cond.methodLink RX9 93 yX9_handOver ∈ gT := gm 769 (by decide +kernel) (by decide +kernel)
theorem k_770 : Cond.instanceMethod yX9_handOver ∈ gT := gm 770 (by decide +kernel) (by decide +kernel)
theorem k_771 : Cond.selects RX9 yX9_handOver yX9_handOver ∈ gT := gm 771 (by decide +kernel) (by decide +kernel)
set_option maxRecDepth 100000 in
theorem k_772 : Cond.code yX9_handOver cX9_handOver 2 none ∈ gT := gm 772 (rfl) (by decide +kernel)
theorem k_773 : Cond.methodLink RX9 78 yJ9_max_7cf53 ∈ gT := gm 773 (by decide +kernel) (by decide +kernel)
theorem k_774 : Cond.static yJ9_max_7cf53 ∈ gT := gm 774 (by decide +kernel) (by decide +kernel)
set_option maxRecDepth 100000 in
theorem k_775 : Cond.code yJ9_max_7cf53 cJ9_max_7cf53 2 (some .int) ∈ gT := gm 775 (rfl) (by decide +kernel)
theorem k_776 : Cond.methodLink RX9 97 yX9_changeTempers ∈ gT := gm 776 (by decide +kernel) (by decide +kernel)
theorem k_778 : Cond.instanceMethod yX9_changeTempers ∈ gT := gm 778 (by decide +kernel) (by decide +kernel)
set_option maxRecDepth 100000 in
theorem k_779 : Cond.code yX9_changeTempers cX9_changeTempers 4 none ∈ gT := gm 779 (rfl) (by decide +kernel)
theorem k_780 : Cond.methodLink RX9 100 yJ9_min_7cf53 ∈ gT := gm 780 (by decide +kernel) (by decide +kernel)
theorem k_781 : Cond.methodLink RL 49 yX11_sell ∈ gT := gm 781 (by decide +kernel) (by decide +kernel)
theorem k_782 : Cond.instanceMethod yX11_sell ∈ gT := gm 782 (by decide +kernel) (by decide +kernel)
theorem k_783 : Cond.selects RX11 yX11_sell yX11_sell ∈ gT := gm 783 (by decide +kernel) (by decide +kernel)
set_option maxRecDepth 100000 in
theorem k_784 : Cond.code yX11_sell cX11_sell 2 (some .int) ∈ gT := gm 784 (rfl) (by decide +kernel)
theorem k_785 : Cond.methodLink RX11 196 yX9_handOver ∈ gT := gm 785 (by decide +kernel) (by decide +kernel)
theorem k_786 : Cond.methodLink RL 53 yX11_calm ∈ gT := gm 786 (by decide +kernel) (by decide +kernel)
theorem k_787 : Cond.instanceMethod yX11_calm ∈ gT := gm 787 (by decide +kernel) (by decide +kernel)
theorem k_788 : Cond.selects RX11 yX11_calm yX11_calm ∈ gT := gm 788 (by decide +kernel) (by decide +kernel)
set_option maxRecDepth 100000 in
theorem k_789 : Cond.code yX11_calm cX11_calm 3 (some .int) ∈ gT := gm 789 (rfl) (by decide +kernel)
theorem k_790 : Cond.methodLink RL 57 yX11_watch ∈ gT := gm 790 (by decide +kernel) (by decide +kernel)
theorem k_791 : Cond.instanceMethod yX11_watch ∈ gT := gm 791 (by decide +kernel) (by decide +kernel)
theorem k_792 : Cond.selects RX11 yX11_watch yX11_watch ∈ gT := gm 792 (by decide +kernel) (by decide +kernel)
set_option maxRecDepth 100000 in
theorem k_793 : Cond.code yX11_watch cX11_watch 3 (some .int) ∈ gT := gm 793 (rfl) (by decide +kernel)
theorem k_794 : Cond.methodLink RL 61 yX11_change ∈ gT := gm 794 (by decide +kernel) (by decide +kernel)
theorem k_795 : Cond.instanceMethod yX11_change ∈ gT := gm 795 (by decide +kernel) (by decide +kernel)
theorem k_796 : Cond.selects RX11 yX11_change yX11_change ∈ gT := gm 796 (by decide +kernel) (by decide +kernel)
set_option maxRecDepth 100000 in
theorem k_797 : Cond.code yX11_change cX11_change 4 (some .int) ∈ gT := gm 797 (rfl) (by decide +kernel)
theorem k_798 : Cond.methodLink RL 65 yX11_undo ∈ gT := gm 798 (by decide +kernel) (by decide +kernel)
theorem k_799 : Cond.instanceMethod yX11_undo ∈ gT := gm 799 (by decide +kernel) (by decide +kernel)
theorem k_800 : Cond.selects RX11 yX11_undo yX11_undo ∈ gT := gm 800 (by decide +kernel) (by decide +kernel)
set_option maxRecDepth 100000 in
theorem k_801 : Cond.code yX11_undo cX11_undo 1 (some .int) ∈ gT := gm 801 (rfl) (by decide +kernel)
theorem k_802 : Cond.methodLink RX11 199 yX5_giveBack ∈ gT := gm 802 (by decide +kernel) (by decide +kernel)
theorem k_803 : Cond.instanceMethod yX5_giveBack ∈ gT := gm 803 (by decide +kernel) (by decide +kernel)
theorem k_804 : Cond.selects RX5 yX5_giveBack yX5_giveBack ∈ gT := gm 804 (by decide +kernel) (by decide +kernel)
set_option maxRecDepth 100000 in
theorem k_805 : Cond.code yX5_giveBack cX5_giveBack 4 (some .int) ∈ gT := gm 805 (rfl) (by decide +kernel)
theorem k_806 : Cond.methodLink RL 69 yX11_ahead ∈ gT := gm 806 (by decide +kernel) (by decide +kernel)
theorem k_807 : Cond.instanceMethod yX11_ahead ∈ gT := gm 807 (by decide +kernel) (by decide +kernel)
theorem k_808 : Cond.selects RX11 yX11_ahead yX11_ahead ∈ gT := gm 808 (by decide +kernel) (by decide +kernel)
set_option maxRecDepth 100000 in
theorem k_809 : Cond.code yX11_ahead cX11_ahead 4 (some .int) ∈ gT := gm 809 (rfl) (by decide +kernel)
theorem k_810 : Cond.methodLink RX11 203 yX4_aheadOf ∈ gT := gm 810 (by decide +kernel) (by decide +kernel)
theorem k_811 : Cond.instanceMethod yX4_aheadOf ∈ gT := gm 811 (by decide +kernel) (by decide +kernel)
theorem k_812 : Cond.selects RX4 yX4_aheadOf yX4_aheadOf ∈ gT := gm 812 (by decide +kernel) (by decide +kernel)
set_option maxRecDepth 100000 in
theorem k_813 : Cond.code yX4_aheadOf cX4_aheadOf 6 (some .int) ∈ gT := gm 813 (rfl) (by decide +kernel)
theorem k_814 : Cond.methodLink RX4 26 yX9_copyFrom ∈ gT := gm 814 (by decide +kernel) (by decide +kernel)
theorem k_815 : Cond.methodLink RX4 30 yX9_soldWithin ∈ gT := gm 815 (by decide +kernel) (by decide +kernel)
theorem k_816 : Cond.instanceMethod yX9_soldWithin ∈ gT := gm 816 (by decide +kernel) (by decide +kernel)
theorem k_817 : Cond.selects RX9 yX9_soldWithin yX9_soldWithin ∈ gT := gm 817 (by decide +kernel) (by decide +kernel)
set_option maxRecDepth 100000 in
theorem k_818 : Cond.code yX9_soldWithin cX9_soldWithin 5 (some .int) ∈ gT := gm 818 (rfl) (by decide +kernel)
theorem k_819 : Cond.methodLink RX9 103 yX9_goThroughDay ∈ gT := gm 819 (by decide +kernel) (by decide +kernel)
theorem k_820 : Cond.methodLink RX4 38 yX9_hasBuyer ∈ gT := gm 820 (by decide +kernel) (by decide +kernel)
theorem k_821 : Cond.methodLink RL 74 yX11_buys ∈ gT := gm 821 (by decide +kernel) (by decide +kernel)
theorem k_822 : Cond.instanceMethod yX11_buys ∈ gT := gm 822 (by decide +kernel) (by decide +kernel)
theorem k_823 : Cond.selects RX11 yX11_buys yX11_buys ∈ gT := gm 823 (by decide +kernel) (by decide +kernel)
set_option maxRecDepth 100000 in
theorem k_824 : Cond.code yX11_buys cX11_buys 2 (some .int) ∈ gT := gm 824 (rfl) (by decide +kernel)
theorem k_825 : Cond.methodLink RX11 207 yX4_firstPurchase ∈ gT := gm 825 (by decide +kernel) (by decide +kernel)
theorem k_826 : Cond.instanceMethod yX4_firstPurchase ∈ gT := gm 826 (by decide +kernel) (by decide +kernel)
theorem k_827 : Cond.selects RX4 yX4_firstPurchase yX4_firstPurchase ∈ gT := gm 827 (by decide +kernel) (by decide +kernel)
set_option maxRecDepth 100000 in
theorem k_828 : Cond.code yX4_firstPurchase cX4_firstPurchase 5 (some .int) ∈ gT := gm 828 (rfl) (by decide +kernel)
theorem k_829 : Cond.methodLink RX4 49 yX9_goThroughDay ∈ gT := gm 829 (by decide +kernel) (by decide +kernel)
theorem k_830 : Cond.methodLink RL 78 yX11_empty ∈ gT := gm 830 (by decide +kernel) (by decide +kernel)
theorem k_831 : Cond.instanceMethod yX11_empty ∈ gT := gm 831 (by decide +kernel) (by decide +kernel)
theorem k_832 : Cond.selects RX11 yX11_empty yX11_empty ∈ gT := gm 832 (by decide +kernel) (by decide +kernel)
set_option maxRecDepth 100000 in
theorem k_833 : Cond.code yX11_empty cX11_empty 1 (some .int) ∈ gT := gm 833 (rfl) (by decide +kernel)
theorem k_834 : Cond.methodLink RX11 211 yX4_firstEmptyShelf ∈ gT := gm 834 (by decide +kernel) (by decide +kernel)
theorem k_835 : Cond.instanceMethod yX4_firstEmptyShelf ∈ gT := gm 835 (by decide +kernel) (by decide +kernel)
theorem k_836 : Cond.selects RX4 yX4_firstEmptyShelf yX4_firstEmptyShelf ∈ gT := gm 836 (by decide +kernel) (by decide +kernel)
set_option maxRecDepth 100000 in
theorem k_837 : Cond.code yX4_firstEmptyShelf cX4_firstEmptyShelf 4 (some .int) ∈ gT := gm 837 (rfl) (by decide +kernel)
theorem k_838 : Cond.methodLink RL 82 yX11_tells ∈ gT := gm 838 (by decide +kernel) (by decide +kernel)
theorem k_839 : Cond.instanceMethod yX11_tells ∈ gT := gm 839 (by decide +kernel) (by decide +kernel)
theorem k_840 : Cond.selects RX11 yX11_tells yX11_tells ∈ gT := gm 840 (by decide +kernel) (by decide +kernel)
set_option maxRecDepth 100000 in
theorem k_841 : Cond.code yX11_tells cX11_tells 3 (some .int) ∈ gT := gm 841 (rfl) (by decide +kernel)
theorem k_842 : Cond.methodLink RX11 215 yX4_weatherFraction ∈ gT := gm 842 (by decide +kernel) (by decide +kernel)
theorem k_843 : Cond.instanceMethod yX4_weatherFraction ∈ gT := gm 843 (by decide +kernel) (by decide +kernel)
theorem k_844 : Cond.selects RX4 yX4_weatherFraction yX4_weatherFraction ∈ gT := gm 844 (by decide +kernel) (by decide +kernel)
set_option maxRecDepth 100000 in
theorem k_845 : Cond.code yX4_weatherFraction cX4_weatherFraction 10 (some .int) ∈ gT := gm 845 (rfl) (by decide +kernel)
theorem k_846 : Cond.methodLink RX4 56 yX9_stillOn ∈ gT := gm 846 (by decide +kernel) (by decide +kernel)
theorem k_847 : Cond.methodLink RX4 60 yJ6_bitCount_0f7a4 ∈ gT := gm 847 (by decide +kernel) (by decide +kernel)
theorem k_848 : Cond.static yJ6_bitCount_0f7a4 ∈ gT := gm 848 (by decide +kernel) (by decide +kernel)
set_option maxRecDepth 100000 in
theorem k_849 : Cond.code yJ6_bitCount_0f7a4 cJ6_bitCount_0f7a4 1 (some .int) ∈ gT := gm 849 (rfl) (by decide +kernel)
theorem k_850 : Cond.constant RJ6 265 (1431655765) ∈ gT := gm 850 (by decide +kernel) (by decide +kernel)
theorem k_851 : Cond.constant RJ6 266 (858993459) ∈ gT := gm 851 (by decide +kernel) (by decide +kernel)
theorem k_852 : Cond.constant RJ6 267 (252645135) ∈ gT := gm 852 (by decide +kernel) (by decide +kernel)
theorem k_853 : Cond.methodLink RX4 65 yX4_commonDivisor ∈ gT := gm 853 (by decide +kernel) (by decide +kernel)
theorem k_854 : Cond.static yX4_commonDivisor ∈ gT := gm 854 (by decide +kernel) (by decide +kernel)
set_option maxRecDepth 100000 in
theorem k_855 : Cond.code yX4_commonDivisor cX4_commonDivisor 6 (some .int) ∈ gT := gm 855 (rfl) (by decide +kernel)
theorem k_856 : Cond.methodLink RX4 69 yJ9_max_7cf53 ∈ gT := gm 856 (by decide +kernel) (by decide +kernel)
theorem k_857 : Cond.methodLink RL 86 yX11_guard ∈ gT := gm 857 (by decide +kernel) (by decide +kernel)
theorem k_858 : Cond.instanceMethod yX11_guard ∈ gT := gm 858 (by decide +kernel) (by decide +kernel)
theorem k_859 : Cond.selects RX11 yX11_guard yX11_guard ∈ gT := gm 859 (by decide +kernel) (by decide +kernel)
set_option maxRecDepth 100000 in
theorem k_860 : Cond.code yX11_guard cX11_guard 4 (some .int) ∈ gT := gm 860 (rfl) (by decide +kernel)
theorem k_861 : Cond.methodLink RX11 219 yX1_smallestGuard ∈ gT := gm 861 (by decide +kernel) (by decide +kernel)
theorem k_862 : Cond.instanceMethod yX1_smallestGuard ∈ gT := gm 862 (by decide +kernel) (by decide +kernel)
theorem k_863 : Cond.selects RX1 yX1_smallestGuard yX1_smallestGuard ∈ gT := gm 863 (by decide +kernel) (by decide +kernel)
set_option maxRecDepth 100000 in
theorem k_864 : Cond.code yX1_smallestGuard cX1_smallestGuard 7 (some .int) ∈ gT := gm 864 (rfl) (by decide +kernel)
theorem k_865 : Cond.methodLink RX1 25 yX1_clockOfPurchase ∈ gT := gm 865 (by decide +kernel) (by decide +kernel)
theorem k_867 : Cond.instanceMethod yX1_clockOfPurchase ∈ gT := gm 867 (by decide +kernel) (by decide +kernel)
set_option maxRecDepth 100000 in
theorem k_868 : Cond.code yX1_clockOfPurchase cX1_clockOfPurchase 6 (some .int) ∈ gT := gm 868 (rfl) (by decide +kernel)
theorem k_869 : Cond.methodLink RX1 29 yX9_copyFrom ∈ gT := gm 869 (by decide +kernel) (by decide +kernel)
theorem k_870 : Cond.methodLink RX1 36 yX9_everybody ∈ gT := gm 870 (by decide +kernel) (by decide +kernel)
theorem k_871 : Cond.instanceMethod yX9_everybody ∈ gT := gm 871 (by decide +kernel) (by decide +kernel)
theorem k_872 : Cond.selects RX9 yX9_everybody yX9_everybody ∈ gT := gm 872 (by decide +kernel) (by decide +kernel)
set_option maxRecDepth 100000 in
theorem k_873 : Cond.code yX9_everybody cX9_everybody 1 (some .int) ∈ gT := gm 873 (rfl) (by decide +kernel)
theorem k_874 : Cond.methodLink RX1 40 yX9_goThroughDay ∈ gT := gm 874 (by decide +kernel) (by decide +kernel)
theorem k_875 : Cond.methodLink RX1 48 yX9_clockOn ∈ gT := gm 875 (by decide +kernel) (by decide +kernel)
theorem k_876 : Cond.methodLink RX11 222 yJ6_bitCount_0f7a4 ∈ gT := gm 876 (by decide +kernel) (by decide +kernel)
theorem k_877 : Cond.methodLink RL 90 yX11_best ∈ gT := gm 877 (by decide +kernel) (by decide +kernel)
theorem k_878 : Cond.instanceMethod yX11_best ∈ gT := gm 878 (by decide +kernel) (by decide +kernel)
theorem k_879 : Cond.selects RX11 yX11_best yX11_best ∈ gT := gm 879 (by decide +kernel) (by decide +kernel)
set_option maxRecDepth 100000 in
theorem k_880 : Cond.code yX11_best cX11_best 3 (some .int) ∈ gT := gm 880 (rfl) (by decide +kernel)
theorem k_881 : Cond.methodLink RX11 227 yX1_bestDay ∈ gT := gm 881 (by decide +kernel) (by decide +kernel)
theorem k_882 : Cond.instanceMethod yX1_bestDay ∈ gT := gm 882 (by decide +kernel) (by decide +kernel)
theorem k_883 : Cond.selects RX1 yX1_bestDay yX1_bestDay ∈ gT := gm 883 (by decide +kernel) (by decide +kernel)
set_option maxRecDepth 100000 in
theorem k_884 : Cond.code yX1_bestDay cX1_bestDay 9 (some .int) ∈ gT := gm 884 (rfl) (by decide +kernel)
theorem k_885 : Cond.methodLink RX1 52 yX9_soldWithin ∈ gT := gm 885 (by decide +kernel) (by decide +kernel)
theorem k_886 : Cond.methodLink RL 94 yX11_least ∈ gT := gm 886 (by decide +kernel) (by decide +kernel)
theorem k_887 : Cond.instanceMethod yX11_least ∈ gT := gm 887 (by decide +kernel) (by decide +kernel)
theorem k_888 : Cond.selects RX11 yX11_least yX11_least ∈ gT := gm 888 (by decide +kernel) (by decide +kernel)
set_option maxRecDepth 100000 in
theorem k_889 : Cond.code yX11_least cX11_least 3 (some .int) ∈ gT := gm 889 (rfl) (by decide +kernel)
theorem k_890 : Cond.methodLink RX11 230 yX1_leastTemper ∈ gT := gm 890 (by decide +kernel) (by decide +kernel)
theorem k_891 : Cond.instanceMethod yX1_leastTemper ∈ gT := gm 891 (by decide +kernel) (by decide +kernel)
theorem k_892 : Cond.selects RX1 yX1_leastTemper yX1_leastTemper ∈ gT := gm 892 (by decide +kernel) (by decide +kernel)
set_option maxRecDepth 100000 in
theorem k_893 : Cond.code yX1_leastTemper cX1_leastTemper 7 (some .int) ∈ gT := gm 893 (rfl) (by decide +kernel)
theorem k_894 : Cond.methodLink RX1 59 yX9_hasBuyer ∈ gT := gm 894 (by decide +kernel) (by decide +kernel)
theorem k_895 : Cond.methodLink RL 98 yX11_soothe ∈ gT := gm 895 (by decide +kernel) (by decide +kernel)
theorem k_896 : Cond.instanceMethod yX11_soothe ∈ gT := gm 896 (by decide +kernel) (by decide +kernel)
theorem k_897 : Cond.selects RX11 yX11_soothe yX11_soothe ∈ gT := gm 897 (by decide +kernel) (by decide +kernel)
set_option maxRecDepth 100000 in
theorem k_898 : Cond.code yX11_soothe cX11_soothe 3 (some .int) ∈ gT := gm 898 (rfl) (by decide +kernel)
theorem k_899 : Cond.methodLink RX11 233 yX1_whomToSoothe ∈ gT := gm 899 (by decide +kernel) (by decide +kernel)
theorem k_900 : Cond.instanceMethod yX1_whomToSoothe ∈ gT := gm 900 (by decide +kernel) (by decide +kernel)
theorem k_901 : Cond.selects RX1 yX1_whomToSoothe yX1_whomToSoothe ∈ gT := gm 901 (by decide +kernel) (by decide +kernel)
set_option maxRecDepth 100000 in
theorem k_902 : Cond.code yX1_whomToSoothe cX1_whomToSoothe 9 (some .int) ∈ gT := gm 902 (rfl) (by decide +kernel)
theorem k_903 : Cond.methodLink RL 102 yX11_page ∈ gT := gm 903 (by decide +kernel) (by decide +kernel)
theorem k_904 : Cond.instanceMethod yX11_page ∈ gT := gm 904 (by decide +kernel) (by decide +kernel)
theorem k_905 : Cond.selects RX11 yX11_page yX11_page ∈ gT := gm 905 (by decide +kernel) (by decide +kernel)
set_option maxRecDepth 100000 in
theorem k_906 : Cond.code yX11_page cX11_page 3 (some .int) ∈ gT := gm 906 (rfl) (by decide +kernel)
theorem k_907 : Cond.methodLink RX11 236 yX1_setsOf ∈ gT := gm 907 (by decide +kernel) (by decide +kernel)
theorem k_908 : Cond.instanceMethod yX1_setsOf ∈ gT := gm 908 (by decide +kernel) (by decide +kernel)
theorem k_909 : Cond.selects RX1 yX1_setsOf yX1_setsOf ∈ gT := gm 909 (by decide +kernel) (by decide +kernel)
set_option maxRecDepth 100000 in
theorem k_910 : Cond.code yX1_setsOf cX1_setsOf 8 (some .int) ∈ gT := gm 910 (rfl) (by decide +kernel)
theorem k_911 : Cond.methodLink RX1 69 yX1_grainsOf ∈ gT := gm 911 (by decide +kernel) (by decide +kernel)
theorem k_912 : Cond.static yX1_grainsOf ∈ gT := gm 912 (by decide +kernel) (by decide +kernel)
set_option maxRecDepth 100000 in
theorem k_913 : Cond.code yX1_grainsOf cX1_grainsOf 4 (some .int) ∈ gT := gm 913 (rfl) (by decide +kernel)
theorem k_914 : Cond.methodLink RL 106 yX11_fines ∈ gT := gm 914 (by decide +kernel) (by decide +kernel)
theorem k_915 : Cond.instanceMethod yX11_fines ∈ gT := gm 915 (by decide +kernel) (by decide +kernel)
theorem k_916 : Cond.selects RX11 yX11_fines yX11_fines ∈ gT := gm 916 (by decide +kernel) (by decide +kernel)
set_option maxRecDepth 100000 in
theorem k_917 : Cond.code yX11_fines cX11_fines 3 (some .int) ∈ gT := gm 917 (rfl) (by decide +kernel)
theorem k_918 : Cond.methodLink RX11 240 yX9_fineOf ∈ gT := gm 918 (by decide +kernel) (by decide +kernel)
theorem k_919 : Cond.instanceMethod yX9_fineOf ∈ gT := gm 919 (by decide +kernel) (by decide +kernel)
theorem k_920 : Cond.selects RX9 yX9_fineOf yX9_fineOf ∈ gT := gm 920 (by decide +kernel) (by decide +kernel)
set_option maxRecDepth 100000 in
theorem k_921 : Cond.code yX9_fineOf cX9_fineOf 13 (some .int) ∈ gT := gm 921 (rfl) (by decide +kernel)
theorem k_922 : Cond.methodLink RL 110 yX11_rests ∈ gT := gm 922 (by decide +kernel) (by decide +kernel)
theorem k_923 : Cond.instanceMethod yX11_rests ∈ gT := gm 923 (by decide +kernel) (by decide +kernel)
theorem k_924 : Cond.selects RX11 yX11_rests yX11_rests ∈ gT := gm 924 (by decide +kernel) (by decide +kernel)
set_option maxRecDepth 100000 in
theorem k_925 : Cond.code yX11_rests cX11_rests 5 (some .int) ∈ gT := gm 925 (rfl) (by decide +kernel)
theorem k_926 : Cond.methodLink RX11 243 yX1_playAll ∈ gT := gm 926 (by decide +kernel) (by decide +kernel)
theorem k_927 : Cond.instanceMethod yX1_playAll ∈ gT := gm 927 (by decide +kernel) (by decide +kernel)
theorem k_928 : Cond.selects RX1 yX1_playAll yX1_playAll ∈ gT := gm 928 (by decide +kernel) (by decide +kernel)
set_option maxRecDepth 100000 in
theorem k_929 : Cond.code yX1_playAll cX1_playAll 7 none ∈ gT := gm 929 (rfl) (by decide +kernel)
theorem k_930 : Cond.methodLink RX1 76 yX1_sizeOf ∈ gT := gm 930 (by decide +kernel) (by decide +kernel)
theorem k_931 : Cond.static yX1_sizeOf ∈ gT := gm 931 (by decide +kernel) (by decide +kernel)
set_option maxRecDepth 100000 in
theorem k_932 : Cond.code yX1_sizeOf cX1_sizeOf 1 (some .int) ∈ gT := gm 932 (rfl) (by decide +kernel)
theorem k_933 : Cond.methodLink RX1 79 yX1_gain ∈ gT := gm 933 (by decide +kernel) (by decide +kernel)
theorem k_935 : Cond.instanceMethod yX1_gain ∈ gT := gm 935 (by decide +kernel) (by decide +kernel)
set_option maxRecDepth 100000 in
theorem k_936 : Cond.code yX1_gain cX1_gain 4 (some .int) ∈ gT := gm 936 (rfl) (by decide +kernel)
theorem k_937 : Cond.methodLink RX11 247 yX1_restAnswer ∈ gT := gm 937 (by decide +kernel) (by decide +kernel)
theorem k_938 : Cond.instanceMethod yX1_restAnswer ∈ gT := gm 938 (by decide +kernel) (by decide +kernel)
theorem k_939 : Cond.selects RX1 yX1_restAnswer yX1_restAnswer ∈ gT := gm 939 (by decide +kernel) (by decide +kernel)
set_option maxRecDepth 100000 in
theorem k_940 : Cond.code yX1_restAnswer cX1_restAnswer 5 (some .int) ∈ gT := gm 940 (rfl) (by decide +kernel)
theorem k_941 : Cond.methodLink RX1 88 yX1_isRest ∈ gT := gm 941 (by decide +kernel) (by decide +kernel)
theorem k_943 : Cond.instanceMethod yX1_isRest ∈ gT := gm 943 (by decide +kernel) (by decide +kernel)
set_option maxRecDepth 100000 in
theorem k_944 : Cond.code yX1_isRest cX1_isRest 5 (some .boolean) ∈ gT := gm 944 (rfl) (by decide +kernel)
theorem k_945 : Cond.methodLink RL 115 yX11_ring ∈ gT := gm 945 (by decide +kernel) (by decide +kernel)
theorem k_946 : Cond.instanceMethod yX11_ring ∈ gT := gm 946 (by decide +kernel) (by decide +kernel)
theorem k_947 : Cond.selects RX11 yX11_ring yX11_ring ∈ gT := gm 947 (by decide +kernel) (by decide +kernel)
set_option maxRecDepth 100000 in
theorem k_948 : Cond.code yX11_ring cX11_ring 2 (some .int) ∈ gT := gm 948 (rfl) (by decide +kernel)
theorem k_949 : Cond.methodLink RX11 250 yX4_firstRing ∈ gT := gm 949 (by decide +kernel) (by decide +kernel)
theorem k_950 : Cond.instanceMethod yX4_firstRing ∈ gT := gm 950 (by decide +kernel) (by decide +kernel)
theorem k_951 : Cond.selects RX4 yX4_firstRing yX4_firstRing ∈ gT := gm 951 (by decide +kernel) (by decide +kernel)
set_option maxRecDepth 100000 in
theorem k_952 : Cond.code yX4_firstRing cX4_firstRing 6 (some .int) ∈ gT := gm 952 (rfl) (by decide +kernel)
theorem k_953 : Cond.methodLink RX4 74 yX9_likeness ∈ gT := gm 953 (by decide +kernel) (by decide +kernel)
theorem k_954 : Cond.instanceMethod yX9_likeness ∈ gT := gm 954 (by decide +kernel) (by decide +kernel)
theorem k_955 : Cond.selects RX9 yX9_likeness yX9_likeness ∈ gT := gm 955 (by decide +kernel) (by decide +kernel)
set_option maxRecDepth 100000 in
theorem k_956 : Cond.code yX9_likeness cX9_likeness 4 (some .long) ∈ gT := gm 956 (rfl) (by decide +kernel)
theorem k_957 : Cond.constantLong RX9 107 (21) ∈ gT := gm 957 (by decide +kernel) (by decide +kernel)
theorem k_958 : Cond.methodLink RL 119 yX11_peak ∈ gT := gm 958 (by decide +kernel) (by decide +kernel)
theorem k_959 : Cond.instanceMethod yX11_peak ∈ gT := gm 959 (by decide +kernel) (by decide +kernel)
theorem k_960 : Cond.selects RX11 yX11_peak yX11_peak ∈ gT := gm 960 (by decide +kernel) (by decide +kernel)
set_option maxRecDepth 100000 in
theorem k_961 : Cond.code yX11_peak cX11_peak 3 (some .int) ∈ gT := gm 961 (rfl) (by decide +kernel)
theorem k_962 : Cond.methodLink RX11 253 yX4_highestDay ∈ gT := gm 962 (by decide +kernel) (by decide +kernel)
theorem k_963 : Cond.instanceMethod yX4_highestDay ∈ gT := gm 963 (by decide +kernel) (by decide +kernel)
theorem k_964 : Cond.selects RX4 yX4_highestDay yX4_highestDay ∈ gT := gm 964 (by decide +kernel) (by decide +kernel)
set_option maxRecDepth 100000 in
theorem k_965 : Cond.code yX4_highestDay cX4_highestDay 9 (some .int) ∈ gT := gm 965 (rfl) (by decide +kernel)
theorem k_966 : Cond.methodLink RL 123 yX11_note ∈ gT := gm 966 (by decide +kernel) (by decide +kernel)
theorem k_967 : Cond.instanceMethod yX11_note ∈ gT := gm 967 (by decide +kernel) (by decide +kernel)
theorem k_968 : Cond.selects RX11 yX11_note yX11_note ∈ gT := gm 968 (by decide +kernel) (by decide +kernel)
set_option maxRecDepth 100000 in
theorem k_969 : Cond.code yX11_note cX11_note 4 (some .int) ∈ gT := gm 969 (rfl) (by decide +kernel)
theorem k_970 : Cond.methodLink RX11 256 yX3_add ∈ gT := gm 970 (by decide +kernel) (by decide +kernel)
theorem k_971 : Cond.instanceMethod yX3_add ∈ gT := gm 971 (by decide +kernel) (by decide +kernel)
theorem k_972 : Cond.selects RX3 yX3_add yX3_add ∈ gT := gm 972 (by decide +kernel) (by decide +kernel)
set_option maxRecDepth 100000 in
theorem k_973 : Cond.code yX3_add cX3_add 4 (some .boolean) ∈ gT := gm 973 (rfl) (by decide +kernel)
theorem k_974 : Cond.methodLink RL 127 yX11_ruled ∈ gT := gm 974 (by decide +kernel) (by decide +kernel)
theorem k_975 : Cond.instanceMethod yX11_ruled ∈ gT := gm 975 (by decide +kernel) (by decide +kernel)
theorem k_976 : Cond.selects RX11 yX11_ruled yX11_ruled ∈ gT := gm 976 (by decide +kernel) (by decide +kernel)
set_option maxRecDepth 100000 in
theorem k_977 : Cond.code yX11_ruled cX11_ruled 2 (some .int) ∈ gT := gm 977 (rfl) (by decide +kernel)
theorem k_978 : Cond.methodLink RX11 258 yX2_weigh ∈ gT := gm 978 (by decide +kernel) (by decide +kernel)
theorem k_979 : Cond.instanceMethod yX2_weigh ∈ gT := gm 979 (by decide +kernel) (by decide +kernel)
theorem k_980 : Cond.selects RX2 yX2_weigh yX2_weigh ∈ gT := gm 980 (by decide +kernel) (by decide +kernel)
set_option maxRecDepth 100000 in
theorem k_981 : Cond.code yX2_weigh cX2_weigh 7 none ∈ gT := gm 981 (rfl) (by decide +kernel)
theorem k_982 : Cond.methodLink RX2 35 yX9_copyFrom ∈ gT := gm 982 (by decide +kernel) (by decide +kernel)
theorem k_983 : Cond.methodLink RX2 39 yX9_goThroughDay ∈ gT := gm 983 (by decide +kernel) (by decide +kernel)
theorem k_984 : Cond.methodLink RX2 47 yX2_agrees ∈ gT := gm 984 (by decide +kernel) (by decide +kernel)
theorem k_986 : Cond.instanceMethod yX2_agrees ∈ gT := gm 986 (by decide +kernel) (by decide +kernel)
set_option maxRecDepth 100000 in
theorem k_987 : Cond.code yX2_agrees cX2_agrees 4 (some .boolean) ∈ gT := gm 987 (rfl) (by decide +kernel)
theorem k_988 : Cond.methodLink RX2 59 yX2_whoOn ∈ gT := gm 988 (by decide +kernel) (by decide +kernel)
theorem k_990 : Cond.instanceMethod yX2_whoOn ∈ gT := gm 990 (by decide +kernel) (by decide +kernel)
set_option maxRecDepth 100000 in
theorem k_991 : Cond.code yX2_whoOn cX2_whoOn 4 (some .int) ∈ gT := gm 991 (rfl) (by decide +kernel)
theorem k_992 : Cond.methodLink RX11 265 yX2_firstFitting ∈ gT := gm 992 (by decide +kernel) (by decide +kernel)
theorem k_993 : Cond.instanceMethod yX2_firstFitting ∈ gT := gm 993 (by decide +kernel) (by decide +kernel)
theorem k_994 : Cond.selects RX2 yX2_firstFitting yX2_firstFitting ∈ gT := gm 994 (by decide +kernel) (by decide +kernel)
set_option maxRecDepth 100000 in
theorem k_995 : Cond.code yX2_firstFitting cX2_firstFitting 2 (some .int) ∈ gT := gm 995 (rfl) (by decide +kernel)
theorem k_996 : Cond.methodLink RL 131 yX11_look ∈ gT := gm 996 (by decide +kernel) (by decide +kernel)
theorem k_997 : Cond.instanceMethod yX11_look ∈ gT := gm 997 (by decide +kernel) (by decide +kernel)
theorem k_998 : Cond.selects RX11 yX11_look yX11_look ∈ gT := gm 998 (by decide +kernel) (by decide +kernel)
set_option maxRecDepth 100000 in
theorem k_999 : Cond.code yX11_look cX11_look 2 (some .int) ∈ gT := gm 999 (rfl) (by decide +kernel)
theorem k_1000 : Cond.methodLink RX11 269 yX2_dayToLook ∈ gT := gm 1000 (by decide +kernel) (by decide +kernel)
theorem k_1001 : Cond.instanceMethod yX2_dayToLook ∈ gT := gm 1001 (by decide +kernel) (by decide +kernel)
theorem k_1002 : Cond.selects RX2 yX2_dayToLook yX2_dayToLook ∈ gT := gm 1002 (by decide +kernel) (by decide +kernel)
set_option maxRecDepth 100000 in
theorem k_1003 : Cond.code yX2_dayToLook cX2_dayToLook 6 (some .int) ∈ gT := gm 1003 (rfl) (by decide +kernel)
theorem k_1004 : Cond.methodLink RX2 69 yX2_mostAlike ∈ gT := gm 1004 (by decide +kernel) (by decide +kernel)
theorem k_1006 : Cond.instanceMethod yX2_mostAlike ∈ gT := gm 1006 (by decide +kernel) (by decide +kernel)
set_option maxRecDepth 100000 in
theorem k_1007 : Cond.code yX2_mostAlike cX2_mostAlike 6 (some .int) ∈ gT := gm 1007 (rfl) (by decide +kernel)
theorem k_1008 : Cond.methodLink RX2 73 yJ9_max_7cf53 ∈ gT := gm 1008 (by decide +kernel) (by decide +kernel)
theorem k_1009 : Cond.methodLink RL 135 yX11_seed ∈ gT := gm 1009 (by decide +kernel) (by decide +kernel)
theorem k_1010 : Cond.instanceMethod yX11_seed ∈ gT := gm 1010 (by decide +kernel) (by decide +kernel)
theorem k_1011 : Cond.selects RX11 yX11_seed yX11_seed ∈ gT := gm 1011 (by decide +kernel) (by decide +kernel)
set_option maxRecDepth 100000 in
theorem k_1012 : Cond.code yX11_seed cX11_seed 3 (some .int) ∈ gT := gm 1012 (rfl) (by decide +kernel)
theorem k_1013 : Cond.methodLink RL 139 yX11_summers ∈ gT := gm 1013 (by decide +kernel) (by decide +kernel)
theorem k_1014 : Cond.instanceMethod yX11_summers ∈ gT := gm 1014 (by decide +kernel) (by decide +kernel)
theorem k_1015 : Cond.selects RX11 yX11_summers yX11_summers ∈ gT := gm 1015 (by decide +kernel) (by decide +kernel)
set_option maxRecDepth 100000 in
theorem k_1016 : Cond.code yX11_summers cX11_summers 5 (some .int) ∈ gT := gm 1016 (rfl) (by decide +kernel)
theorem k_1017 : Cond.methodLink RX11 278 yX4_drawnSummers ∈ gT := gm 1017 (by decide +kernel) (by decide +kernel)
theorem k_1018 : Cond.instanceMethod yX4_drawnSummers ∈ gT := gm 1018 (by decide +kernel) (by decide +kernel)
theorem k_1019 : Cond.selects RX4 yX4_drawnSummers yX4_drawnSummers ∈ gT := gm 1019 (by decide +kernel) (by decide +kernel)
set_option maxRecDepth 100000 in
theorem k_1020 : Cond.code yX4_drawnSummers cX4_drawnSummers 11 (some .int) ∈ gT := gm 1020 (rfl) (by decide +kernel)
theorem k_1021 : Cond.methodLink RX4 78 yX4_drawSky ∈ gT := gm 1021 (by decide +kernel) (by decide +kernel)
theorem k_1023 : Cond.instanceMethod yX4_drawSky ∈ gT := gm 1023 (by decide +kernel) (by decide +kernel)
set_option maxRecDepth 100000 in
theorem k_1024 : Cond.code yX4_drawSky cX4_drawSky 4 none ∈ gT := gm 1024 (rfl) (by decide +kernel)
theorem k_1025 : Cond.methodLink RX4 82 yX4_draw ∈ gT := gm 1025 (by decide +kernel) (by decide +kernel)
theorem k_1027 : Cond.instanceMethod yX4_draw ∈ gT := gm 1027 (by decide +kernel) (by decide +kernel)
set_option maxRecDepth 100000 in
theorem k_1028 : Cond.code yX4_draw cX4_draw 1 (some .long) ∈ gT := gm 1028 (rfl) (by decide +kernel)
theorem k_1029 : Cond.constantLong RX4 98 (1103515245) ∈ gT := gm 1029 (by decide +kernel) (by decide +kernel)
theorem k_1030 : Cond.constantLong RX4 100 (12345) ∈ gT := gm 1030 (by decide +kernel) (by decide +kernel)
theorem k_1031 : Cond.constantLong RX4 102 (2147483648) ∈ gT := gm 1031 (by decide +kernel) (by decide +kernel)
theorem k_1032 : Cond.constantLong RX4 104 (65536) ∈ gT := gm 1032 (by decide +kernel) (by decide +kernel)
theorem k_1033 : Cond.constantLong RX4 85 (100) ∈ gT := gm 1033 (by decide +kernel) (by decide +kernel)
theorem k_1034 : Cond.constantLong RX4 87 (10) ∈ gT := gm 1034 (by decide +kernel) (by decide +kernel)
theorem k_1035 : Cond.methodLink RX4 89 yX9_clockOn ∈ gT := gm 1035 (by decide +kernel) (by decide +kernel)
theorem k_1036 : Cond.methodLink RX4 92 yX9_hasClock ∈ gT := gm 1036 (by decide +kernel) (by decide +kernel)
theorem k_1037 : Cond.methodLink RL 143 yX11_count ∈ gT := gm 1037 (by decide +kernel) (by decide +kernel)
theorem k_1038 : Cond.instanceMethod yX11_count ∈ gT := gm 1038 (by decide +kernel) (by decide +kernel)
theorem k_1039 : Cond.selects RX11 yX11_count yX11_count ∈ gT := gm 1039 (by decide +kernel) (by decide +kernel)
set_option maxRecDepth 100000 in
theorem k_1040 : Cond.code yX11_count cX11_count 2 (some .int) ∈ gT := gm 1040 (rfl) (by decide +kernel)
theorem k_1041 : Cond.methodLink RX11 288 yX9_clockOn ∈ gT := gm 1041 (by decide +kernel) (by decide +kernel)
theorem k_1042 : Cond.methodLink RX11 291 yX9_stillOn ∈ gT := gm 1042 (by decide +kernel) (by decide +kernel)
theorem k_1043 : Cond.methodLink RX11 297 yX9_timesMet ∈ gT := gm 1043 (by decide +kernel) (by decide +kernel)
theorem k_1044 : Cond.instanceMethod yX9_timesMet ∈ gT := gm 1044 (by decide +kernel) (by decide +kernel)
theorem k_1045 : Cond.selects RX9 yX9_timesMet yX9_timesMet ∈ gT := gm 1045 (by decide +kernel) (by decide +kernel)
set_option maxRecDepth 100000 in
theorem k_1046 : Cond.code yX9_timesMet cX9_timesMet 3 (some .int) ∈ gT := gm 1046 (rfl) (by decide +kernel)
theorem k_1047 : Cond.methodLink RX11 300 yX9_whoCanBuy ∈ gT := gm 1047 (by decide +kernel) (by decide +kernel)
theorem k_1048 : Cond.instanceMethod yX9_whoCanBuy ∈ gT := gm 1048 (by decide +kernel) (by decide +kernel)
theorem k_1049 : Cond.selects RX9 yX9_whoCanBuy yX9_whoCanBuy ∈ gT := gm 1049 (by decide +kernel) (by decide +kernel)
set_option maxRecDepth 100000 in
theorem k_1050 : Cond.code yX9_whoCanBuy cX9_whoCanBuy 3 (some .int) ∈ gT := gm 1050 (rfl) (by decide +kernel)
theorem k_1051 : Cond.methodLink RL 147 yX11_image ∈ gT := gm 1051 (by decide +kernel) (by decide +kernel)
theorem k_1052 : Cond.instanceMethod yX11_image ∈ gT := gm 1052 (by decide +kernel) (by decide +kernel)
theorem k_1053 : Cond.selects RX11 yX11_image yX11_image ∈ gT := gm 1053 (by decide +kernel) (by decide +kernel)
set_option maxRecDepth 100000 in
theorem k_1054 : Cond.code yX11_image cX11_image 3 (some .int) ∈ gT := gm 1054 (rfl) (by decide +kernel)
theorem k_1055 : Cond.methodLink RX11 303 yX8_copyFrom ∈ gT := gm 1055 (by decide +kernel) (by decide +kernel)
theorem k_1056 : Cond.instanceMethod yX8_copyFrom ∈ gT := gm 1056 (by decide +kernel) (by decide +kernel)
theorem k_1057 : Cond.selects RX8 yX8_copyFrom yX8_copyFrom ∈ gT := gm 1057 (by decide +kernel) (by decide +kernel)
set_option maxRecDepth 100000 in
theorem k_1058 : Cond.code yX8_copyFrom cX8_copyFrom 2 none ∈ gT := gm 1058 (rfl) (by decide +kernel)
theorem k_1059 : Cond.methodLink RX8 35 yX9_copyFrom ∈ gT := gm 1059 (by decide +kernel) (by decide +kernel)
theorem k_1060 : Cond.methodLink RX8 39 yX3_copyFrom ∈ gT := gm 1060 (by decide +kernel) (by decide +kernel)
theorem k_1061 : Cond.instanceMethod yX3_copyFrom ∈ gT := gm 1061 (by decide +kernel) (by decide +kernel)
theorem k_1062 : Cond.selects RX3 yX3_copyFrom yX3_copyFrom ∈ gT := gm 1062 (by decide +kernel) (by decide +kernel)
set_option maxRecDepth 100000 in
theorem k_1063 : Cond.code yX3_copyFrom cX3_copyFrom 2 none ∈ gT := gm 1063 (rfl) (by decide +kernel)
theorem k_1064 : Cond.methodLink RX3 23 arraycopyName ∈ gT := gm 1064 (by decide +kernel) (by decide +kernel)
theorem k_1065 : Cond.methodLink RL 151 yX11_back ∈ gT := gm 1065 (by decide +kernel) (by decide +kernel)
theorem k_1066 : Cond.instanceMethod yX11_back ∈ gT := gm 1066 (by decide +kernel) (by decide +kernel)
theorem k_1067 : Cond.selects RX11 yX11_back yX11_back ∈ gT := gm 1067 (by decide +kernel) (by decide +kernel)
set_option maxRecDepth 100000 in
theorem k_1068 : Cond.code yX11_back cX11_back 3 (some .int) ∈ gT := gm 1068 (rfl) (by decide +kernel)
theorem k_1069 : Cond.classLink RL 10 RX12 ∈ gT := gm 1069 (by decide +kernel) (by decide +kernel)
theorem k_1070 : Cond.instantiable RX12 36 ∈ gT := gm 1070 (by decide +kernel) (by decide +kernel)
theorem k_1071 : Cond.methodLink RL 12 yX12_init ∈ gT := gm 1071 (by decide +kernel) (by decide +kernel)
theorem k_1072 : Cond.instanceMethod yX12_init ∈ gT := gm 1072 (by decide +kernel) (by decide +kernel)
set_option maxRecDepth 100000 in
theorem k_1073 : Cond.code yX12_init cX12_init 1 none ∈ gT := gm 1073 (rfl) (by decide +kernel)
theorem k_1074 : Cond.methodLink RX12 1 objectInit ∈ gT := gm 1074 (by decide +kernel) (by decide +kernel)
theorem k_1075 : Cond.fieldLink RX12 7 "PoisonBookModel" "tape" "[B" ∈ gT := gm 1075 (by decide +kernel) (by decide +kernel)
theorem k_1076 : Cond.fieldLink RX12 77 "PoisonBookModel" "taped" "I" ∈ gT := gm 1076 (by decide +kernel) (by decide +kernel)
theorem k_1077 : Cond.fieldLink RX12 256 "PoisonBookModel" "rules" "I" ∈ gT := gm 1077 (by decide +kernel) (by decide +kernel)
theorem k_1078 : Cond.fieldLink RX12 13 "PoisonBookModel" "sign" "[I" ∈ gT := gm 1078 (by decide +kernel) (by decide +kernel)
theorem k_1079 : Cond.fieldLink RX12 17 "PoisonBookModel" "length" "[I" ∈ gT := gm 1079 (by decide +kernel) (by decide +kernel)
theorem k_1080 : Cond.fieldLink RX12 20 "PoisonBookModel" "clause" "[I" ∈ gT := gm 1080 (by decide +kernel) (by decide +kernel)
theorem k_1081 : Cond.fieldLink RX12 23 "PoisonBookModel" "clauses" "[I" ∈ gT := gm 1081 (by decide +kernel) (by decide +kernel)
theorem k_1082 : Cond.fieldLink RX12 26 "PoisonBookModel" "read" "[I" ∈ gT := gm 1082 (by decide +kernel) (by decide +kernel)
theorem k_1083 : Cond.fieldLink RX12 87 "PoisonBookModel" "next" "I" ∈ gT := gm 1083 (by decide +kernel) (by decide +kernel)
theorem k_1084 : Cond.fieldLink RX12 84 "PoisonBookModel" "wrong" "I" ∈ gT := gm 1084 (by decide +kernel) (by decide +kernel)
theorem k_1085 : Cond.fieldLink RX12 112 "PoisonBookModel" "number" "I" ∈ gT := gm 1085 (by decide +kernel) (by decide +kernel)
theorem k_1086 : Cond.fieldLink RX12 145 "PoisonBookModel" "text" "I" ∈ gT := gm 1086 (by decide +kernel) (by decide +kernel)
theorem k_1087 : Cond.fieldLink RX12 148 "PoisonBookModel" "made" "I" ∈ gT := gm 1087 (by decide +kernel) (by decide +kernel)
theorem k_1088 : Cond.fieldLink RX12 151 "PoisonBookModel" "deep" "I" ∈ gT := gm 1088 (by decide +kernel) (by decide +kernel)
theorem k_1089 : Cond.fieldLink RX12 244 "PoisonBookModel" "lines" "I" ∈ gT := gm 1089 (by decide +kernel) (by decide +kernel)
theorem k_1090 : Cond.fieldLink RX12 29 "PoisonBookModel" "open" "[I" ∈ gT := gm 1090 (by decide +kernel) (by decide +kernel)
theorem k_1091 : Cond.fieldLink RX12 154 "PoisonBookModel" "opened" "I" ∈ gT := gm 1091 (by decide +kernel) (by decide +kernel)
theorem k_1092 : Cond.fieldLink RX12 32 "PoisonBookModel" "stack" "[J" ∈ gT := gm 1092 (by decide +kernel) (by decide +kernel)
theorem k_1093 : Cond.fieldLink RX12 268 "PoisonBookModel" "top" "I" ∈ gT := gm 1093 (by decide +kernel) (by decide +kernel)
theorem k_1094 : Cond.fieldLink RX12 36 "PoisonBookModel" "word" "[J" ∈ gT := gm 1094 (by decide +kernel) (by decide +kernel)
theorem k_1095 : Cond.fieldLink RX12 39 "PoisonBookModel" "said" "[I" ∈ gT := gm 1095 (by decide +kernel) (by decide +kernel)
theorem k_1096 : Cond.fieldLink RX12 42 "PoisonBookModel" "force" "I" ∈ gT := gm 1096 (by decide +kernel) (by decide +kernel)
theorem k_1097 : Cond.fieldLink RX12 414 "PoisonBookModel" "x" "I" ∈ gT := gm 1097 (by decide +kernel) (by decide +kernel)
theorem k_1098 : Cond.fieldLink RX12 324 "PoisonBookModel" "guarded" "I" ∈ gT := gm 1098 (by decide +kernel) (by decide +kernel)
theorem k_1099 : Cond.fieldLink RX12 46 "PoisonBookModel" "wasSaid" "[I" ∈ gT := gm 1099 (by decide +kernel) (by decide +kernel)
theorem k_1100 : Cond.fieldLink RX12 265 "PoisonBookModel" "undone" "I" ∈ gT := gm 1100 (by decide +kernel) (by decide +kernel)
theorem k_1101 : Cond.fieldLink RX12 49 "PoisonBookModel" "kept" "[I" ∈ gT := gm 1101 (by decide +kernel) (by decide +kernel)
theorem k_1102 : Cond.fieldLink RX12 52 "PoisonBookModel" "hasBy" "[I" ∈ gT := gm 1102 (by decide +kernel) (by decide +kernel)
theorem k_1103 : Cond.fieldLink RX12 55 "PoisonBookModel" "thenAll" "[I" ∈ gT := gm 1103 (by decide +kernel) (by decide +kernel)
theorem k_1104 : Cond.fieldLink RX12 58 "PoisonBookModel" "isFit" "[Z" ∈ gT := gm 1104 (by decide +kernel) (by decide +kernel)
theorem k_1105 : Cond.fieldLink RX12 62 "PoisonBookModel" "whoBy" "[I" ∈ gT := gm 1105 (by decide +kernel) (by decide +kernel)
theorem k_1106 : Cond.fieldLink RX12 417 "PoisonBookModel" "drawX" "J" ∈ gT := gm 1106 (by decide +kernel) (by decide +kernel)
theorem k_1107 : Cond.fieldLink RX12 65 "PoisonBookModel" "images" "[I" ∈ gT := gm 1107 (by decide +kernel) (by decide +kernel)
theorem k_1108 : Cond.fieldLink RX12 68 "PoisonBookModel" "imageForce" "[I" ∈ gT := gm 1108 (by decide +kernel) (by decide +kernel)
theorem k_1109 : Cond.fieldLink RX12 71 "PoisonBookModel" "imageX" "[I" ∈ gT := gm 1109 (by decide +kernel) (by decide +kernel)
theorem k_1110 : Cond.fieldLink RX12 74 "PoisonBookModel" "isMade" "[Z" ∈ gT := gm 1110 (by decide +kernel) (by decide +kernel)
theorem k_1184 : Cond.methodLink RL 17 yX12_feed ∈ gT := gm 1184 (by decide +kernel) (by decide +kernel)
theorem k_1185 : Cond.instanceMethod yX12_feed ∈ gT := gm 1185 (by decide +kernel) (by decide +kernel)
theorem k_1186 : Cond.selects RX12 yX12_feed yX12_feed ∈ gT := gm 1186 (by decide +kernel) (by decide +kernel)
set_option maxRecDepth 100000 in
theorem k_1187 : Cond.code yX12_feed cX12_feed 6 (some .int) ∈ gT := gm 1187 (rfl) (by decide +kernel)
theorem k_1188 : Cond.methodLink RX12 80 yX12_four ∈ gT := gm 1188 (by decide +kernel) (by decide +kernel)
theorem k_1190 : Cond.instanceMethod yX12_four ∈ gT := gm 1190 (by decide +kernel) (by decide +kernel)
set_option maxRecDepth 100000 in
theorem k_1191 : Cond.code yX12_four cX12_four 3 none ∈ gT := gm 1191 (rfl) (by decide +kernel)
theorem k_1192 : Cond.methodLink RL 22 yX12_end ∈ gT := gm 1192 (by decide +kernel) (by decide +kernel)
theorem k_1193 : Cond.instanceMethod yX12_end ∈ gT := gm 1193 (by decide +kernel) (by decide +kernel)
theorem k_1194 : Cond.selects RX12 yX12_end yX12_end ∈ gT := gm 1194 (by decide +kernel) (by decide +kernel)
set_option maxRecDepth 100000 in
theorem k_1195 : Cond.code yX12_end cX12_end 2 (some .int) ∈ gT := gm 1195 (rfl) (by decide +kernel)
theorem k_1196 : Cond.methodLink RL 31 yX12_rule ∈ gT := gm 1196 (by decide +kernel) (by decide +kernel)
theorem k_1197 : Cond.instanceMethod yX12_rule ∈ gT := gm 1197 (by decide +kernel) (by decide +kernel)
theorem k_1198 : Cond.selects RX12 yX12_rule yX12_rule ∈ gT := gm 1198 (by decide +kernel) (by decide +kernel)
set_option maxRecDepth 100000 in
theorem k_1199 : Cond.code yX12_rule cX12_rule 1 (some .int) ∈ gT := gm 1199 (rfl) (by decide +kernel)
theorem k_1200 : Cond.methodLink RX12 259 yX12_readsAll ∈ gT := gm 1200 (by decide +kernel) (by decide +kernel)
theorem k_1202 : Cond.instanceMethod yX12_readsAll ∈ gT := gm 1202 (by decide +kernel) (by decide +kernel)
set_option maxRecDepth 100000 in
theorem k_1203 : Cond.code yX12_readsAll cX12_readsAll 2 (some .boolean) ∈ gT := gm 1203 (rfl) (by decide +kernel)
theorem k_1204 : Cond.methodLink RX12 253 yX12_clauseHere ∈ gT := gm 1204 (by decide +kernel) (by decide +kernel)
theorem k_1206 : Cond.instanceMethod yX12_clauseHere ∈ gT := gm 1206 (by decide +kernel) (by decide +kernel)
set_option maxRecDepth 100000 in
theorem k_1207 : Cond.code yX12_clauseHere cX12_clauseHere 3 (some .boolean) ∈ gT := gm 1207 (rfl) (by decide +kernel)
theorem k_1208 : Cond.methodLink RX12 90 yX12_see ∈ gT := gm 1208 (by decide +kernel) (by decide +kernel)
theorem k_1210 : Cond.instanceMethod yX12_see ∈ gT := gm 1210 (by decide +kernel) (by decide +kernel)
set_option maxRecDepth 100000 in
theorem k_1211 : Cond.code yX12_see cX12_see 1 (some .int) ∈ gT := gm 1211 (rfl) (by decide +kernel)
theorem k_1212 : Cond.methodLink RX12 239 yX12_isBookWord ∈ gT := gm 1212 (by decide +kernel) (by decide +kernel)
theorem k_1214 : Cond.instanceMethod yX12_isBookWord ∈ gT := gm 1214 (by decide +kernel) (by decide +kernel)
set_option maxRecDepth 100000 in
theorem k_1215 : Cond.code yX12_isBookWord cX12_isBookWord 1 (some .boolean) ∈ gT := gm 1215 (rfl) (by decide +kernel)
theorem k_1216 : Cond.constantLong RX12 221 (1651470187) ∈ gT := gm 1216 (by decide +kernel) (by decide +kernel)
theorem k_1217 : Cond.methodLink RX12 98 yX12_isWord ∈ gT := gm 1217 (by decide +kernel) (by decide +kernel)
theorem k_1219 : Cond.instanceMethod yX12_isWord ∈ gT := gm 1219 (by decide +kernel) (by decide +kernel)
set_option maxRecDepth 100000 in
theorem k_1220 : Cond.code yX12_isWord cX12_isWord 6 (some .boolean) ∈ gT := gm 1220 (rfl) (by decide +kernel)
theorem k_1221 : Cond.methodLink RX12 94 yX12_isLetter ∈ gT := gm 1221 (by decide +kernel) (by decide +kernel)
theorem k_1223 : Cond.instanceMethod yX12_isLetter ∈ gT := gm 1223 (by decide +kernel) (by decide +kernel)
set_option maxRecDepth 100000 in
theorem k_1224 : Cond.code yX12_isLetter cX12_isLetter 2 (some .boolean) ∈ gT := gm 1224 (rfl) (by decide +kernel)
theorem k_1225 : Cond.constantLong RX12 226 (7564153) ∈ gT := gm 1225 (by decide +kernel) (by decide +kernel)
theorem k_1226 : Cond.constantLong RX12 119 (422877685106) ∈ gT := gm 1226 (by decide +kernel) (by decide +kernel)
theorem k_1227 : Cond.constantLong RX12 237 (512736125800) ∈ gT := gm 1227 (by decide +kernel) (by decide +kernel)
theorem k_1228 : Cond.constantLong RX12 242 (6452601) ∈ gT := gm 1228 (by decide +kernel) (by decide +kernel)
theorem k_1229 : Cond.methodLink RX12 108 yX12_fails ∈ gT := gm 1229 (by decide +kernel) (by decide +kernel)
theorem k_1231 : Cond.instanceMethod yX12_fails ∈ gT := gm 1231 (by decide +kernel) (by decide +kernel)
set_option maxRecDepth 100000 in
theorem k_1232 : Cond.code yX12_fails cX12_fails 3 (some .boolean) ∈ gT := gm 1232 (rfl) (by decide +kernel)
theorem k_1233 : Cond.methodLink RX12 247 yX12_bookLineHere ∈ gT := gm 1233 (by decide +kernel) (by decide +kernel)
theorem k_1235 : Cond.instanceMethod yX12_bookLineHere ∈ gT := gm 1235 (by decide +kernel) (by decide +kernel)
set_option maxRecDepth 100000 in
theorem k_1236 : Cond.code yX12_bookLineHere cX12_bookLineHere 2 (some .boolean) ∈ gT := gm 1236 (rfl) (by decide +kernel)
theorem k_1237 : Cond.methodLink RX12 223 yX12_isBookHere ∈ gT := gm 1237 (by decide +kernel) (by decide +kernel)
theorem k_1239 : Cond.instanceMethod yX12_isBookHere ∈ gT := gm 1239 (by decide +kernel) (by decide +kernel)
set_option maxRecDepth 100000 in
theorem k_1240 : Cond.code yX12_isBookHere cX12_isBookHere 2 (some .boolean) ∈ gT := gm 1240 (rfl) (by decide +kernel)
theorem k_1241 : Cond.methodLink RX12 102 yX12_passWord ∈ gT := gm 1241 (by decide +kernel) (by decide +kernel)
theorem k_1243 : Cond.instanceMethod yX12_passWord ∈ gT := gm 1243 (by decide +kernel) (by decide +kernel)
set_option maxRecDepth 100000 in
theorem k_1244 : Cond.code yX12_passWord cX12_passWord 1 none ∈ gT := gm 1244 (rfl) (by decide +kernel)
theorem k_1245 : Cond.methodLink RX12 217 yX12_cellHere ∈ gT := gm 1245 (by decide +kernel) (by decide +kernel)
theorem k_1247 : Cond.instanceMethod yX12_cellHere ∈ gT := gm 1247 (by decide +kernel) (by decide +kernel)
set_option maxRecDepth 100000 in
theorem k_1248 : Cond.code yX12_cellHere cX12_cellHere 4 (some .boolean) ∈ gT := gm 1248 (rfl) (by decide +kernel)
theorem k_1249 : Cond.methodLink RX12 166 yX12_numberHere ∈ gT := gm 1249 (by decide +kernel) (by decide +kernel)
theorem k_1251 : Cond.instanceMethod yX12_numberHere ∈ gT := gm 1251 (by decide +kernel) (by decide +kernel)
set_option maxRecDepth 100000 in
theorem k_1252 : Cond.code yX12_numberHere cX12_numberHere 5 (some .boolean) ∈ gT := gm 1252 (rfl) (by decide +kernel)
theorem k_1253 : Cond.methodLink RX12 105 yX12_isDigit ∈ gT := gm 1253 (by decide +kernel) (by decide +kernel)
theorem k_1255 : Cond.instanceMethod yX12_isDigit ∈ gT := gm 1255 (by decide +kernel) (by decide +kernel)
set_option maxRecDepth 100000 in
theorem k_1256 : Cond.code yX12_isDigit cX12_isDigit 2 (some .boolean) ∈ gT := gm 1256 (rfl) (by decide +kernel)
theorem k_1257 : Cond.methodLink RX12 115 yX12_in ∈ gT := gm 1257 (by decide +kernel) (by decide +kernel)
theorem k_1258 : Cond.static yX12_in ∈ gT := gm 1258 (by decide +kernel) (by decide +kernel)
set_option maxRecDepth 100000 in
theorem k_1259 : Cond.code yX12_in cX12_in 6 (some .boolean) ∈ gT := gm 1259 (rfl) (by decide +kernel)
theorem k_1260 : Cond.methodLink RX12 228 yX12_isSkyHere ∈ gT := gm 1260 (by decide +kernel) (by decide +kernel)
theorem k_1262 : Cond.instanceMethod yX12_isSkyHere ∈ gT := gm 1262 (by decide +kernel) (by decide +kernel)
set_option maxRecDepth 100000 in
theorem k_1263 : Cond.code yX12_isSkyHere cX12_isSkyHere 1 (some .boolean) ∈ gT := gm 1263 (rfl) (by decide +kernel)
theorem k_1264 : Cond.methodLink RX12 231 yX12_isBuyerHere ∈ gT := gm 1264 (by decide +kernel) (by decide +kernel)
theorem k_1266 : Cond.instanceMethod yX12_isBuyerHere ∈ gT := gm 1266 (by decide +kernel) (by decide +kernel)
set_option maxRecDepth 100000 in
theorem k_1267 : Cond.code yX12_isBuyerHere cX12_isBuyerHere 3 (some .boolean) ∈ gT := gm 1267 (rfl) (by decide +kernel)
theorem k_1268 : Cond.methodLink RX12 234 yX12_isWatchHere ∈ gT := gm 1268 (by decide +kernel) (by decide +kernel)
theorem k_1270 : Cond.instanceMethod yX12_isWatchHere ∈ gT := gm 1270 (by decide +kernel) (by decide +kernel)
set_option maxRecDepth 100000 in
theorem k_1271 : Cond.code yX12_isWatchHere cX12_isWatchHere 2 (some .boolean) ∈ gT := gm 1271 (rfl) (by decide +kernel)
theorem k_1272 : Cond.methodLink RX12 250 yX12_isBuyHere ∈ gT := gm 1272 (by decide +kernel) (by decide +kernel)
theorem k_1274 : Cond.instanceMethod yX12_isBuyHere ∈ gT := gm 1274 (by decide +kernel) (by decide +kernel)
set_option maxRecDepth 100000 in
theorem k_1275 : Cond.code yX12_isBuyHere cX12_isBuyHere 2 (some .boolean) ∈ gT := gm 1275 (rfl) (by decide +kernel)
theorem k_1276 : Cond.methodLink RX12 182 yX12_sum ∈ gT := gm 1276 (by decide +kernel) (by decide +kernel)
theorem k_1278 : Cond.instanceMethod yX12_sum ∈ gT := gm 1278 (by decide +kernel) (by decide +kernel)
set_option maxRecDepth 100000 in
theorem k_1279 : Cond.code yX12_sum cX12_sum 2 (some .boolean) ∈ gT := gm 1279 (rfl) (by decide +kernel)
theorem k_1280 : Cond.methodLink RX12 179 yX12_term ∈ gT := gm 1280 (by decide +kernel) (by decide +kernel)
theorem k_1282 : Cond.instanceMethod yX12_term ∈ gT := gm 1282 (by decide +kernel) (by decide +kernel)
set_option maxRecDepth 100000 in
theorem k_1283 : Cond.code yX12_term cX12_term 2 (some .boolean) ∈ gT := gm 1283 (rfl) (by decide +kernel)
theorem k_1284 : Cond.methodLink RX12 175 yX12_value ∈ gT := gm 1284 (by decide +kernel) (by decide +kernel)
theorem k_1286 : Cond.instanceMethod yX12_value ∈ gT := gm 1286 (by decide +kernel) (by decide +kernel)
set_option maxRecDepth 100000 in
theorem k_1287 : Cond.code yX12_value cX12_value 3 (some .boolean) ∈ gT := gm 1287 (rfl) (by decide +kernel)
theorem k_1288 : Cond.constant RX12 165 (99999) ∈ gT := gm 1288 (by decide +kernel) (by decide +kernel)
theorem k_1289 : Cond.methodLink RX12 169 yX12_makes ∈ gT := gm 1289 (by decide +kernel) (by decide +kernel)
theorem k_1291 : Cond.instanceMethod yX12_makes ∈ gT := gm 1291 (by decide +kernel) (by decide +kernel)
set_option maxRecDepth 100000 in
theorem k_1292 : Cond.code yX12_makes cX12_makes 2 (some .boolean) ∈ gT := gm 1292 (rfl) (by decide +kernel)
theorem k_1293 : Cond.methodLink RX12 161 yX12_puts ∈ gT := gm 1293 (by decide +kernel) (by decide +kernel)
theorem k_1295 : Cond.instanceMethod yX12_puts ∈ gT := gm 1295 (by decide +kernel) (by decide +kernel)
set_option maxRecDepth 100000 in
theorem k_1296 : Cond.code yX12_puts cX12_puts 3 none ∈ gT := gm 1296 (rfl) (by decide +kernel)
theorem k_1297 : Cond.methodLink RX12 172 yX12_wordHere ∈ gT := gm 1297 (by decide +kernel) (by decide +kernel)
theorem k_1299 : Cond.instanceMethod yX12_wordHere ∈ gT := gm 1299 (by decide +kernel) (by decide +kernel)
set_option maxRecDepth 100000 in
theorem k_1300 : Cond.code yX12_wordHere cX12_wordHere 1 (some .int) ∈ gT := gm 1300 (rfl) (by decide +kernel)
theorem k_1301 : Cond.constantLong RX12 121 (127978976601458) ∈ gT := gm 1301 (by decide +kernel) (by decide +kernel)
theorem k_1302 : Cond.constantLong RX12 123 (113740958232179) ∈ gT := gm 1302 (by decide +kernel) (by decide +kernel)
theorem k_1303 : Cond.constantLong RX12 125 (512735409267) ∈ gT := gm 1303 (by decide +kernel) (by decide +kernel)
theorem k_1304 : Cond.constantLong RX12 127 (495874305132) ∈ gT := gm 1304 (by decide +kernel) (by decide +kernel)
theorem k_1305 : Cond.constantLong RX12 129 (1852143732) ∈ gT := gm 1305 (by decide +kernel) (by decide +kernel)
theorem k_1306 : Cond.constantLong RX12 131 (495672716390) ∈ gT := gm 1306 (by decide +kernel) (by decide +kernel)
theorem k_1307 : Cond.constantLong RX12 133 (108230850603124) ∈ gT := gm 1307 (by decide +kernel) (by decide +kernel)
theorem k_1308 : Cond.constantLong RX12 135 (7169396) ∈ gT := gm 1308 (by decide +kernel) (by decide +kernel)
theorem k_1309 : Cond.constantLong RX12 137 (495690081125) ∈ gT := gm 1309 (by decide +kernel) (by decide +kernel)
theorem k_1310 : Cond.constantLong RX12 139 (1936682084) ∈ gT := gm 1310 (by decide +kernel) (by decide +kernel)
theorem k_1311 : Cond.constantLong RX12 141 (427021001579) ∈ gT := gm 1311 (by decide +kernel) (by decide +kernel)
theorem k_1312 : Cond.constantLong RX12 143 (6578553) ∈ gT := gm 1312 (by decide +kernel) (by decide +kernel)
theorem k_1313 : Cond.constantLong RX12 209 (26982) ∈ gT := gm 1313 (by decide +kernel) (by decide +kernel)
theorem k_1314 : Cond.methodLink RX12 211 yX12_takesWord ∈ gT := gm 1314 (by decide +kernel) (by decide +kernel)
theorem k_1316 : Cond.instanceMethod yX12_takesWord ∈ gT := gm 1316 (by decide +kernel) (by decide +kernel)
set_option maxRecDepth 100000 in
theorem k_1317 : Cond.code yX12_takesWord cX12_takesWord 3 (some .boolean) ∈ gT := gm 1317 (rfl) (by decide +kernel)
theorem k_1318 : Cond.methodLink RX12 214 yX12_tested ∈ gT := gm 1318 (by decide +kernel) (by decide +kernel)
theorem k_1320 : Cond.instanceMethod yX12_tested ∈ gT := gm 1320 (by decide +kernel) (by decide +kernel)
set_option maxRecDepth 100000 in
theorem k_1321 : Cond.code yX12_tested cX12_tested 3 (some .boolean) ∈ gT := gm 1321 (rfl) (by decide +kernel)
theorem k_1322 : Cond.methodLink RX12 199 yX12_fact ∈ gT := gm 1322 (by decide +kernel) (by decide +kernel)
theorem k_1324 : Cond.instanceMethod yX12_fact ∈ gT := gm 1324 (by decide +kernel) (by decide +kernel)
set_option maxRecDepth 100000 in
theorem k_1325 : Cond.code yX12_fact cX12_fact 3 (some .boolean) ∈ gT := gm 1325 (rfl) (by decide +kernel)
theorem k_1326 : Cond.constantLong RX12 185 (7237492) ∈ gT := gm 1326 (by decide +kernel) (by decide +kernel)
theorem k_1327 : Cond.methodLink RX12 187 yX12_opens ∈ gT := gm 1327 (by decide +kernel) (by decide +kernel)
theorem k_1329 : Cond.instanceMethod yX12_opens ∈ gT := gm 1329 (by decide +kernel) (by decide +kernel)
set_option maxRecDepth 100000 in
theorem k_1330 : Cond.code yX12_opens cX12_opens 2 (some .boolean) ∈ gT := gm 1330 (rfl) (by decide +kernel)
theorem k_1331 : Cond.methodLink RX12 190 yX12_compare ∈ gT := gm 1331 (by decide +kernel) (by decide +kernel)
theorem k_1333 : Cond.instanceMethod yX12_compare ∈ gT := gm 1333 (by decide +kernel) (by decide +kernel)
set_option maxRecDepth 100000 in
theorem k_1334 : Cond.code yX12_compare cX12_compare 5 (some .boolean) ∈ gT := gm 1334 (rfl) (by decide +kernel)
theorem k_1335 : Cond.methodLink RX12 202 yX12_closes ∈ gT := gm 1335 (by decide +kernel) (by decide +kernel)
theorem k_1337 : Cond.instanceMethod yX12_closes ∈ gT := gm 1337 (by decide +kernel) (by decide +kernel)
set_option maxRecDepth 100000 in
theorem k_1338 : Cond.code yX12_closes cX12_closes 1 none ∈ gT := gm 1338 (rfl) (by decide +kernel)
theorem k_1339 : Cond.methodLink RX12 193 yX12_layDown ∈ gT := gm 1339 (by decide +kernel) (by decide +kernel)
theorem k_1341 : Cond.instanceMethod yX12_layDown ∈ gT := gm 1341 (by decide +kernel) (by decide +kernel)
set_option maxRecDepth 100000 in
theorem k_1342 : Cond.code yX12_layDown cX12_layDown 2 none ∈ gT := gm 1342 (rfl) (by decide +kernel)
theorem k_1343 : Cond.methodLink RX12 157 yX12_strength ∈ gT := gm 1343 (by decide +kernel) (by decide +kernel)
theorem k_1344 : Cond.static yX12_strength ∈ gT := gm 1344 (by decide +kernel) (by decide +kernel)
set_option maxRecDepth 100000 in
theorem k_1345 : Cond.code yX12_strength cX12_strength 1 (some .int) ∈ gT := gm 1345 (rfl) (by decide +kernel)
theorem k_1346 : Cond.methodLink RX12 196 yX12_isInside ∈ gT := gm 1346 (by decide +kernel) (by decide +kernel)
theorem k_1348 : Cond.instanceMethod yX12_isInside ∈ gT := gm 1348 (by decide +kernel) (by decide +kernel)
set_option maxRecDepth 100000 in
theorem k_1349 : Cond.code yX12_isInside cX12_isInside 2 (some .boolean) ∈ gT := gm 1349 (rfl) (by decide +kernel)
theorem k_1350 : Cond.constantLong RX12 205 (6385252) ∈ gT := gm 1350 (by decide +kernel) (by decide +kernel)
theorem k_1351 : Cond.constantLong RX12 207 (28530) ∈ gT := gm 1351 (by decide +kernel) (by decide +kernel)
theorem k_1352 : Cond.methodLink RL 27 yX12_book ∈ gT := gm 1352 (by decide +kernel) (by decide +kernel)
theorem k_1353 : Cond.instanceMethod yX12_book ∈ gT := gm 1353 (by decide +kernel) (by decide +kernel)
theorem k_1354 : Cond.selects RX12 yX12_book yX12_book ∈ gT := gm 1354 (by decide +kernel) (by decide +kernel)
set_option maxRecDepth 100000 in
theorem k_1355 : Cond.code yX12_book cX12_book 2 (some .int) ∈ gT := gm 1355 (rfl) (by decide +kernel)
theorem k_1356 : Cond.methodLink RX12 262 yX12_begins ∈ gT := gm 1356 (by decide +kernel) (by decide +kernel)
theorem k_1358 : Cond.instanceMethod yX12_begins ∈ gT := gm 1358 (by decide +kernel) (by decide +kernel)
set_option maxRecDepth 100000 in
theorem k_1359 : Cond.code yX12_begins cX12_begins 3 none ∈ gT := gm 1359 (rfl) (by decide +kernel)
theorem k_1360 : Cond.methodLink RL 35 yX12_force ∈ gT := gm 1360 (by decide +kernel) (by decide +kernel)
theorem k_1361 : Cond.instanceMethod yX12_force ∈ gT := gm 1361 (by decide +kernel) (by decide +kernel)
theorem k_1362 : Cond.selects RX12 yX12_force yX12_force ∈ gT := gm 1362 (by decide +kernel) (by decide +kernel)
set_option maxRecDepth 100000 in
theorem k_1363 : Cond.code yX12_force cX12_force 3 (some .int) ∈ gT := gm 1363 (rfl) (by decide +kernel)
theorem k_1364 : Cond.methodLink RX12 295 yX12_isRule ∈ gT := gm 1364 (by decide +kernel) (by decide +kernel)
theorem k_1366 : Cond.instanceMethod yX12_isRule ∈ gT := gm 1366 (by decide +kernel) (by decide +kernel)
set_option maxRecDepth 100000 in
theorem k_1367 : Cond.code yX12_isRule cX12_isRule 2 (some .boolean) ∈ gT := gm 1367 (rfl) (by decide +kernel)
theorem k_1368 : Cond.methodLink RL 40 yX12_buyer ∈ gT := gm 1368 (by decide +kernel) (by decide +kernel)
theorem k_1369 : Cond.instanceMethod yX12_buyer ∈ gT := gm 1369 (by decide +kernel) (by decide +kernel)
theorem k_1370 : Cond.selects RX12 yX12_buyer yX12_buyer ∈ gT := gm 1370 (by decide +kernel) (by decide +kernel)
set_option maxRecDepth 100000 in
theorem k_1371 : Cond.code yX12_buyer cX12_buyer 3 (some .int) ∈ gT := gm 1371 (rfl) (by decide +kernel)
theorem k_1372 : Cond.methodLink RX12 298 yX12_isBuyer ∈ gT := gm 1372 (by decide +kernel) (by decide +kernel)
theorem k_1374 : Cond.instanceMethod yX12_isBuyer ∈ gT := gm 1374 (by decide +kernel) (by decide +kernel)
set_option maxRecDepth 100000 in
theorem k_1375 : Cond.code yX12_isBuyer cX12_isBuyer 2 (some .boolean) ∈ gT := gm 1375 (rfl) (by decide +kernel)
theorem k_1376 : Cond.methodLink RX12 301 yX12_temperOf ∈ gT := gm 1376 (by decide +kernel) (by decide +kernel)
theorem k_1378 : Cond.instanceMethod yX12_temperOf ∈ gT := gm 1378 (by decide +kernel) (by decide +kernel)
set_option maxRecDepth 100000 in
theorem k_1379 : Cond.code yX12_temperOf cX12_temperOf 2 (some .int) ∈ gT := gm 1379 (rfl) (by decide +kernel)
theorem k_1380 : Cond.methodLink RX12 289 yX12_boughtBy ∈ gT := gm 1380 (by decide +kernel) (by decide +kernel)
theorem k_1382 : Cond.instanceMethod yX12_boughtBy ∈ gT := gm 1382 (by decide +kernel) (by decide +kernel)
set_option maxRecDepth 100000 in
theorem k_1383 : Cond.code yX12_boughtBy cX12_boughtBy 2 (some .int) ∈ gT := gm 1383 (rfl) (by decide +kernel)
theorem k_1384 : Cond.methodLink RX12 292 yX12_metOf ∈ gT := gm 1384 (by decide +kernel) (by decide +kernel)
theorem k_1386 : Cond.instanceMethod yX12_metOf ∈ gT := gm 1386 (by decide +kernel) (by decide +kernel)
set_option maxRecDepth 100000 in
theorem k_1387 : Cond.code yX12_metOf cX12_metOf 2 (some .int) ∈ gT := gm 1387 (rfl) (by decide +kernel)
theorem k_1388 : Cond.methodLink RX12 304 yX12_sinceOf ∈ gT := gm 1388 (by decide +kernel) (by decide +kernel)
theorem k_1390 : Cond.instanceMethod yX12_sinceOf ∈ gT := gm 1390 (by decide +kernel) (by decide +kernel)
set_option maxRecDepth 100000 in
theorem k_1391 : Cond.code yX12_sinceOf cX12_sinceOf 3 (some .int) ∈ gT := gm 1391 (rfl) (by decide +kernel)
theorem k_1392 : Cond.methodLink RX12 286 yX12_lastOf ∈ gT := gm 1392 (by decide +kernel) (by decide +kernel)
theorem k_1394 : Cond.instanceMethod yX12_lastOf ∈ gT := gm 1394 (by decide +kernel) (by decide +kernel)
set_option maxRecDepth 100000 in
theorem k_1395 : Cond.code yX12_lastOf cX12_lastOf 2 (some .int) ∈ gT := gm 1395 (rfl) (by decide +kernel)
theorem k_1396 : Cond.methodLink RL 44 yX12_sky ∈ gT := gm 1396 (by decide +kernel) (by decide +kernel)
theorem k_1397 : Cond.instanceMethod yX12_sky ∈ gT := gm 1397 (by decide +kernel) (by decide +kernel)
theorem k_1398 : Cond.selects RX12 yX12_sky yX12_sky ∈ gT := gm 1398 (by decide +kernel) (by decide +kernel)
set_option maxRecDepth 100000 in
theorem k_1399 : Cond.code yX12_sky cX12_sky 3 (some .int) ∈ gT := gm 1399 (rfl) (by decide +kernel)
theorem k_1400 : Cond.methodLink RX12 307 yX12_isClock ∈ gT := gm 1400 (by decide +kernel) (by decide +kernel)
theorem k_1402 : Cond.instanceMethod yX12_isClock ∈ gT := gm 1402 (by decide +kernel) (by decide +kernel)
set_option maxRecDepth 100000 in
theorem k_1403 : Cond.code yX12_isClock cX12_isClock 2 (some .boolean) ∈ gT := gm 1403 (rfl) (by decide +kernel)
theorem k_1404 : Cond.methodLink RX12 283 yX12_isBook ∈ gT := gm 1404 (by decide +kernel) (by decide +kernel)
theorem k_1406 : Cond.instanceMethod yX12_isBook ∈ gT := gm 1406 (by decide +kernel) (by decide +kernel)
set_option maxRecDepth 100000 in
theorem k_1407 : Cond.code yX12_isBook cX12_isBook 1 (some .boolean) ∈ gT := gm 1407 (rfl) (by decide +kernel)
theorem k_1408 : Cond.methodLink RL 68 yX12_undo ∈ gT := gm 1408 (by decide +kernel) (by decide +kernel)
theorem k_1409 : Cond.instanceMethod yX12_undo ∈ gT := gm 1409 (by decide +kernel) (by decide +kernel)
theorem k_1410 : Cond.selects RX12 yX12_undo yX12_undo ∈ gT := gm 1410 (by decide +kernel) (by decide +kernel)
set_option maxRecDepth 100000 in
theorem k_1411 : Cond.code yX12_undo cX12_undo 2 (some .int) ∈ gT := gm 1411 (rfl) (by decide +kernel)
theorem k_1412 : Cond.methodLink RL 48 yX12_day ∈ gT := gm 1412 (by decide +kernel) (by decide +kernel)
theorem k_1413 : Cond.instanceMethod yX12_day ∈ gT := gm 1413 (by decide +kernel) (by decide +kernel)
theorem k_1414 : Cond.selects RX12 yX12_day yX12_day ∈ gT := gm 1414 (by decide +kernel) (by decide +kernel)
set_option maxRecDepth 100000 in
theorem k_1415 : Cond.code yX12_day cX12_day 1 (some .int) ∈ gT := gm 1415 (rfl) (by decide +kernel)
theorem k_1416 : Cond.methodLink RX12 351 yX12_keepsAct ∈ gT := gm 1416 (by decide +kernel) (by decide +kernel)
theorem k_1418 : Cond.instanceMethod yX12_keepsAct ∈ gT := gm 1418 (by decide +kernel) (by decide +kernel)
set_option maxRecDepth 100000 in
theorem k_1419 : Cond.code yX12_keepsAct cX12_keepsAct 2 none ∈ gT := gm 1419 (rfl) (by decide +kernel)
theorem k_1420 : Cond.methodLink RX12 348 yX12_passes ∈ gT := gm 1420 (by decide +kernel) (by decide +kernel)
theorem k_1422 : Cond.instanceMethod yX12_passes ∈ gT := gm 1422 (by decide +kernel) (by decide +kernel)
set_option maxRecDepth 100000 in
theorem k_1423 : Cond.code yX12_passes cX12_passes 3 (some .int) ∈ gT := gm 1423 (rfl) (by decide +kernel)
theorem k_1424 : Cond.methodLink RX12 336 yX12_canBuy ∈ gT := gm 1424 (by decide +kernel) (by decide +kernel)
theorem k_1426 : Cond.instanceMethod yX12_canBuy ∈ gT := gm 1426 (by decide +kernel) (by decide +kernel)
set_option maxRecDepth 100000 in
theorem k_1427 : Cond.code yX12_canBuy cX12_canBuy 2 (some .boolean) ∈ gT := gm 1427 (rfl) (by decide +kernel)
theorem k_1428 : Cond.methodLink RX12 339 yX12_isWilling ∈ gT := gm 1428 (by decide +kernel) (by decide +kernel)
theorem k_1430 : Cond.instanceMethod yX12_isWilling ∈ gT := gm 1430 (by decide +kernel) (by decide +kernel)
set_option maxRecDepth 100000 in
theorem k_1431 : Cond.code yX12_isWilling cX12_isWilling 3 (some .boolean) ∈ gT := gm 1431 (rfl) (by decide +kernel)
theorem k_1432 : Cond.methodLink RX12 314 yX12_clock ∈ gT := gm 1432 (by decide +kernel) (by decide +kernel)
theorem k_1434 : Cond.instanceMethod yX12_clock ∈ gT := gm 1434 (by decide +kernel) (by decide +kernel)
set_option maxRecDepth 100000 in
theorem k_1435 : Cond.code yX12_clock cX12_clock 1 (some .int) ∈ gT := gm 1435 (rfl) (by decide +kernel)
theorem k_1436 : Cond.methodLink RX12 317 yX12_soldAll ∈ gT := gm 1436 (by decide +kernel) (by decide +kernel)
theorem k_1438 : Cond.instanceMethod yX12_soldAll ∈ gT := gm 1438 (by decide +kernel) (by decide +kernel)
set_option maxRecDepth 100000 in
theorem k_1439 : Cond.code yX12_soldAll cX12_soldAll 3 (some .int) ∈ gT := gm 1439 (rfl) (by decide +kernel)
theorem k_1440 : Cond.methodLink RX12 320 yX12_summedBy ∈ gT := gm 1440 (by decide +kernel) (by decide +kernel)
theorem k_1442 : Cond.instanceMethod yX12_summedBy ∈ gT := gm 1442 (by decide +kernel) (by decide +kernel)
set_option maxRecDepth 100000 in
theorem k_1443 : Cond.code yX12_summedBy cX12_summedBy 4 (some .long) ∈ gT := gm 1443 (rfl) (by decide +kernel)
theorem k_1444 : Cond.methodLink RX12 310 yX12_reckons ∈ gT := gm 1444 (by decide +kernel) (by decide +kernel)
theorem k_1446 : Cond.instanceMethod yX12_reckons ∈ gT := gm 1446 (by decide +kernel) (by decide +kernel)
set_option maxRecDepth 100000 in
theorem k_1447 : Cond.code yX12_reckons cX12_reckons 11 (some .long) ∈ gT := gm 1447 (rfl) (by decide +kernel)
theorem k_1448 : Cond.methodLink RX12 271 yX12_push ∈ gT := gm 1448 (by decide +kernel) (by decide +kernel)
theorem k_1450 : Cond.instanceMethod yX12_push ∈ gT := gm 1450 (by decide +kernel) (by decide +kernel)
set_option maxRecDepth 100000 in
theorem k_1451 : Cond.code yX12_push cX12_push 3 none ∈ gT := gm 1451 (rfl) (by decide +kernel)
theorem k_1452 : Cond.methodLink RX12 275 yX12_pop ∈ gT := gm 1452 (by decide +kernel) (by decide +kernel)
theorem k_1454 : Cond.instanceMethod yX12_pop ∈ gT := gm 1454 (by decide +kernel) (by decide +kernel)
set_option maxRecDepth 100000 in
theorem k_1455 : Cond.code yX12_pop cX12_pop 1 (some .long) ∈ gT := gm 1455 (rfl) (by decide +kernel)
theorem k_1456 : Cond.methodLink RX12 279 yX12_one ∈ gT := gm 1456 (by decide +kernel) (by decide +kernel)
theorem k_1457 : Cond.static yX12_one ∈ gT := gm 1457 (by decide +kernel) (by decide +kernel)
set_option maxRecDepth 100000 in
theorem k_1458 : Cond.code yX12_one cX12_one 5 (some .long) ∈ gT := gm 1458 (rfl) (by decide +kernel)
theorem k_1459 : Cond.methodLink RX12 342 yX12_comes ∈ gT := gm 1459 (by decide +kernel) (by decide +kernel)
theorem k_1461 : Cond.instanceMethod yX12_comes ∈ gT := gm 1461 (by decide +kernel) (by decide +kernel)
set_option maxRecDepth 100000 in
theorem k_1462 : Cond.code yX12_comes cX12_comes 2 (some .boolean) ∈ gT := gm 1462 (rfl) (by decide +kernel)
theorem k_1463 : Cond.methodLink RX12 330 yX12_isMet ∈ gT := gm 1463 (by decide +kernel) (by decide +kernel)
theorem k_1465 : Cond.instanceMethod yX12_isMet ∈ gT := gm 1465 (by decide +kernel) (by decide +kernel)
set_option maxRecDepth 100000 in
theorem k_1466 : Cond.code yX12_isMet cX12_isMet 2 (some .boolean) ∈ gT := gm 1466 (rfl) (by decide +kernel)
theorem k_1467 : Cond.methodLink RX12 327 yX12_isOf ∈ gT := gm 1467 (by decide +kernel) (by decide +kernel)
theorem k_1468 : Cond.static yX12_isOf ∈ gT := gm 1468 (by decide +kernel) (by decide +kernel)
set_option maxRecDepth 100000 in
theorem k_1469 : Cond.code yX12_isOf cX12_isOf 2 (some .boolean) ∈ gT := gm 1469 (rfl) (by decide +kernel)
theorem k_1470 : Cond.methodLink RX12 333 yX12_takes ∈ gT := gm 1470 (by decide +kernel) (by decide +kernel)
theorem k_1472 : Cond.instanceMethod yX12_takes ∈ gT := gm 1472 (by decide +kernel) (by decide +kernel)
set_option maxRecDepth 100000 in
theorem k_1473 : Cond.code yX12_takes cX12_takes 3 none ∈ gT := gm 1473 (rfl) (by decide +kernel)
theorem k_1474 : Cond.methodLink RX12 345 yX12_weathers ∈ gT := gm 1474 (by decide +kernel) (by decide +kernel)
theorem k_1476 : Cond.instanceMethod yX12_weathers ∈ gT := gm 1476 (by decide +kernel) (by decide +kernel)
set_option maxRecDepth 100000 in
theorem k_1477 : Cond.code yX12_weathers cX12_weathers 4 none ∈ gT := gm 1477 (rfl) (by decide +kernel)
theorem k_1478 : Cond.methodLink RL 52 yX12_sell ∈ gT := gm 1478 (by decide +kernel) (by decide +kernel)
theorem k_1479 : Cond.instanceMethod yX12_sell ∈ gT := gm 1479 (by decide +kernel) (by decide +kernel)
theorem k_1480 : Cond.selects RX12 yX12_sell yX12_sell ∈ gT := gm 1480 (by decide +kernel) (by decide +kernel)
set_option maxRecDepth 100000 in
theorem k_1481 : Cond.code yX12_sell cX12_sell 2 (some .int) ∈ gT := gm 1481 (rfl) (by decide +kernel)
theorem k_1482 : Cond.methodLink RL 56 yX12_calm ∈ gT := gm 1482 (by decide +kernel) (by decide +kernel)
theorem k_1483 : Cond.instanceMethod yX12_calm ∈ gT := gm 1483 (by decide +kernel) (by decide +kernel)
theorem k_1484 : Cond.selects RX12 yX12_calm yX12_calm ∈ gT := gm 1484 (by decide +kernel) (by decide +kernel)
set_option maxRecDepth 100000 in
theorem k_1485 : Cond.code yX12_calm cX12_calm 3 (some .int) ∈ gT := gm 1485 (rfl) (by decide +kernel)
theorem k_1486 : Cond.constantLong RX12 354 (20) ∈ gT := gm 1486 (by decide +kernel) (by decide +kernel)
theorem k_1487 : Cond.methodLink RL 60 yX12_watch ∈ gT := gm 1487 (by decide +kernel) (by decide +kernel)
theorem k_1488 : Cond.instanceMethod yX12_watch ∈ gT := gm 1488 (by decide +kernel) (by decide +kernel)
theorem k_1489 : Cond.selects RX12 yX12_watch yX12_watch ∈ gT := gm 1489 (by decide +kernel) (by decide +kernel)
set_option maxRecDepth 100000 in
theorem k_1490 : Cond.code yX12_watch cX12_watch 3 (some .int) ∈ gT := gm 1490 (rfl) (by decide +kernel)
theorem k_1491 : Cond.methodLink RL 64 yX12_change ∈ gT := gm 1491 (by decide +kernel) (by decide +kernel)
theorem k_1492 : Cond.instanceMethod yX12_change ∈ gT := gm 1492 (by decide +kernel) (by decide +kernel)
theorem k_1493 : Cond.selects RX12 yX12_change yX12_change ∈ gT := gm 1493 (by decide +kernel) (by decide +kernel)
set_option maxRecDepth 100000 in
theorem k_1494 : Cond.code yX12_change cX12_change 4 (some .int) ∈ gT := gm 1494 (rfl) (by decide +kernel)
theorem k_1495 : Cond.constantLong RX12 356 (9) ∈ gT := gm 1495 (by decide +kernel) (by decide +kernel)
theorem k_1496 : Cond.methodLink RL 73 yX12_ahead ∈ gT := gm 1496 (by decide +kernel) (by decide +kernel)
theorem k_1497 : Cond.instanceMethod yX12_ahead ∈ gT := gm 1497 (by decide +kernel) (by decide +kernel)
theorem k_1498 : Cond.selects RX12 yX12_ahead yX12_ahead ∈ gT := gm 1498 (by decide +kernel) (by decide +kernel)
set_option maxRecDepth 100000 in
theorem k_1499 : Cond.code yX12_ahead cX12_ahead 5 (some .int) ∈ gT := gm 1499 (rfl) (by decide +kernel)
theorem k_1500 : Cond.constantLong RX12 358 (100) ∈ gT := gm 1500 (by decide +kernel) (by decide +kernel)
theorem k_1501 : Cond.constantLong RX12 360 (2) ∈ gT := gm 1501 (by decide +kernel) (by decide +kernel)
theorem k_1502 : Cond.methodLink RX12 362 yX12_keeps ∈ gT := gm 1502 (by decide +kernel) (by decide +kernel)
theorem k_1504 : Cond.instanceMethod yX12_keeps ∈ gT := gm 1504 (by decide +kernel) (by decide +kernel)
set_option maxRecDepth 100000 in
theorem k_1505 : Cond.code yX12_keeps cX12_keeps 2 none ∈ gT := gm 1505 (rfl) (by decide +kernel)
theorem k_1506 : Cond.methodLink RX12 365 yX12_passesAll ∈ gT := gm 1506 (by decide +kernel) (by decide +kernel)
theorem k_1508 : Cond.instanceMethod yX12_passesAll ∈ gT := gm 1508 (by decide +kernel) (by decide +kernel)
set_option maxRecDepth 100000 in
theorem k_1509 : Cond.code yX12_passesAll cX12_passesAll 3 none ∈ gT := gm 1509 (rfl) (by decide +kernel)
theorem k_1510 : Cond.methodLink RX12 368 yX12_laysBack ∈ gT := gm 1510 (by decide +kernel) (by decide +kernel)
theorem k_1512 : Cond.instanceMethod yX12_laysBack ∈ gT := gm 1512 (by decide +kernel) (by decide +kernel)
set_option maxRecDepth 100000 in
theorem k_1513 : Cond.code yX12_laysBack cX12_laysBack 2 none ∈ gT := gm 1513 (rfl) (by decide +kernel)
theorem k_1514 : Cond.methodLink RL 77 yX12_buys ∈ gT := gm 1514 (by decide +kernel) (by decide +kernel)
theorem k_1515 : Cond.instanceMethod yX12_buys ∈ gT := gm 1515 (by decide +kernel) (by decide +kernel)
theorem k_1516 : Cond.selects RX12 yX12_buys yX12_buys ∈ gT := gm 1516 (by decide +kernel) (by decide +kernel)
set_option maxRecDepth 100000 in
theorem k_1517 : Cond.code yX12_buys cX12_buys 2 (some .int) ∈ gT := gm 1517 (rfl) (by decide +kernel)
theorem k_1518 : Cond.methodLink RX12 371 yX12_buysIn ∈ gT := gm 1518 (by decide +kernel) (by decide +kernel)
theorem k_1520 : Cond.instanceMethod yX12_buysIn ∈ gT := gm 1520 (by decide +kernel) (by decide +kernel)
set_option maxRecDepth 100000 in
theorem k_1521 : Cond.code yX12_buysIn cX12_buysIn 5 (some .int) ∈ gT := gm 1521 (rfl) (by decide +kernel)
theorem k_1522 : Cond.methodLink RL 81 yX12_empty ∈ gT := gm 1522 (by decide +kernel) (by decide +kernel)
theorem k_1523 : Cond.instanceMethod yX12_empty ∈ gT := gm 1523 (by decide +kernel) (by decide +kernel)
theorem k_1524 : Cond.selects RX12 yX12_empty yX12_empty ∈ gT := gm 1524 (by decide +kernel) (by decide +kernel)
set_option maxRecDepth 100000 in
theorem k_1525 : Cond.code yX12_empty cX12_empty 3 (some .int) ∈ gT := gm 1525 (rfl) (by decide +kernel)
theorem k_1526 : Cond.methodLink RL 85 yX12_tells ∈ gT := gm 1526 (by decide +kernel) (by decide +kernel)
theorem k_1527 : Cond.instanceMethod yX12_tells ∈ gT := gm 1527 (by decide +kernel) (by decide +kernel)
theorem k_1528 : Cond.selects RX12 yX12_tells yX12_tells ∈ gT := gm 1528 (by decide +kernel) (by decide +kernel)
set_option maxRecDepth 100000 in
theorem k_1529 : Cond.code yX12_tells cX12_tells 8 (some .int) ∈ gT := gm 1529 (rfl) (by decide +kernel)
theorem k_1530 : Cond.methodLink RX12 375 yX12_bits ∈ gT := gm 1530 (by decide +kernel) (by decide +kernel)
theorem k_1531 : Cond.static yX12_bits ∈ gT := gm 1531 (by decide +kernel) (by decide +kernel)
set_option maxRecDepth 100000 in
theorem k_1532 : Cond.code yX12_bits cX12_bits 3 (some .int) ∈ gT := gm 1532 (rfl) (by decide +kernel)
theorem k_1533 : Cond.methodLink RX12 378 yX12_common ∈ gT := gm 1533 (by decide +kernel) (by decide +kernel)
theorem k_1534 : Cond.static yX12_common ∈ gT := gm 1534 (by decide +kernel) (by decide +kernel)
set_option maxRecDepth 100000 in
theorem k_1535 : Cond.code yX12_common cX12_common 5 (some .int) ∈ gT := gm 1535 (rfl) (by decide +kernel)
theorem k_1536 : Cond.methodLink RL 89 yX12_guard ∈ gT := gm 1536 (by decide +kernel) (by decide +kernel)
theorem k_1537 : Cond.instanceMethod yX12_guard ∈ gT := gm 1537 (by decide +kernel) (by decide +kernel)
theorem k_1538 : Cond.selects RX12 yX12_guard yX12_guard ∈ gT := gm 1538 (by decide +kernel) (by decide +kernel)
set_option maxRecDepth 100000 in
theorem k_1539 : Cond.code yX12_guard cX12_guard 5 (some .int) ∈ gT := gm 1539 (rfl) (by decide +kernel)
theorem k_1540 : Cond.constantLong RX12 381 (30) ∈ gT := gm 1540 (by decide +kernel) (by decide +kernel)
theorem k_1541 : Cond.methodLink RX12 383 yX12_soldIn ∈ gT := gm 1541 (by decide +kernel) (by decide +kernel)
theorem k_1543 : Cond.instanceMethod yX12_soldIn ∈ gT := gm 1543 (by decide +kernel) (by decide +kernel)
set_option maxRecDepth 100000 in
theorem k_1544 : Cond.code yX12_soldIn cX12_soldIn 4 (some .int) ∈ gT := gm 1544 (rfl) (by decide +kernel)
theorem k_1545 : Cond.methodLink RL 93 yX12_best ∈ gT := gm 1545 (by decide +kernel) (by decide +kernel)
theorem k_1546 : Cond.instanceMethod yX12_best ∈ gT := gm 1546 (by decide +kernel) (by decide +kernel)
theorem k_1547 : Cond.selects RX12 yX12_best yX12_best ∈ gT := gm 1547 (by decide +kernel) (by decide +kernel)
set_option maxRecDepth 100000 in
theorem k_1548 : Cond.code yX12_best cX12_best 7 (some .int) ∈ gT := gm 1548 (rfl) (by decide +kernel)
theorem k_1549 : Cond.methodLink RL 97 yX12_least ∈ gT := gm 1549 (by decide +kernel) (by decide +kernel)
theorem k_1550 : Cond.instanceMethod yX12_least ∈ gT := gm 1550 (by decide +kernel) (by decide +kernel)
theorem k_1551 : Cond.selects RX12 yX12_least yX12_least ∈ gT := gm 1551 (by decide +kernel) (by decide +kernel)
set_option maxRecDepth 100000 in
theorem k_1552 : Cond.code yX12_least cX12_least 5 (some .int) ∈ gT := gm 1552 (rfl) (by decide +kernel)
theorem k_1553 : Cond.constantLong RX12 386 (60) ∈ gT := gm 1553 (by decide +kernel) (by decide +kernel)
theorem k_1554 : Cond.methodLink RL 101 yX12_soothe ∈ gT := gm 1554 (by decide +kernel) (by decide +kernel)
theorem k_1555 : Cond.instanceMethod yX12_soothe ∈ gT := gm 1555 (by decide +kernel) (by decide +kernel)
theorem k_1556 : Cond.selects RX12 yX12_soothe yX12_soothe ∈ gT := gm 1556 (by decide +kernel) (by decide +kernel)
set_option maxRecDepth 100000 in
theorem k_1557 : Cond.code yX12_soothe cX12_soothe 7 (some .int) ∈ gT := gm 1557 (rfl) (by decide +kernel)
theorem k_1558 : Cond.methodLink RL 105 yX12_page ∈ gT := gm 1558 (by decide +kernel) (by decide +kernel)
theorem k_1559 : Cond.instanceMethod yX12_page ∈ gT := gm 1559 (by decide +kernel) (by decide +kernel)
theorem k_1560 : Cond.selects RX12 yX12_page yX12_page ∈ gT := gm 1560 (by decide +kernel) (by decide +kernel)
set_option maxRecDepth 100000 in
theorem k_1561 : Cond.code yX12_page cX12_page 7 (some .int) ∈ gT := gm 1561 (rfl) (by decide +kernel)
theorem k_1562 : Cond.methodLink RX12 388 yX12_grainsOf ∈ gT := gm 1562 (by decide +kernel) (by decide +kernel)
theorem k_1564 : Cond.instanceMethod yX12_grainsOf ∈ gT := gm 1564 (by decide +kernel) (by decide +kernel)
set_option maxRecDepth 100000 in
theorem k_1565 : Cond.code yX12_grainsOf cX12_grainsOf 4 (some .int) ∈ gT := gm 1565 (rfl) (by decide +kernel)
theorem k_1566 : Cond.methodLink RL 109 yX12_fines ∈ gT := gm 1566 (by decide +kernel) (by decide +kernel)
theorem k_1567 : Cond.instanceMethod yX12_fines ∈ gT := gm 1567 (by decide +kernel) (by decide +kernel)
theorem k_1568 : Cond.selects RX12 yX12_fines yX12_fines ∈ gT := gm 1568 (by decide +kernel) (by decide +kernel)
set_option maxRecDepth 100000 in
theorem k_1569 : Cond.code yX12_fines cX12_fines 9 (some .int) ∈ gT := gm 1569 (rfl) (by decide +kernel)
theorem k_1570 : Cond.constantLong RX12 391 (9999) ∈ gT := gm 1570 (by decide +kernel) (by decide +kernel)
theorem k_1571 : Cond.methodLink RL 114 yX12_rests ∈ gT := gm 1571 (by decide +kernel) (by decide +kernel)
theorem k_1572 : Cond.instanceMethod yX12_rests ∈ gT := gm 1572 (by decide +kernel) (by decide +kernel)
theorem k_1573 : Cond.selects RX12 yX12_rests yX12_rests ∈ gT := gm 1573 (by decide +kernel) (by decide +kernel)
set_option maxRecDepth 100000 in
theorem k_1574 : Cond.code yX12_rests cX12_rests 12 (some .int) ∈ gT := gm 1574 (rfl) (by decide +kernel)
theorem k_1575 : Cond.methodLink RX12 393 yX12_valueOf ∈ gT := gm 1575 (by decide +kernel) (by decide +kernel)
theorem k_1577 : Cond.instanceMethod yX12_valueOf ∈ gT := gm 1577 (by decide +kernel) (by decide +kernel)
set_option maxRecDepth 100000 in
theorem k_1578 : Cond.code yX12_valueOf cX12_valueOf 2 (some .int) ∈ gT := gm 1578 (rfl) (by decide +kernel)
theorem k_1579 : Cond.methodLink RX12 396 yX12_isRest ∈ gT := gm 1579 (by decide +kernel) (by decide +kernel)
theorem k_1581 : Cond.instanceMethod yX12_isRest ∈ gT := gm 1581 (by decide +kernel) (by decide +kernel)
set_option maxRecDepth 100000 in
theorem k_1582 : Cond.code yX12_isRest cX12_isRest 4 (some .boolean) ∈ gT := gm 1582 (rfl) (by decide +kernel)
theorem k_1583 : Cond.methodLink RL 118 yX12_ring ∈ gT := gm 1583 (by decide +kernel) (by decide +kernel)
theorem k_1584 : Cond.instanceMethod yX12_ring ∈ gT := gm 1584 (by decide +kernel) (by decide +kernel)
theorem k_1585 : Cond.selects RX12 yX12_ring yX12_ring ∈ gT := gm 1585 (by decide +kernel) (by decide +kernel)
set_option maxRecDepth 100000 in
theorem k_1586 : Cond.code yX12_ring cX12_ring 4 (some .int) ∈ gT := gm 1586 (rfl) (by decide +kernel)
theorem k_1587 : Cond.methodLink RX12 399 yX12_areAlike ∈ gT := gm 1587 (by decide +kernel) (by decide +kernel)
theorem k_1589 : Cond.instanceMethod yX12_areAlike ∈ gT := gm 1589 (by decide +kernel) (by decide +kernel)
set_option maxRecDepth 100000 in
theorem k_1590 : Cond.code yX12_areAlike cX12_areAlike 4 (some .boolean) ∈ gT := gm 1590 (rfl) (by decide +kernel)
theorem k_1591 : Cond.methodLink RL 122 yX12_peak ∈ gT := gm 1591 (by decide +kernel) (by decide +kernel)
theorem k_1592 : Cond.instanceMethod yX12_peak ∈ gT := gm 1592 (by decide +kernel) (by decide +kernel)
theorem k_1593 : Cond.selects RX12 yX12_peak yX12_peak ∈ gT := gm 1593 (by decide +kernel) (by decide +kernel)
set_option maxRecDepth 100000 in
theorem k_1594 : Cond.code yX12_peak cX12_peak 7 (some .int) ∈ gT := gm 1594 (rfl) (by decide +kernel)
theorem k_1595 : Cond.methodLink RL 126 yX12_note ∈ gT := gm 1595 (by decide +kernel) (by decide +kernel)
theorem k_1596 : Cond.instanceMethod yX12_note ∈ gT := gm 1596 (by decide +kernel) (by decide +kernel)
theorem k_1597 : Cond.selects RX12 yX12_note yX12_note ∈ gT := gm 1597 (by decide +kernel) (by decide +kernel)
set_option maxRecDepth 100000 in
theorem k_1598 : Cond.code yX12_note cX12_note 5 (some .int) ∈ gT := gm 1598 (rfl) (by decide +kernel)
theorem k_1599 : Cond.methodLink RL 130 yX12_ruled ∈ gT := gm 1599 (by decide +kernel) (by decide +kernel)
theorem k_1600 : Cond.instanceMethod yX12_ruled ∈ gT := gm 1600 (by decide +kernel) (by decide +kernel)
theorem k_1601 : Cond.selects RX12 yX12_ruled yX12_ruled ∈ gT := gm 1601 (by decide +kernel) (by decide +kernel)
set_option maxRecDepth 100000 in
theorem k_1602 : Cond.code yX12_ruled cX12_ruled 5 (some .int) ∈ gT := gm 1602 (rfl) (by decide +kernel)
theorem k_1603 : Cond.methodLink RX12 408 yX12_fillsFits ∈ gT := gm 1603 (by decide +kernel) (by decide +kernel)
theorem k_1605 : Cond.instanceMethod yX12_fillsFits ∈ gT := gm 1605 (by decide +kernel) (by decide +kernel)
set_option maxRecDepth 100000 in
theorem k_1606 : Cond.code yX12_fillsFits cX12_fillsFits 4 none ∈ gT := gm 1606 (rfl) (by decide +kernel)
theorem k_1607 : Cond.methodLink RX12 402 yX12_spot ∈ gT := gm 1607 (by decide +kernel) (by decide +kernel)
theorem k_1608 : Cond.static yX12_spot ∈ gT := gm 1608 (by decide +kernel) (by decide +kernel)
set_option maxRecDepth 100000 in
theorem k_1609 : Cond.code yX12_spot cX12_spot 2 (some .int) ∈ gT := gm 1609 (rfl) (by decide +kernel)
theorem k_1610 : Cond.methodLink RX12 405 yX12_areNotesSo ∈ gT := gm 1610 (by decide +kernel) (by decide +kernel)
theorem k_1612 : Cond.instanceMethod yX12_areNotesSo ∈ gT := gm 1612 (by decide +kernel) (by decide +kernel)
set_option maxRecDepth 100000 in
theorem k_1613 : Cond.code yX12_areNotesSo cX12_areNotesSo 3 (some .boolean) ∈ gT := gm 1613 (rfl) (by decide +kernel)
theorem k_1614 : Cond.methodLink RL 134 yX12_look ∈ gT := gm 1614 (by decide +kernel) (by decide +kernel)
theorem k_1615 : Cond.instanceMethod yX12_look ∈ gT := gm 1615 (by decide +kernel) (by decide +kernel)
theorem k_1616 : Cond.selects RX12 yX12_look yX12_look ∈ gT := gm 1616 (by decide +kernel) (by decide +kernel)
set_option maxRecDepth 100000 in
theorem k_1617 : Cond.code yX12_look cX12_look 4 (some .int) ∈ gT := gm 1617 (rfl) (by decide +kernel)
theorem k_1618 : Cond.methodLink RX12 411 yX12_alikeAt ∈ gT := gm 1618 (by decide +kernel) (by decide +kernel)
theorem k_1620 : Cond.instanceMethod yX12_alikeAt ∈ gT := gm 1620 (by decide +kernel) (by decide +kernel)
set_option maxRecDepth 100000 in
theorem k_1621 : Cond.code yX12_alikeAt cX12_alikeAt 6 (some .int) ∈ gT := gm 1621 (rfl) (by decide +kernel)
theorem k_1622 : Cond.methodLink RL 138 yX12_seed ∈ gT := gm 1622 (by decide +kernel) (by decide +kernel)
theorem k_1623 : Cond.instanceMethod yX12_seed ∈ gT := gm 1623 (by decide +kernel) (by decide +kernel)
theorem k_1624 : Cond.selects RX12 yX12_seed yX12_seed ∈ gT := gm 1624 (by decide +kernel) (by decide +kernel)
set_option maxRecDepth 100000 in
theorem k_1625 : Cond.code yX12_seed cX12_seed 3 (some .int) ∈ gT := gm 1625 (rfl) (by decide +kernel)
theorem k_1626 : Cond.methodLink RL 142 yX12_summers ∈ gT := gm 1626 (by decide +kernel) (by decide +kernel)
theorem k_1627 : Cond.instanceMethod yX12_summers ∈ gT := gm 1627 (by decide +kernel) (by decide +kernel)
theorem k_1628 : Cond.selects RX12 yX12_summers yX12_summers ∈ gT := gm 1628 (by decide +kernel) (by decide +kernel)
set_option maxRecDepth 100000 in
theorem k_1629 : Cond.code yX12_summers cX12_summers 10 (some .int) ∈ gT := gm 1629 (rfl) (by decide +kernel)
theorem k_1630 : Cond.constantLong RX12 429 (10) ∈ gT := gm 1630 (by decide +kernel) (by decide +kernel)
theorem k_1631 : Cond.methodLink RX12 431 yX12_draw ∈ gT := gm 1631 (by decide +kernel) (by decide +kernel)
theorem k_1633 : Cond.instanceMethod yX12_draw ∈ gT := gm 1633 (by decide +kernel) (by decide +kernel)
set_option maxRecDepth 100000 in
theorem k_1634 : Cond.code yX12_draw cX12_draw 2 (some .int) ∈ gT := gm 1634 (rfl) (by decide +kernel)
theorem k_1635 : Cond.constantLong RX12 421 (1103515245) ∈ gT := gm 1635 (by decide +kernel) (by decide +kernel)
theorem k_1636 : Cond.constantLong RX12 423 (12345) ∈ gT := gm 1636 (by decide +kernel) (by decide +kernel)
theorem k_1637 : Cond.constantLong RX12 425 (2147483648) ∈ gT := gm 1637 (by decide +kernel) (by decide +kernel)
theorem k_1638 : Cond.constantLong RX12 427 (65536) ∈ gT := gm 1638 (by decide +kernel) (by decide +kernel)
theorem k_1639 : Cond.methodLink RL 146 yX12_count ∈ gT := gm 1639 (by decide +kernel) (by decide +kernel)
theorem k_1640 : Cond.instanceMethod yX12_count ∈ gT := gm 1640 (by decide +kernel) (by decide +kernel)
theorem k_1641 : Cond.selects RX12 yX12_count yX12_count ∈ gT := gm 1641 (by decide +kernel) (by decide +kernel)
set_option maxRecDepth 100000 in
theorem k_1642 : Cond.code yX12_count cX12_count 4 (some .int) ∈ gT := gm 1642 (rfl) (by decide +kernel)
theorem k_1643 : Cond.methodLink RX12 434 yX12_metAll ∈ gT := gm 1643 (by decide +kernel) (by decide +kernel)
theorem k_1645 : Cond.instanceMethod yX12_metAll ∈ gT := gm 1645 (by decide +kernel) (by decide +kernel)
set_option maxRecDepth 100000 in
theorem k_1646 : Cond.code yX12_metAll cX12_metAll 3 (some .int) ∈ gT := gm 1646 (rfl) (by decide +kernel)
theorem k_1647 : Cond.methodLink RL 150 yX12_image ∈ gT := gm 1647 (by decide +kernel) (by decide +kernel)
theorem k_1648 : Cond.instanceMethod yX12_image ∈ gT := gm 1648 (by decide +kernel) (by decide +kernel)
theorem k_1649 : Cond.selects RX12 yX12_image yX12_image ∈ gT := gm 1649 (by decide +kernel) (by decide +kernel)
set_option maxRecDepth 100000 in
theorem k_1650 : Cond.code yX12_image cX12_image 3 (some .int) ∈ gT := gm 1650 (rfl) (by decide +kernel)
theorem k_1651 : Cond.constantLong RX12 437 (3) ∈ gT := gm 1651 (by decide +kernel) (by decide +kernel)
theorem k_1652 : Cond.methodLink RL 154 yX12_back ∈ gT := gm 1652 (by decide +kernel) (by decide +kernel)
theorem k_1653 : Cond.instanceMethod yX12_back ∈ gT := gm 1653 (by decide +kernel) (by decide +kernel)
theorem k_1654 : Cond.selects RX12 yX12_back yX12_back ∈ gT := gm 1654 (by decide +kernel) (by decide +kernel)
set_option maxRecDepth 100000 in
theorem k_1655 : Cond.code yX12_back cX12_back 3 (some .int) ∈ gT := gm 1655 (rfl) (by decide +kernel)
theorem k_1656 : Cond.fieldLink RJ0 9 "java/lang/String" "value" "[B" ∈ gT := gm 1656 (by decide +kernel) (by decide +kernel)
theorem k_1657 : Cond.fieldLink RJ0 15 "java/lang/String" "coder" "B" ∈ gT := gm 1657 (by decide +kernel) (by decide +kernel)
end
section
/-! a row for each field that is read or written, by its link -/
section FLD
variable {p : Program} {l : Launch} {e : Env} {R : Room} {s : State} {m : MethodId} {args : Array Value} {below : List Frame} {meth : Method} {c : Code} {H : Heap} {locs : List Loc} {cells slots : Nat} {Q : State → Prop} {cc : ByteArray} {pc : Nat} {ls : Array Slot} {rest : List Value} {D : va_G} {A : Nat → Prop} {a : Nat} {tc : Nat → ClassId} {ws : va_W}
theorem gf_X10_9 (hx : p.tables.exec = Jvm.exec) (hb : c.code = cc) (hts : ∀ w ∈ gT, w.before args s = true) (hown : s.vm.findClass RX10 = some m.cls) (hK : va_K D classes (tysOf tc) s) (hP : va_P D classes ws H) (q0 : Nat) {fs : List Value} {v : Value} (he : ws[q0]? = some (a, .inr (10, fs))) (hv : fs[0]? = some v) (hdg : decode cc pc = .ok (.getfield 9, 3)) (kk : W p l e R s m args below meth c H locs cells slots Q (F0 m (pc + 3) ls (v :: rest))) : W p l e R s m args below meth c H locs cells slots Q (F0 m pc ls (.ref a :: rest)) := va_get (D := D) (ci := 10) (C := RX10) (T := TX10) (N := 6) hx hb hts iX10 hown hK hP q0 he rfl 0 (by decide) (hts _ k_130) (fun _ h9 => h9) hv hdg kk
theorem pf_X10_9 (hx : p.tables.exec = Jvm.exec) (hb : c.code = cc) (hts : ∀ w ∈ gT, w.before args s = true) (hown : s.vm.findClass RX10 = some m.cls) (hin2 : meth.name = "<init>") (hK : va_K D classes (tysOf tc) s) (hP : va_P D classes ws H) (hD : va_D A ws) (hS : va_S A s.heap H locs) (q0 : Nat) {fs : List Value} {v : Value} {ty : FieldType} (he : ws[q0]? = some (a, .inr (10, fs))) (hl : 0 < fs.length) (hd : parseFieldDescriptor (TX10 0).2.2.1 = some ty) (hn : narrow ty v = v) (hfit : fits ty v = true) (hdg : decode cc pc = .ok (.putfield 9, 3)) (kk : ∀ (H1 : Heap) (locs1 : List Loc), va_P D classes (ws.set q0 (a, .inr (10, fs.set 0 v))) H1 → va_D A (ws.set q0 (a, .inr (10, fs.set 0 v))) → va_S A s.heap H1 locs1 → W p l e R s m args below meth c H1 locs1 cells slots Q (F0 m (pc + 3) ls rest)) : W p l e R s m args below meth c H locs cells slots Q (F0 m pc ls (v :: .ref a :: rest)) := va_putF (D := D) (ci := 10) (C := RX10) (T := TX10) (N := 6) hx hb hts iX10 tyX10 tyX10_ok nmX10 hown hK hP hD hS q0 he rfl 0 (by decide) (hts _ k_130) (fun _ h9 => h9) rfl hin2 rfl hd hn hfit hl hdg kk
theorem gf_X10_15 (hx : p.tables.exec = Jvm.exec) (hb : c.code = cc) (hts : ∀ w ∈ gT, w.before args s = true) (hown : s.vm.findClass RX10 = some m.cls) (hK : va_K D classes (tysOf tc) s) (hP : va_P D classes ws H) (q0 : Nat) {fs : List Value} {v : Value} (he : ws[q0]? = some (a, .inr (10, fs))) (hv : fs[1]? = some v) (hdg : decode cc pc = .ok (.getfield 15, 3)) (kk : W p l e R s m args below meth c H locs cells slots Q (F0 m (pc + 3) ls (v :: rest))) : W p l e R s m args below meth c H locs cells slots Q (F0 m pc ls (.ref a :: rest)) := va_get (D := D) (ci := 10) (C := RX10) (T := TX10) (N := 6) hx hb hts iX10 hown hK hP q0 he rfl 1 (by decide) (hts _ k_131) (fun _ h9 => h9) hv hdg kk
theorem pf_X10_15 (hx : p.tables.exec = Jvm.exec) (hb : c.code = cc) (hts : ∀ w ∈ gT, w.before args s = true) (hown : s.vm.findClass RX10 = some m.cls) (hK : va_K D classes (tysOf tc) s) (hP : va_P D classes ws H) (hD : va_D A ws) (hS : va_S A s.heap H locs) (q0 : Nat) {fs : List Value} {v : Value} (he : ws[q0]? = some (a, .inr (10, fs))) (hl : 1 < fs.length) (hn : narrow .int v = v) (hfit : fits .int v = true) (hdg : decode cc pc = .ok (.putfield 15, 3)) (kk : ∀ (H1 : Heap) (locs1 : List Loc), va_P D classes (ws.set q0 (a, .inr (10, fs.set 1 v))) H1 → va_D A (ws.set q0 (a, .inr (10, fs.set 1 v))) → va_S A s.heap H1 locs1 → W p l e R s m args below meth c H1 locs1 cells slots Q (F0 m (pc + 3) ls rest)) : W p l e R s m args below meth c H locs cells slots Q (F0 m pc ls (v :: .ref a :: rest)) := va_put (D := D) (ci := 10) (C := RX10) (T := TX10) (N := 6) (ty := .int) hx hb hts iX10 tyX10 tyX10_ok nmX10 hown hK hP hD hS q0 he rfl 1 (by decide) (hts _ k_131) (fun _ h9 => h9) rfl (by decide +kernel) hn hfit hl hdg kk
theorem gf_X11_94 (hx : p.tables.exec = Jvm.exec) (hb : c.code = cc) (hts : ∀ w ∈ gT, w.before args s = true) (hown : s.vm.findClass RX11 = some m.cls) (hK : va_K D classes (tysOf tc) s) (hP : va_P D classes ws H) (q0 : Nat) {fs : List Value} {v : Value} (he : ws[q0]? = some (a, .inr (10, fs))) (hv : fs[1]? = some v) (hdg : decode cc pc = .ok (.getfield 94, 3)) (kk : W p l e R s m args below meth c H locs cells slots Q (F0 m (pc + 3) ls (v :: rest))) : W p l e R s m args below meth c H locs cells slots Q (F0 m pc ls (.ref a :: rest)) := va_get (D := D) (ci := 10) (C := RX10) (T := TX10) (N := 6) hx hb hts iX10 hown hK hP q0 he rfl 1 (by decide) (hts _ k_132) (fun _ h9 => h9) hv hdg kk
theorem pf_X11_94 (hx : p.tables.exec = Jvm.exec) (hb : c.code = cc) (hts : ∀ w ∈ gT, w.before args s = true) (hown : s.vm.findClass RX11 = some m.cls) (hK : va_K D classes (tysOf tc) s) (hP : va_P D classes ws H) (hD : va_D A ws) (hS : va_S A s.heap H locs) (q0 : Nat) {fs : List Value} {v : Value} (he : ws[q0]? = some (a, .inr (10, fs))) (hl : 1 < fs.length) (hn : narrow .int v = v) (hfit : fits .int v = true) (hdg : decode cc pc = .ok (.putfield 94, 3)) (kk : ∀ (H1 : Heap) (locs1 : List Loc), va_P D classes (ws.set q0 (a, .inr (10, fs.set 1 v))) H1 → va_D A (ws.set q0 (a, .inr (10, fs.set 1 v))) → va_S A s.heap H1 locs1 → W p l e R s m args below meth c H1 locs1 cells slots Q (F0 m (pc + 3) ls rest)) : W p l e R s m args below meth c H locs cells slots Q (F0 m pc ls (v :: .ref a :: rest)) := va_put (D := D) (ci := 10) (C := RX10) (T := TX10) (N := 6) (ty := .int) hx hb hts iX10 tyX10 tyX10_ok nmX10 hown hK hP hD hS q0 he rfl 1 (by decide) (hts _ k_132) (fun _ h9 => h9) rfl (by decide +kernel) hn hfit hl hdg kk
theorem gf_X10_19 (hx : p.tables.exec = Jvm.exec) (hb : c.code = cc) (hts : ∀ w ∈ gT, w.before args s = true) (hown : s.vm.findClass RX10 = some m.cls) (hK : va_K D classes (tysOf tc) s) (hP : va_P D classes ws H) (q0 : Nat) {fs : List Value} {v : Value} (he : ws[q0]? = some (a, .inr (10, fs))) (hv : fs[2]? = some v) (hdg : decode cc pc = .ok (.getfield 19, 3)) (kk : W p l e R s m args below meth c H locs cells slots Q (F0 m (pc + 3) ls (v :: rest))) : W p l e R s m args below meth c H locs cells slots Q (F0 m pc ls (.ref a :: rest)) := va_get (D := D) (ci := 10) (C := RX10) (T := TX10) (N := 6) hx hb hts iX10 hown hK hP q0 he rfl 2 (by decide) (hts _ k_133) (fun _ h9 => h9) hv hdg kk
theorem pf_X10_19 (hx : p.tables.exec = Jvm.exec) (hb : c.code = cc) (hts : ∀ w ∈ gT, w.before args s = true) (hown : s.vm.findClass RX10 = some m.cls) (hK : va_K D classes (tysOf tc) s) (hP : va_P D classes ws H) (hD : va_D A ws) (hS : va_S A s.heap H locs) (q0 : Nat) {fs : List Value} {v : Value} (he : ws[q0]? = some (a, .inr (10, fs))) (hl : 2 < fs.length) (hn : narrow .int v = v) (hfit : fits .int v = true) (hdg : decode cc pc = .ok (.putfield 19, 3)) (kk : ∀ (H1 : Heap) (locs1 : List Loc), va_P D classes (ws.set q0 (a, .inr (10, fs.set 2 v))) H1 → va_D A (ws.set q0 (a, .inr (10, fs.set 2 v))) → va_S A s.heap H1 locs1 → W p l e R s m args below meth c H1 locs1 cells slots Q (F0 m (pc + 3) ls rest)) : W p l e R s m args below meth c H locs cells slots Q (F0 m pc ls (v :: .ref a :: rest)) := va_put (D := D) (ci := 10) (C := RX10) (T := TX10) (N := 6) (ty := .int) hx hb hts iX10 tyX10 tyX10_ok nmX10 hown hK hP hD hS q0 he rfl 2 (by decide) (hts _ k_133) (fun _ h9 => h9) rfl (by decide +kernel) hn hfit hl hdg kk
theorem gf_X7_121 (hx : p.tables.exec = Jvm.exec) (hb : c.code = cc) (hts : ∀ w ∈ gT, w.before args s = true) (hown : s.vm.findClass RX7 = some m.cls) (hK : va_K D classes (tysOf tc) s) (hP : va_P D classes ws H) (q0 : Nat) {fs : List Value} {v : Value} (he : ws[q0]? = some (a, .inr (10, fs))) (hv : fs[2]? = some v) (hdg : decode cc pc = .ok (.getfield 121, 3)) (kk : W p l e R s m args below meth c H locs cells slots Q (F0 m (pc + 3) ls (v :: rest))) : W p l e R s m args below meth c H locs cells slots Q (F0 m pc ls (.ref a :: rest)) := va_get (D := D) (ci := 10) (C := RX10) (T := TX10) (N := 6) hx hb hts iX10 hown hK hP q0 he rfl 2 (by decide) (hts _ k_134) (fun _ h9 => h9) hv hdg kk
theorem pf_X7_121 (hx : p.tables.exec = Jvm.exec) (hb : c.code = cc) (hts : ∀ w ∈ gT, w.before args s = true) (hown : s.vm.findClass RX7 = some m.cls) (hK : va_K D classes (tysOf tc) s) (hP : va_P D classes ws H) (hD : va_D A ws) (hS : va_S A s.heap H locs) (q0 : Nat) {fs : List Value} {v : Value} (he : ws[q0]? = some (a, .inr (10, fs))) (hl : 2 < fs.length) (hn : narrow .int v = v) (hfit : fits .int v = true) (hdg : decode cc pc = .ok (.putfield 121, 3)) (kk : ∀ (H1 : Heap) (locs1 : List Loc), va_P D classes (ws.set q0 (a, .inr (10, fs.set 2 v))) H1 → va_D A (ws.set q0 (a, .inr (10, fs.set 2 v))) → va_S A s.heap H1 locs1 → W p l e R s m args below meth c H1 locs1 cells slots Q (F0 m (pc + 3) ls rest)) : W p l e R s m args below meth c H locs cells slots Q (F0 m pc ls (v :: .ref a :: rest)) := va_put (D := D) (ci := 10) (C := RX10) (T := TX10) (N := 6) (ty := .int) hx hb hts iX10 tyX10 tyX10_ok nmX10 hown hK hP hD hS q0 he rfl 2 (by decide) (hts _ k_134) (fun _ h9 => h9) rfl (by decide +kernel) hn hfit hl hdg kk
theorem gf_X10_22 (hx : p.tables.exec = Jvm.exec) (hb : c.code = cc) (hts : ∀ w ∈ gT, w.before args s = true) (hown : s.vm.findClass RX10 = some m.cls) (hK : va_K D classes (tysOf tc) s) (hP : va_P D classes ws H) (q0 : Nat) {fs : List Value} {v : Value} (he : ws[q0]? = some (a, .inr (10, fs))) (hv : fs[3]? = some v) (hdg : decode cc pc = .ok (.getfield 22, 3)) (kk : W p l e R s m args below meth c H locs cells slots Q (F0 m (pc + 3) ls (v :: rest))) : W p l e R s m args below meth c H locs cells slots Q (F0 m pc ls (.ref a :: rest)) := va_get (D := D) (ci := 10) (C := RX10) (T := TX10) (N := 6) hx hb hts iX10 hown hK hP q0 he rfl 3 (by decide) (hts _ k_135) (fun _ h9 => h9) hv hdg kk
theorem pf_X10_22 (hx : p.tables.exec = Jvm.exec) (hb : c.code = cc) (hts : ∀ w ∈ gT, w.before args s = true) (hown : s.vm.findClass RX10 = some m.cls) (hK : va_K D classes (tysOf tc) s) (hP : va_P D classes ws H) (hD : va_D A ws) (hS : va_S A s.heap H locs) (q0 : Nat) {fs : List Value} {v : Value} (he : ws[q0]? = some (a, .inr (10, fs))) (hl : 3 < fs.length) (hn : narrow .int v = v) (hfit : fits .int v = true) (hdg : decode cc pc = .ok (.putfield 22, 3)) (kk : ∀ (H1 : Heap) (locs1 : List Loc), va_P D classes (ws.set q0 (a, .inr (10, fs.set 3 v))) H1 → va_D A (ws.set q0 (a, .inr (10, fs.set 3 v))) → va_S A s.heap H1 locs1 → W p l e R s m args below meth c H1 locs1 cells slots Q (F0 m (pc + 3) ls rest)) : W p l e R s m args below meth c H locs cells slots Q (F0 m pc ls (v :: .ref a :: rest)) := va_put (D := D) (ci := 10) (C := RX10) (T := TX10) (N := 6) (ty := .int) hx hb hts iX10 tyX10 tyX10_ok nmX10 hown hK hP hD hS q0 he rfl 3 (by decide) (hts _ k_135) (fun _ h9 => h9) rfl (by decide +kernel) hn hfit hl hdg kk
theorem gf_X7_118 (hx : p.tables.exec = Jvm.exec) (hb : c.code = cc) (hts : ∀ w ∈ gT, w.before args s = true) (hown : s.vm.findClass RX7 = some m.cls) (hK : va_K D classes (tysOf tc) s) (hP : va_P D classes ws H) (q0 : Nat) {fs : List Value} {v : Value} (he : ws[q0]? = some (a, .inr (10, fs))) (hv : fs[3]? = some v) (hdg : decode cc pc = .ok (.getfield 118, 3)) (kk : W p l e R s m args below meth c H locs cells slots Q (F0 m (pc + 3) ls (v :: rest))) : W p l e R s m args below meth c H locs cells slots Q (F0 m pc ls (.ref a :: rest)) := va_get (D := D) (ci := 10) (C := RX10) (T := TX10) (N := 6) hx hb hts iX10 hown hK hP q0 he rfl 3 (by decide) (hts _ k_136) (fun _ h9 => h9) hv hdg kk
theorem pf_X7_118 (hx : p.tables.exec = Jvm.exec) (hb : c.code = cc) (hts : ∀ w ∈ gT, w.before args s = true) (hown : s.vm.findClass RX7 = some m.cls) (hK : va_K D classes (tysOf tc) s) (hP : va_P D classes ws H) (hD : va_D A ws) (hS : va_S A s.heap H locs) (q0 : Nat) {fs : List Value} {v : Value} (he : ws[q0]? = some (a, .inr (10, fs))) (hl : 3 < fs.length) (hn : narrow .int v = v) (hfit : fits .int v = true) (hdg : decode cc pc = .ok (.putfield 118, 3)) (kk : ∀ (H1 : Heap) (locs1 : List Loc), va_P D classes (ws.set q0 (a, .inr (10, fs.set 3 v))) H1 → va_D A (ws.set q0 (a, .inr (10, fs.set 3 v))) → va_S A s.heap H1 locs1 → W p l e R s m args below meth c H1 locs1 cells slots Q (F0 m (pc + 3) ls rest)) : W p l e R s m args below meth c H locs cells slots Q (F0 m pc ls (v :: .ref a :: rest)) := va_put (D := D) (ci := 10) (C := RX10) (T := TX10) (N := 6) (ty := .int) hx hb hts iX10 tyX10 tyX10_ok nmX10 hown hK hP hD hS q0 he rfl 3 (by decide) (hts _ k_136) (fun _ h9 => h9) rfl (by decide +kernel) hn hfit hl hdg kk
theorem gf_X10_25 (hx : p.tables.exec = Jvm.exec) (hb : c.code = cc) (hts : ∀ w ∈ gT, w.before args s = true) (hown : s.vm.findClass RX10 = some m.cls) (hK : va_K D classes (tysOf tc) s) (hP : va_P D classes ws H) (q0 : Nat) {fs : List Value} {v : Value} (he : ws[q0]? = some (a, .inr (10, fs))) (hv : fs[4]? = some v) (hdg : decode cc pc = .ok (.getfield 25, 3)) (kk : W p l e R s m args below meth c H locs cells slots Q (F0 m (pc + 3) ls (v :: rest))) : W p l e R s m args below meth c H locs cells slots Q (F0 m pc ls (.ref a :: rest)) := va_get (D := D) (ci := 10) (C := RX10) (T := TX10) (N := 6) hx hb hts iX10 hown hK hP q0 he rfl 4 (by decide) (hts _ k_137) (fun _ h9 => h9) hv hdg kk
theorem pf_X10_25 (hx : p.tables.exec = Jvm.exec) (hb : c.code = cc) (hts : ∀ w ∈ gT, w.before args s = true) (hown : s.vm.findClass RX10 = some m.cls) (hK : va_K D classes (tysOf tc) s) (hP : va_P D classes ws H) (hD : va_D A ws) (hS : va_S A s.heap H locs) (q0 : Nat) {fs : List Value} {v : Value} (he : ws[q0]? = some (a, .inr (10, fs))) (hl : 4 < fs.length) (hn : narrow .int v = v) (hfit : fits .int v = true) (hdg : decode cc pc = .ok (.putfield 25, 3)) (kk : ∀ (H1 : Heap) (locs1 : List Loc), va_P D classes (ws.set q0 (a, .inr (10, fs.set 4 v))) H1 → va_D A (ws.set q0 (a, .inr (10, fs.set 4 v))) → va_S A s.heap H1 locs1 → W p l e R s m args below meth c H1 locs1 cells slots Q (F0 m (pc + 3) ls rest)) : W p l e R s m args below meth c H locs cells slots Q (F0 m pc ls (v :: .ref a :: rest)) := va_put (D := D) (ci := 10) (C := RX10) (T := TX10) (N := 6) (ty := .int) hx hb hts iX10 tyX10 tyX10_ok nmX10 hown hK hP hD hS q0 he rfl 4 (by decide) (hts _ k_137) (fun _ h9 => h9) rfl (by decide +kernel) hn hfit hl hdg kk
theorem gf_X7_86 (hx : p.tables.exec = Jvm.exec) (hb : c.code = cc) (hts : ∀ w ∈ gT, w.before args s = true) (hown : s.vm.findClass RX7 = some m.cls) (hK : va_K D classes (tysOf tc) s) (hP : va_P D classes ws H) (q0 : Nat) {fs : List Value} {v : Value} (he : ws[q0]? = some (a, .inr (10, fs))) (hv : fs[4]? = some v) (hdg : decode cc pc = .ok (.getfield 86, 3)) (kk : W p l e R s m args below meth c H locs cells slots Q (F0 m (pc + 3) ls (v :: rest))) : W p l e R s m args below meth c H locs cells slots Q (F0 m pc ls (.ref a :: rest)) := va_get (D := D) (ci := 10) (C := RX10) (T := TX10) (N := 6) hx hb hts iX10 hown hK hP q0 he rfl 4 (by decide) (hts _ k_138) (fun _ h9 => h9) hv hdg kk
theorem pf_X7_86 (hx : p.tables.exec = Jvm.exec) (hb : c.code = cc) (hts : ∀ w ∈ gT, w.before args s = true) (hown : s.vm.findClass RX7 = some m.cls) (hK : va_K D classes (tysOf tc) s) (hP : va_P D classes ws H) (hD : va_D A ws) (hS : va_S A s.heap H locs) (q0 : Nat) {fs : List Value} {v : Value} (he : ws[q0]? = some (a, .inr (10, fs))) (hl : 4 < fs.length) (hn : narrow .int v = v) (hfit : fits .int v = true) (hdg : decode cc pc = .ok (.putfield 86, 3)) (kk : ∀ (H1 : Heap) (locs1 : List Loc), va_P D classes (ws.set q0 (a, .inr (10, fs.set 4 v))) H1 → va_D A (ws.set q0 (a, .inr (10, fs.set 4 v))) → va_S A s.heap H1 locs1 → W p l e R s m args below meth c H1 locs1 cells slots Q (F0 m (pc + 3) ls rest)) : W p l e R s m args below meth c H locs cells slots Q (F0 m pc ls (v :: .ref a :: rest)) := va_put (D := D) (ci := 10) (C := RX10) (T := TX10) (N := 6) (ty := .int) hx hb hts iX10 tyX10 tyX10_ok nmX10 hown hK hP hD hS q0 he rfl 4 (by decide) (hts _ k_138) (fun _ h9 => h9) rfl (by decide +kernel) hn hfit hl hdg kk
theorem gf_X10_28 (hx : p.tables.exec = Jvm.exec) (hb : c.code = cc) (hts : ∀ w ∈ gT, w.before args s = true) (hown : s.vm.findClass RX10 = some m.cls) (hK : va_K D classes (tysOf tc) s) (hP : va_P D classes ws H) (q0 : Nat) {fs : List Value} {v : Value} (he : ws[q0]? = some (a, .inr (10, fs))) (hv : fs[5]? = some v) (hdg : decode cc pc = .ok (.getfield 28, 3)) (kk : W p l e R s m args below meth c H locs cells slots Q (F0 m (pc + 3) ls (v :: rest))) : W p l e R s m args below meth c H locs cells slots Q (F0 m pc ls (.ref a :: rest)) := va_get (D := D) (ci := 10) (C := RX10) (T := TX10) (N := 6) hx hb hts iX10 hown hK hP q0 he rfl 5 (by decide) (hts _ k_139) (fun _ h9 => h9) hv hdg kk
theorem pf_X10_28 (hx : p.tables.exec = Jvm.exec) (hb : c.code = cc) (hts : ∀ w ∈ gT, w.before args s = true) (hown : s.vm.findClass RX10 = some m.cls) (hK : va_K D classes (tysOf tc) s) (hP : va_P D classes ws H) (hD : va_D A ws) (hS : va_S A s.heap H locs) (q0 : Nat) {fs : List Value} {v : Value} (he : ws[q0]? = some (a, .inr (10, fs))) (hl : 5 < fs.length) (hn : narrow .int v = v) (hfit : fits .int v = true) (hdg : decode cc pc = .ok (.putfield 28, 3)) (kk : ∀ (H1 : Heap) (locs1 : List Loc), va_P D classes (ws.set q0 (a, .inr (10, fs.set 5 v))) H1 → va_D A (ws.set q0 (a, .inr (10, fs.set 5 v))) → va_S A s.heap H1 locs1 → W p l e R s m args below meth c H1 locs1 cells slots Q (F0 m (pc + 3) ls rest)) : W p l e R s m args below meth c H locs cells slots Q (F0 m pc ls (v :: .ref a :: rest)) := va_put (D := D) (ci := 10) (C := RX10) (T := TX10) (N := 6) (ty := .int) hx hb hts iX10 tyX10 tyX10_ok nmX10 hown hK hP hD hS q0 he rfl 5 (by decide) (hts _ k_139) (fun _ h9 => h9) rfl (by decide +kernel) hn hfit hl hdg kk
theorem gf_X0_37 (hx : p.tables.exec = Jvm.exec) (hb : c.code = cc) (hts : ∀ w ∈ gT, w.before args s = true) (hown : s.vm.findClass RX0 = some m.cls) (hK : va_K D classes (tysOf tc) s) (hP : va_P D classes ws H) (q0 : Nat) {fs : List Value} {v : Value} (he : ws[q0]? = some (a, .inr (10, fs))) (hv : fs[5]? = some v) (hdg : decode cc pc = .ok (.getfield 37, 3)) (kk : W p l e R s m args below meth c H locs cells slots Q (F0 m (pc + 3) ls (v :: rest))) : W p l e R s m args below meth c H locs cells slots Q (F0 m pc ls (.ref a :: rest)) := va_get (D := D) (ci := 10) (C := RX10) (T := TX10) (N := 6) hx hb hts iX10 hown hK hP q0 he rfl 5 (by decide) (hts _ k_140) (fun _ h9 => h9) hv hdg kk
theorem pf_X0_37 (hx : p.tables.exec = Jvm.exec) (hb : c.code = cc) (hts : ∀ w ∈ gT, w.before args s = true) (hown : s.vm.findClass RX0 = some m.cls) (hK : va_K D classes (tysOf tc) s) (hP : va_P D classes ws H) (hD : va_D A ws) (hS : va_S A s.heap H locs) (q0 : Nat) {fs : List Value} {v : Value} (he : ws[q0]? = some (a, .inr (10, fs))) (hl : 5 < fs.length) (hn : narrow .int v = v) (hfit : fits .int v = true) (hdg : decode cc pc = .ok (.putfield 37, 3)) (kk : ∀ (H1 : Heap) (locs1 : List Loc), va_P D classes (ws.set q0 (a, .inr (10, fs.set 5 v))) H1 → va_D A (ws.set q0 (a, .inr (10, fs.set 5 v))) → va_S A s.heap H1 locs1 → W p l e R s m args below meth c H1 locs1 cells slots Q (F0 m (pc + 3) ls rest)) : W p l e R s m args below meth c H locs cells slots Q (F0 m pc ls (v :: .ref a :: rest)) := va_put (D := D) (ci := 10) (C := RX10) (T := TX10) (N := 6) (ty := .int) hx hb hts iX10 tyX10 tyX10_ok nmX10 hown hK hP hD hS q0 he rfl 5 (by decide) (hts _ k_140) (fun _ h9 => h9) rfl (by decide +kernel) hn hfit hl hdg kk
theorem gf_X7_65 (hx : p.tables.exec = Jvm.exec) (hb : c.code = cc) (hts : ∀ w ∈ gT, w.before args s = true) (hown : s.vm.findClass RX7 = some m.cls) (hK : va_K D classes (tysOf tc) s) (hP : va_P D classes ws H) (q0 : Nat) {fs : List Value} {v : Value} (he : ws[q0]? = some (a, .inr (10, fs))) (hv : fs[5]? = some v) (hdg : decode cc pc = .ok (.getfield 65, 3)) (kk : W p l e R s m args below meth c H locs cells slots Q (F0 m (pc + 3) ls (v :: rest))) : W p l e R s m args below meth c H locs cells slots Q (F0 m pc ls (.ref a :: rest)) := va_get (D := D) (ci := 10) (C := RX10) (T := TX10) (N := 6) hx hb hts iX10 hown hK hP q0 he rfl 5 (by decide) (hts _ k_141) (fun _ h9 => h9) hv hdg kk
theorem pf_X7_65 (hx : p.tables.exec = Jvm.exec) (hb : c.code = cc) (hts : ∀ w ∈ gT, w.before args s = true) (hown : s.vm.findClass RX7 = some m.cls) (hK : va_K D classes (tysOf tc) s) (hP : va_P D classes ws H) (hD : va_D A ws) (hS : va_S A s.heap H locs) (q0 : Nat) {fs : List Value} {v : Value} (he : ws[q0]? = some (a, .inr (10, fs))) (hl : 5 < fs.length) (hn : narrow .int v = v) (hfit : fits .int v = true) (hdg : decode cc pc = .ok (.putfield 65, 3)) (kk : ∀ (H1 : Heap) (locs1 : List Loc), va_P D classes (ws.set q0 (a, .inr (10, fs.set 5 v))) H1 → va_D A (ws.set q0 (a, .inr (10, fs.set 5 v))) → va_S A s.heap H1 locs1 → W p l e R s m args below meth c H1 locs1 cells slots Q (F0 m (pc + 3) ls rest)) : W p l e R s m args below meth c H locs cells slots Q (F0 m pc ls (v :: .ref a :: rest)) := va_put (D := D) (ci := 10) (C := RX10) (T := TX10) (N := 6) (ty := .int) hx hb hts iX10 tyX10 tyX10_ok nmX10 hown hK hP hD hS q0 he rfl 5 (by decide) (hts _ k_141) (fun _ h9 => h9) rfl (by decide +kernel) hn hfit hl hdg kk
theorem gf_X11_127 (hx : p.tables.exec = Jvm.exec) (hb : c.code = cc) (hts : ∀ w ∈ gT, w.before args s = true) (hown : s.vm.findClass RX11 = some m.cls) (hK : va_K D classes (tysOf tc) s) (hP : va_P D classes ws H) (q0 : Nat) {fs : List Value} {v : Value} (he : ws[q0]? = some (a, .inr (10, fs))) (hv : fs[5]? = some v) (hdg : decode cc pc = .ok (.getfield 127, 3)) (kk : W p l e R s m args below meth c H locs cells slots Q (F0 m (pc + 3) ls (v :: rest))) : W p l e R s m args below meth c H locs cells slots Q (F0 m pc ls (.ref a :: rest)) := va_get (D := D) (ci := 10) (C := RX10) (T := TX10) (N := 6) hx hb hts iX10 hown hK hP q0 he rfl 5 (by decide) (hts _ k_142) (fun _ h9 => h9) hv hdg kk
theorem pf_X11_127 (hx : p.tables.exec = Jvm.exec) (hb : c.code = cc) (hts : ∀ w ∈ gT, w.before args s = true) (hown : s.vm.findClass RX11 = some m.cls) (hK : va_K D classes (tysOf tc) s) (hP : va_P D classes ws H) (hD : va_D A ws) (hS : va_S A s.heap H locs) (q0 : Nat) {fs : List Value} {v : Value} (he : ws[q0]? = some (a, .inr (10, fs))) (hl : 5 < fs.length) (hn : narrow .int v = v) (hfit : fits .int v = true) (hdg : decode cc pc = .ok (.putfield 127, 3)) (kk : ∀ (H1 : Heap) (locs1 : List Loc), va_P D classes (ws.set q0 (a, .inr (10, fs.set 5 v))) H1 → va_D A (ws.set q0 (a, .inr (10, fs.set 5 v))) → va_S A s.heap H1 locs1 → W p l e R s m args below meth c H1 locs1 cells slots Q (F0 m (pc + 3) ls rest)) : W p l e R s m args below meth c H locs cells slots Q (F0 m pc ls (v :: .ref a :: rest)) := va_put (D := D) (ci := 10) (C := RX10) (T := TX10) (N := 6) (ty := .int) hx hb hts iX10 tyX10 tyX10_ok nmX10 hown hK hP hD hS q0 he rfl 5 (by decide) (hts _ k_142) (fun _ h9 => h9) rfl (by decide +kernel) hn hfit hl hdg kk
theorem gf_X9_9 (hx : p.tables.exec = Jvm.exec) (hb : c.code = cc) (hts : ∀ w ∈ gT, w.before args s = true) (hown : s.vm.findClass RX9 = some m.cls) (hK : va_K D classes (tysOf tc) s) (hP : va_P D classes ws H) (q0 : Nat) {fs : List Value} {v : Value} (he : ws[q0]? = some (a, .inr (9, fs))) (hv : fs[0]? = some v) (hdg : decode cc pc = .ok (.getfield 9, 3)) (kk : W p l e R s m args below meth c H locs cells slots Q (F0 m (pc + 3) ls (v :: rest))) : W p l e R s m args below meth c H locs cells slots Q (F0 m pc ls (.ref a :: rest)) := va_get (D := D) (ci := 9) (C := RX9) (T := TX9) (N := 14) hx hb hts iX9 hown hK hP q0 he rfl 0 (by decide) (hts _ k_169) (fun _ h9 => h9) hv hdg kk
theorem pf_X9_9 (hx : p.tables.exec = Jvm.exec) (hb : c.code = cc) (hts : ∀ w ∈ gT, w.before args s = true) (hown : s.vm.findClass RX9 = some m.cls) (hK : va_K D classes (tysOf tc) s) (hP : va_P D classes ws H) (hD : va_D A ws) (hS : va_S A s.heap H locs) (q0 : Nat) {fs : List Value} {v : Value} (he : ws[q0]? = some (a, .inr (9, fs))) (hl : 0 < fs.length) (hn : narrow .int v = v) (hfit : fits .int v = true) (hdg : decode cc pc = .ok (.putfield 9, 3)) (kk : ∀ (H1 : Heap) (locs1 : List Loc), va_P D classes (ws.set q0 (a, .inr (9, fs.set 0 v))) H1 → va_D A (ws.set q0 (a, .inr (9, fs.set 0 v))) → va_S A s.heap H1 locs1 → W p l e R s m args below meth c H1 locs1 cells slots Q (F0 m (pc + 3) ls rest)) : W p l e R s m args below meth c H locs cells slots Q (F0 m pc ls (v :: .ref a :: rest)) := va_put (D := D) (ci := 9) (C := RX9) (T := TX9) (N := 14) (ty := .int) hx hb hts iX9 tyX9 tyX9_ok nmX9 hown hK hP hD hS q0 he rfl 0 (by decide) (hts _ k_169) (fun _ h9 => h9) rfl (by decide +kernel) hn hfit hl hdg kk
theorem gf_X4_34 (hx : p.tables.exec = Jvm.exec) (hb : c.code = cc) (hts : ∀ w ∈ gT, w.before args s = true) (hown : s.vm.findClass RX4 = some m.cls) (hK : va_K D classes (tysOf tc) s) (hP : va_P D classes ws H) (q0 : Nat) {fs : List Value} {v : Value} (he : ws[q0]? = some (a, .inr (9, fs))) (hv : fs[0]? = some v) (hdg : decode cc pc = .ok (.getfield 34, 3)) (kk : W p l e R s m args below meth c H locs cells slots Q (F0 m (pc + 3) ls (v :: rest))) : W p l e R s m args below meth c H locs cells slots Q (F0 m pc ls (.ref a :: rest)) := va_get (D := D) (ci := 9) (C := RX9) (T := TX9) (N := 14) hx hb hts iX9 hown hK hP q0 he rfl 0 (by decide) (hts _ k_170) (fun _ h9 => h9) hv hdg kk
theorem pf_X4_34 (hx : p.tables.exec = Jvm.exec) (hb : c.code = cc) (hts : ∀ w ∈ gT, w.before args s = true) (hown : s.vm.findClass RX4 = some m.cls) (hK : va_K D classes (tysOf tc) s) (hP : va_P D classes ws H) (hD : va_D A ws) (hS : va_S A s.heap H locs) (q0 : Nat) {fs : List Value} {v : Value} (he : ws[q0]? = some (a, .inr (9, fs))) (hl : 0 < fs.length) (hn : narrow .int v = v) (hfit : fits .int v = true) (hdg : decode cc pc = .ok (.putfield 34, 3)) (kk : ∀ (H1 : Heap) (locs1 : List Loc), va_P D classes (ws.set q0 (a, .inr (9, fs.set 0 v))) H1 → va_D A (ws.set q0 (a, .inr (9, fs.set 0 v))) → va_S A s.heap H1 locs1 → W p l e R s m args below meth c H1 locs1 cells slots Q (F0 m (pc + 3) ls rest)) : W p l e R s m args below meth c H locs cells slots Q (F0 m pc ls (v :: .ref a :: rest)) := va_put (D := D) (ci := 9) (C := RX9) (T := TX9) (N := 14) (ty := .int) hx hb hts iX9 tyX9 tyX9_ok nmX9 hown hK hP hD hS q0 he rfl 0 (by decide) (hts _ k_170) (fun _ h9 => h9) rfl (by decide +kernel) hn hfit hl hdg kk
theorem gf_X0_74 (hx : p.tables.exec = Jvm.exec) (hb : c.code = cc) (hts : ∀ w ∈ gT, w.before args s = true) (hown : s.vm.findClass RX0 = some m.cls) (hK : va_K D classes (tysOf tc) s) (hP : va_P D classes ws H) (q0 : Nat) {fs : List Value} {v : Value} (he : ws[q0]? = some (a, .inr (9, fs))) (hv : fs[0]? = some v) (hdg : decode cc pc = .ok (.getfield 74, 3)) (kk : W p l e R s m args below meth c H locs cells slots Q (F0 m (pc + 3) ls (v :: rest))) : W p l e R s m args below meth c H locs cells slots Q (F0 m pc ls (.ref a :: rest)) := va_get (D := D) (ci := 9) (C := RX9) (T := TX9) (N := 14) hx hb hts iX9 hown hK hP q0 he rfl 0 (by decide) (hts _ k_171) (fun _ h9 => h9) hv hdg kk
theorem pf_X0_74 (hx : p.tables.exec = Jvm.exec) (hb : c.code = cc) (hts : ∀ w ∈ gT, w.before args s = true) (hown : s.vm.findClass RX0 = some m.cls) (hK : va_K D classes (tysOf tc) s) (hP : va_P D classes ws H) (hD : va_D A ws) (hS : va_S A s.heap H locs) (q0 : Nat) {fs : List Value} {v : Value} (he : ws[q0]? = some (a, .inr (9, fs))) (hl : 0 < fs.length) (hn : narrow .int v = v) (hfit : fits .int v = true) (hdg : decode cc pc = .ok (.putfield 74, 3)) (kk : ∀ (H1 : Heap) (locs1 : List Loc), va_P D classes (ws.set q0 (a, .inr (9, fs.set 0 v))) H1 → va_D A (ws.set q0 (a, .inr (9, fs.set 0 v))) → va_S A s.heap H1 locs1 → W p l e R s m args below meth c H1 locs1 cells slots Q (F0 m (pc + 3) ls rest)) : W p l e R s m args below meth c H locs cells slots Q (F0 m pc ls (v :: .ref a :: rest)) := va_put (D := D) (ci := 9) (C := RX9) (T := TX9) (N := 14) (ty := .int) hx hb hts iX9 tyX9 tyX9_ok nmX9 hown hK hP hD hS q0 he rfl 0 (by decide) (hts _ k_171) (fun _ h9 => h9) rfl (by decide +kernel) hn hfit hl hdg kk
theorem gf_X11_193 (hx : p.tables.exec = Jvm.exec) (hb : c.code = cc) (hts : ∀ w ∈ gT, w.before args s = true) (hown : s.vm.findClass RX11 = some m.cls) (hK : va_K D classes (tysOf tc) s) (hP : va_P D classes ws H) (q0 : Nat) {fs : List Value} {v : Value} (he : ws[q0]? = some (a, .inr (9, fs))) (hv : fs[0]? = some v) (hdg : decode cc pc = .ok (.getfield 193, 3)) (kk : W p l e R s m args below meth c H locs cells slots Q (F0 m (pc + 3) ls (v :: rest))) : W p l e R s m args below meth c H locs cells slots Q (F0 m pc ls (.ref a :: rest)) := va_get (D := D) (ci := 9) (C := RX9) (T := TX9) (N := 14) hx hb hts iX9 hown hK hP q0 he rfl 0 (by decide) (hts _ k_172) (fun _ h9 => h9) hv hdg kk
theorem pf_X11_193 (hx : p.tables.exec = Jvm.exec) (hb : c.code = cc) (hts : ∀ w ∈ gT, w.before args s = true) (hown : s.vm.findClass RX11 = some m.cls) (hK : va_K D classes (tysOf tc) s) (hP : va_P D classes ws H) (hD : va_D A ws) (hS : va_S A s.heap H locs) (q0 : Nat) {fs : List Value} {v : Value} (he : ws[q0]? = some (a, .inr (9, fs))) (hl : 0 < fs.length) (hn : narrow .int v = v) (hfit : fits .int v = true) (hdg : decode cc pc = .ok (.putfield 193, 3)) (kk : ∀ (H1 : Heap) (locs1 : List Loc), va_P D classes (ws.set q0 (a, .inr (9, fs.set 0 v))) H1 → va_D A (ws.set q0 (a, .inr (9, fs.set 0 v))) → va_S A s.heap H1 locs1 → W p l e R s m args below meth c H1 locs1 cells slots Q (F0 m (pc + 3) ls rest)) : W p l e R s m args below meth c H locs cells slots Q (F0 m pc ls (v :: .ref a :: rest)) := va_put (D := D) (ci := 9) (C := RX9) (T := TX9) (N := 14) (ty := .int) hx hb hts iX9 tyX9 tyX9_ok nmX9 hown hK hP hD hS q0 he rfl 0 (by decide) (hts _ k_172) (fun _ h9 => h9) rfl (by decide +kernel) hn hfit hl hdg kk
theorem gf_X9_15 (hx : p.tables.exec = Jvm.exec) (hb : c.code = cc) (hts : ∀ w ∈ gT, w.before args s = true) (hown : s.vm.findClass RX9 = some m.cls) (hK : va_K D classes (tysOf tc) s) (hP : va_P D classes ws H) (q0 : Nat) {fs : List Value} {v : Value} (he : ws[q0]? = some (a, .inr (9, fs))) (hv : fs[1]? = some v) (hdg : decode cc pc = .ok (.getfield 15, 3)) (kk : W p l e R s m args below meth c H locs cells slots Q (F0 m (pc + 3) ls (v :: rest))) : W p l e R s m args below meth c H locs cells slots Q (F0 m pc ls (.ref a :: rest)) := va_get (D := D) (ci := 9) (C := RX9) (T := TX9) (N := 14) hx hb hts iX9 hown hK hP q0 he rfl 1 (by decide) (hts _ k_173) (fun _ h9 => h9) hv hdg kk
theorem pf_X9_15 (hx : p.tables.exec = Jvm.exec) (hb : c.code = cc) (hts : ∀ w ∈ gT, w.before args s = true) (hown : s.vm.findClass RX9 = some m.cls) (hK : va_K D classes (tysOf tc) s) (hP : va_P D classes ws H) (hD : va_D A ws) (hS : va_S A s.heap H locs) (q0 : Nat) {fs : List Value} {v : Value} (he : ws[q0]? = some (a, .inr (9, fs))) (hl : 1 < fs.length) (hn : narrow .int v = v) (hfit : fits .int v = true) (hdg : decode cc pc = .ok (.putfield 15, 3)) (kk : ∀ (H1 : Heap) (locs1 : List Loc), va_P D classes (ws.set q0 (a, .inr (9, fs.set 1 v))) H1 → va_D A (ws.set q0 (a, .inr (9, fs.set 1 v))) → va_S A s.heap H1 locs1 → W p l e R s m args below meth c H1 locs1 cells slots Q (F0 m (pc + 3) ls rest)) : W p l e R s m args below meth c H locs cells slots Q (F0 m pc ls (v :: .ref a :: rest)) := va_put (D := D) (ci := 9) (C := RX9) (T := TX9) (N := 14) (ty := .int) hx hb hts iX9 tyX9 tyX9_ok nmX9 hown hK hP hD hS q0 he rfl 1 (by decide) (hts _ k_173) (fun _ h9 => h9) rfl (by decide +kernel) hn hfit hl hdg kk
theorem gf_X0_77 (hx : p.tables.exec = Jvm.exec) (hb : c.code = cc) (hts : ∀ w ∈ gT, w.before args s = true) (hown : s.vm.findClass RX0 = some m.cls) (hK : va_K D classes (tysOf tc) s) (hP : va_P D classes ws H) (q0 : Nat) {fs : List Value} {v : Value} (he : ws[q0]? = some (a, .inr (9, fs))) (hv : fs[1]? = some v) (hdg : decode cc pc = .ok (.getfield 77, 3)) (kk : W p l e R s m args below meth c H locs cells slots Q (F0 m (pc + 3) ls (v :: rest))) : W p l e R s m args below meth c H locs cells slots Q (F0 m pc ls (.ref a :: rest)) := va_get (D := D) (ci := 9) (C := RX9) (T := TX9) (N := 14) hx hb hts iX9 hown hK hP q0 he rfl 1 (by decide) (hts _ k_174) (fun _ h9 => h9) hv hdg kk
theorem pf_X0_77 (hx : p.tables.exec = Jvm.exec) (hb : c.code = cc) (hts : ∀ w ∈ gT, w.before args s = true) (hown : s.vm.findClass RX0 = some m.cls) (hK : va_K D classes (tysOf tc) s) (hP : va_P D classes ws H) (hD : va_D A ws) (hS : va_S A s.heap H locs) (q0 : Nat) {fs : List Value} {v : Value} (he : ws[q0]? = some (a, .inr (9, fs))) (hl : 1 < fs.length) (hn : narrow .int v = v) (hfit : fits .int v = true) (hdg : decode cc pc = .ok (.putfield 77, 3)) (kk : ∀ (H1 : Heap) (locs1 : List Loc), va_P D classes (ws.set q0 (a, .inr (9, fs.set 1 v))) H1 → va_D A (ws.set q0 (a, .inr (9, fs.set 1 v))) → va_S A s.heap H1 locs1 → W p l e R s m args below meth c H1 locs1 cells slots Q (F0 m (pc + 3) ls rest)) : W p l e R s m args below meth c H locs cells slots Q (F0 m pc ls (v :: .ref a :: rest)) := va_put (D := D) (ci := 9) (C := RX9) (T := TX9) (N := 14) (ty := .int) hx hb hts iX9 tyX9 tyX9_ok nmX9 hown hK hP hD hS q0 he rfl 1 (by decide) (hts _ k_174) (fun _ h9 => h9) rfl (by decide +kernel) hn hfit hl hdg kk
theorem gf_X11_282 (hx : p.tables.exec = Jvm.exec) (hb : c.code = cc) (hts : ∀ w ∈ gT, w.before args s = true) (hown : s.vm.findClass RX11 = some m.cls) (hK : va_K D classes (tysOf tc) s) (hP : va_P D classes ws H) (q0 : Nat) {fs : List Value} {v : Value} (he : ws[q0]? = some (a, .inr (9, fs))) (hv : fs[1]? = some v) (hdg : decode cc pc = .ok (.getfield 282, 3)) (kk : W p l e R s m args below meth c H locs cells slots Q (F0 m (pc + 3) ls (v :: rest))) : W p l e R s m args below meth c H locs cells slots Q (F0 m pc ls (.ref a :: rest)) := va_get (D := D) (ci := 9) (C := RX9) (T := TX9) (N := 14) hx hb hts iX9 hown hK hP q0 he rfl 1 (by decide) (hts _ k_175) (fun _ h9 => h9) hv hdg kk
theorem pf_X11_282 (hx : p.tables.exec = Jvm.exec) (hb : c.code = cc) (hts : ∀ w ∈ gT, w.before args s = true) (hown : s.vm.findClass RX11 = some m.cls) (hK : va_K D classes (tysOf tc) s) (hP : va_P D classes ws H) (hD : va_D A ws) (hS : va_S A s.heap H locs) (q0 : Nat) {fs : List Value} {v : Value} (he : ws[q0]? = some (a, .inr (9, fs))) (hl : 1 < fs.length) (hn : narrow .int v = v) (hfit : fits .int v = true) (hdg : decode cc pc = .ok (.putfield 282, 3)) (kk : ∀ (H1 : Heap) (locs1 : List Loc), va_P D classes (ws.set q0 (a, .inr (9, fs.set 1 v))) H1 → va_D A (ws.set q0 (a, .inr (9, fs.set 1 v))) → va_S A s.heap H1 locs1 → W p l e R s m args below meth c H1 locs1 cells slots Q (F0 m (pc + 3) ls rest)) : W p l e R s m args below meth c H locs cells slots Q (F0 m pc ls (v :: .ref a :: rest)) := va_put (D := D) (ci := 9) (C := RX9) (T := TX9) (N := 14) (ty := .int) hx hb hts iX9 tyX9 tyX9_ok nmX9 hown hK hP hD hS q0 he rfl 1 (by decide) (hts _ k_175) (fun _ h9 => h9) rfl (by decide +kernel) hn hfit hl hdg kk
theorem gf_X9_18 (hx : p.tables.exec = Jvm.exec) (hb : c.code = cc) (hts : ∀ w ∈ gT, w.before args s = true) (hown : s.vm.findClass RX9 = some m.cls) (hK : va_K D classes (tysOf tc) s) (hP : va_P D classes ws H) (q0 : Nat) {fs : List Value} {v : Value} (he : ws[q0]? = some (a, .inr (9, fs))) (hv : fs[2]? = some v) (hdg : decode cc pc = .ok (.getfield 18, 3)) (kk : W p l e R s m args below meth c H locs cells slots Q (F0 m (pc + 3) ls (v :: rest))) : W p l e R s m args below meth c H locs cells slots Q (F0 m pc ls (.ref a :: rest)) := va_get (D := D) (ci := 9) (C := RX9) (T := TX9) (N := 14) hx hb hts iX9 hown hK hP q0 he rfl 2 (by decide) (hts _ k_176) (fun _ h9 => h9) hv hdg kk
theorem pf_X9_18 (hx : p.tables.exec = Jvm.exec) (hb : c.code = cc) (hts : ∀ w ∈ gT, w.before args s = true) (hown : s.vm.findClass RX9 = some m.cls) (hK : va_K D classes (tysOf tc) s) (hP : va_P D classes ws H) (hD : va_D A ws) (hS : va_S A s.heap H locs) (q0 : Nat) {fs : List Value} {v : Value} (he : ws[q0]? = some (a, .inr (9, fs))) (hl : 2 < fs.length) (hn : narrow .int v = v) (hfit : fits .int v = true) (hdg : decode cc pc = .ok (.putfield 18, 3)) (kk : ∀ (H1 : Heap) (locs1 : List Loc), va_P D classes (ws.set q0 (a, .inr (9, fs.set 2 v))) H1 → va_D A (ws.set q0 (a, .inr (9, fs.set 2 v))) → va_S A s.heap H1 locs1 → W p l e R s m args below meth c H1 locs1 cells slots Q (F0 m (pc + 3) ls rest)) : W p l e R s m args below meth c H locs cells slots Q (F0 m pc ls (v :: .ref a :: rest)) := va_put (D := D) (ci := 9) (C := RX9) (T := TX9) (N := 14) (ty := .int) hx hb hts iX9 tyX9 tyX9_ok nmX9 hown hK hP hD hS q0 he rfl 2 (by decide) (hts _ k_176) (fun _ h9 => h9) rfl (by decide +kernel) hn hfit hl hdg kk
theorem gf_X1_56 (hx : p.tables.exec = Jvm.exec) (hb : c.code = cc) (hts : ∀ w ∈ gT, w.before args s = true) (hown : s.vm.findClass RX1 = some m.cls) (hK : va_K D classes (tysOf tc) s) (hP : va_P D classes ws H) (q0 : Nat) {fs : List Value} {v : Value} (he : ws[q0]? = some (a, .inr (9, fs))) (hv : fs[2]? = some v) (hdg : decode cc pc = .ok (.getfield 56, 3)) (kk : W p l e R s m args below meth c H locs cells slots Q (F0 m (pc + 3) ls (v :: rest))) : W p l e R s m args below meth c H locs cells slots Q (F0 m pc ls (.ref a :: rest)) := va_get (D := D) (ci := 9) (C := RX9) (T := TX9) (N := 14) hx hb hts iX9 hown hK hP q0 he rfl 2 (by decide) (hts _ k_177) (fun _ h9 => h9) hv hdg kk
theorem pf_X1_56 (hx : p.tables.exec = Jvm.exec) (hb : c.code = cc) (hts : ∀ w ∈ gT, w.before args s = true) (hown : s.vm.findClass RX1 = some m.cls) (hK : va_K D classes (tysOf tc) s) (hP : va_P D classes ws H) (hD : va_D A ws) (hS : va_S A s.heap H locs) (q0 : Nat) {fs : List Value} {v : Value} (he : ws[q0]? = some (a, .inr (9, fs))) (hl : 2 < fs.length) (hn : narrow .int v = v) (hfit : fits .int v = true) (hdg : decode cc pc = .ok (.putfield 56, 3)) (kk : ∀ (H1 : Heap) (locs1 : List Loc), va_P D classes (ws.set q0 (a, .inr (9, fs.set 2 v))) H1 → va_D A (ws.set q0 (a, .inr (9, fs.set 2 v))) → va_S A s.heap H1 locs1 → W p l e R s m args below meth c H1 locs1 cells slots Q (F0 m (pc + 3) ls rest)) : W p l e R s m args below meth c H locs cells slots Q (F0 m pc ls (v :: .ref a :: rest)) := va_put (D := D) (ci := 9) (C := RX9) (T := TX9) (N := 14) (ty := .int) hx hb hts iX9 tyX9 tyX9_ok nmX9 hown hK hP hD hS q0 he rfl 2 (by decide) (hts _ k_177) (fun _ h9 => h9) rfl (by decide +kernel) hn hfit hl hdg kk
theorem gf_X0_80 (hx : p.tables.exec = Jvm.exec) (hb : c.code = cc) (hts : ∀ w ∈ gT, w.before args s = true) (hown : s.vm.findClass RX0 = some m.cls) (hK : va_K D classes (tysOf tc) s) (hP : va_P D classes ws H) (q0 : Nat) {fs : List Value} {v : Value} (he : ws[q0]? = some (a, .inr (9, fs))) (hv : fs[2]? = some v) (hdg : decode cc pc = .ok (.getfield 80, 3)) (kk : W p l e R s m args below meth c H locs cells slots Q (F0 m (pc + 3) ls (v :: rest))) : W p l e R s m args below meth c H locs cells slots Q (F0 m pc ls (.ref a :: rest)) := va_get (D := D) (ci := 9) (C := RX9) (T := TX9) (N := 14) hx hb hts iX9 hown hK hP q0 he rfl 2 (by decide) (hts _ k_178) (fun _ h9 => h9) hv hdg kk
theorem pf_X0_80 (hx : p.tables.exec = Jvm.exec) (hb : c.code = cc) (hts : ∀ w ∈ gT, w.before args s = true) (hown : s.vm.findClass RX0 = some m.cls) (hK : va_K D classes (tysOf tc) s) (hP : va_P D classes ws H) (hD : va_D A ws) (hS : va_S A s.heap H locs) (q0 : Nat) {fs : List Value} {v : Value} (he : ws[q0]? = some (a, .inr (9, fs))) (hl : 2 < fs.length) (hn : narrow .int v = v) (hfit : fits .int v = true) (hdg : decode cc pc = .ok (.putfield 80, 3)) (kk : ∀ (H1 : Heap) (locs1 : List Loc), va_P D classes (ws.set q0 (a, .inr (9, fs.set 2 v))) H1 → va_D A (ws.set q0 (a, .inr (9, fs.set 2 v))) → va_S A s.heap H1 locs1 → W p l e R s m args below meth c H1 locs1 cells slots Q (F0 m (pc + 3) ls rest)) : W p l e R s m args below meth c H locs cells slots Q (F0 m pc ls (v :: .ref a :: rest)) := va_put (D := D) (ci := 9) (C := RX9) (T := TX9) (N := 14) (ty := .int) hx hb hts iX9 tyX9 tyX9_ok nmX9 hown hK hP hD hS q0 he rfl 2 (by decide) (hts _ k_178) (fun _ h9 => h9) rfl (by decide +kernel) hn hfit hl hdg kk
theorem gf_X11_285 (hx : p.tables.exec = Jvm.exec) (hb : c.code = cc) (hts : ∀ w ∈ gT, w.before args s = true) (hown : s.vm.findClass RX11 = some m.cls) (hK : va_K D classes (tysOf tc) s) (hP : va_P D classes ws H) (q0 : Nat) {fs : List Value} {v : Value} (he : ws[q0]? = some (a, .inr (9, fs))) (hv : fs[2]? = some v) (hdg : decode cc pc = .ok (.getfield 285, 3)) (kk : W p l e R s m args below meth c H locs cells slots Q (F0 m (pc + 3) ls (v :: rest))) : W p l e R s m args below meth c H locs cells slots Q (F0 m pc ls (.ref a :: rest)) := va_get (D := D) (ci := 9) (C := RX9) (T := TX9) (N := 14) hx hb hts iX9 hown hK hP q0 he rfl 2 (by decide) (hts _ k_179) (fun _ h9 => h9) hv hdg kk
theorem pf_X11_285 (hx : p.tables.exec = Jvm.exec) (hb : c.code = cc) (hts : ∀ w ∈ gT, w.before args s = true) (hown : s.vm.findClass RX11 = some m.cls) (hK : va_K D classes (tysOf tc) s) (hP : va_P D classes ws H) (hD : va_D A ws) (hS : va_S A s.heap H locs) (q0 : Nat) {fs : List Value} {v : Value} (he : ws[q0]? = some (a, .inr (9, fs))) (hl : 2 < fs.length) (hn : narrow .int v = v) (hfit : fits .int v = true) (hdg : decode cc pc = .ok (.putfield 285, 3)) (kk : ∀ (H1 : Heap) (locs1 : List Loc), va_P D classes (ws.set q0 (a, .inr (9, fs.set 2 v))) H1 → va_D A (ws.set q0 (a, .inr (9, fs.set 2 v))) → va_S A s.heap H1 locs1 → W p l e R s m args below meth c H1 locs1 cells slots Q (F0 m (pc + 3) ls rest)) : W p l e R s m args below meth c H locs cells slots Q (F0 m pc ls (v :: .ref a :: rest)) := va_put (D := D) (ci := 9) (C := RX9) (T := TX9) (N := 14) (ty := .int) hx hb hts iX9 tyX9 tyX9_ok nmX9 hown hK hP hD hS q0 he rfl 2 (by decide) (hts _ k_179) (fun _ h9 => h9) rfl (by decide +kernel) hn hfit hl hdg kk
theorem gf_X9_21 (hx : p.tables.exec = Jvm.exec) (hb : c.code = cc) (hts : ∀ w ∈ gT, w.before args s = true) (hown : s.vm.findClass RX9 = some m.cls) (hK : va_K D classes (tysOf tc) s) (hP : va_P D classes ws H) (q0 : Nat) {fs : List Value} {v : Value} (he : ws[q0]? = some (a, .inr (9, fs))) (hv : fs[3]? = some v) (hdg : decode cc pc = .ok (.getfield 21, 3)) (kk : W p l e R s m args below meth c H locs cells slots Q (F0 m (pc + 3) ls (v :: rest))) : W p l e R s m args below meth c H locs cells slots Q (F0 m pc ls (.ref a :: rest)) := va_get (D := D) (ci := 9) (C := RX9) (T := TX9) (N := 14) hx hb hts iX9 hown hK hP q0 he rfl 3 (by decide) (hts _ k_180) (fun _ h9 => h9) hv hdg kk
theorem pf_X9_21 (hx : p.tables.exec = Jvm.exec) (hb : c.code = cc) (hts : ∀ w ∈ gT, w.before args s = true) (hown : s.vm.findClass RX9 = some m.cls) (hK : va_K D classes (tysOf tc) s) (hP : va_P D classes ws H) (hD : va_D A ws) (hS : va_S A s.heap H locs) (q0 : Nat) {fs : List Value} {v : Value} (he : ws[q0]? = some (a, .inr (9, fs))) (hl : 3 < fs.length) (hn : narrow .int v = v) (hfit : fits .int v = true) (hdg : decode cc pc = .ok (.putfield 21, 3)) (kk : ∀ (H1 : Heap) (locs1 : List Loc), va_P D classes (ws.set q0 (a, .inr (9, fs.set 3 v))) H1 → va_D A (ws.set q0 (a, .inr (9, fs.set 3 v))) → va_S A s.heap H1 locs1 → W p l e R s m args below meth c H1 locs1 cells slots Q (F0 m (pc + 3) ls rest)) : W p l e R s m args below meth c H locs cells slots Q (F0 m pc ls (v :: .ref a :: rest)) := va_put (D := D) (ci := 9) (C := RX9) (T := TX9) (N := 14) (ty := .int) hx hb hts iX9 tyX9 tyX9_ok nmX9 hown hK hP hD hS q0 he rfl 3 (by decide) (hts _ k_180) (fun _ h9 => h9) rfl (by decide +kernel) hn hfit hl hdg kk
theorem gf_X0_51 (hx : p.tables.exec = Jvm.exec) (hb : c.code = cc) (hts : ∀ w ∈ gT, w.before args s = true) (hown : s.vm.findClass RX0 = some m.cls) (hK : va_K D classes (tysOf tc) s) (hP : va_P D classes ws H) (q0 : Nat) {fs : List Value} {v : Value} (he : ws[q0]? = some (a, .inr (9, fs))) (hv : fs[3]? = some v) (hdg : decode cc pc = .ok (.getfield 51, 3)) (kk : W p l e R s m args below meth c H locs cells slots Q (F0 m (pc + 3) ls (v :: rest))) : W p l e R s m args below meth c H locs cells slots Q (F0 m pc ls (.ref a :: rest)) := va_get (D := D) (ci := 9) (C := RX9) (T := TX9) (N := 14) hx hb hts iX9 hown hK hP q0 he rfl 3 (by decide) (hts _ k_181) (fun _ h9 => h9) hv hdg kk
theorem pf_X0_51 (hx : p.tables.exec = Jvm.exec) (hb : c.code = cc) (hts : ∀ w ∈ gT, w.before args s = true) (hown : s.vm.findClass RX0 = some m.cls) (hK : va_K D classes (tysOf tc) s) (hP : va_P D classes ws H) (hD : va_D A ws) (hS : va_S A s.heap H locs) (q0 : Nat) {fs : List Value} {v : Value} (he : ws[q0]? = some (a, .inr (9, fs))) (hl : 3 < fs.length) (hn : narrow .int v = v) (hfit : fits .int v = true) (hdg : decode cc pc = .ok (.putfield 51, 3)) (kk : ∀ (H1 : Heap) (locs1 : List Loc), va_P D classes (ws.set q0 (a, .inr (9, fs.set 3 v))) H1 → va_D A (ws.set q0 (a, .inr (9, fs.set 3 v))) → va_S A s.heap H1 locs1 → W p l e R s m args below meth c H1 locs1 cells slots Q (F0 m (pc + 3) ls rest)) : W p l e R s m args below meth c H locs cells slots Q (F0 m pc ls (v :: .ref a :: rest)) := va_put (D := D) (ci := 9) (C := RX9) (T := TX9) (N := 14) (ty := .int) hx hb hts iX9 tyX9 tyX9_ok nmX9 hown hK hP hD hS q0 he rfl 3 (by decide) (hts _ k_181) (fun _ h9 => h9) rfl (by decide +kernel) hn hfit hl hdg kk
theorem gf_X11_121 (hx : p.tables.exec = Jvm.exec) (hb : c.code = cc) (hts : ∀ w ∈ gT, w.before args s = true) (hown : s.vm.findClass RX11 = some m.cls) (hK : va_K D classes (tysOf tc) s) (hP : va_P D classes ws H) (q0 : Nat) {fs : List Value} {v : Value} (he : ws[q0]? = some (a, .inr (9, fs))) (hv : fs[3]? = some v) (hdg : decode cc pc = .ok (.getfield 121, 3)) (kk : W p l e R s m args below meth c H locs cells slots Q (F0 m (pc + 3) ls (v :: rest))) : W p l e R s m args below meth c H locs cells slots Q (F0 m pc ls (.ref a :: rest)) := va_get (D := D) (ci := 9) (C := RX9) (T := TX9) (N := 14) hx hb hts iX9 hown hK hP q0 he rfl 3 (by decide) (hts _ k_182) (fun _ h9 => h9) hv hdg kk
theorem pf_X11_121 (hx : p.tables.exec = Jvm.exec) (hb : c.code = cc) (hts : ∀ w ∈ gT, w.before args s = true) (hown : s.vm.findClass RX11 = some m.cls) (hK : va_K D classes (tysOf tc) s) (hP : va_P D classes ws H) (hD : va_D A ws) (hS : va_S A s.heap H locs) (q0 : Nat) {fs : List Value} {v : Value} (he : ws[q0]? = some (a, .inr (9, fs))) (hl : 3 < fs.length) (hn : narrow .int v = v) (hfit : fits .int v = true) (hdg : decode cc pc = .ok (.putfield 121, 3)) (kk : ∀ (H1 : Heap) (locs1 : List Loc), va_P D classes (ws.set q0 (a, .inr (9, fs.set 3 v))) H1 → va_D A (ws.set q0 (a, .inr (9, fs.set 3 v))) → va_S A s.heap H1 locs1 → W p l e R s m args below meth c H1 locs1 cells slots Q (F0 m (pc + 3) ls rest)) : W p l e R s m args below meth c H locs cells slots Q (F0 m pc ls (v :: .ref a :: rest)) := va_put (D := D) (ci := 9) (C := RX9) (T := TX9) (N := 14) (ty := .int) hx hb hts iX9 tyX9 tyX9_ok nmX9 hown hK hP hD hS q0 he rfl 3 (by decide) (hts _ k_182) (fun _ h9 => h9) rfl (by decide +kernel) hn hfit hl hdg kk
theorem gf_X1_66 (hx : p.tables.exec = Jvm.exec) (hb : c.code = cc) (hts : ∀ w ∈ gT, w.before args s = true) (hown : s.vm.findClass RX1 = some m.cls) (hK : va_K D classes (tysOf tc) s) (hP : va_P D classes ws H) (q0 : Nat) {fs : List Value} {v : Value} (he : ws[q0]? = some (a, .inr (9, fs))) (hv : fs[3]? = some v) (hdg : decode cc pc = .ok (.getfield 66, 3)) (kk : W p l e R s m args below meth c H locs cells slots Q (F0 m (pc + 3) ls (v :: rest))) : W p l e R s m args below meth c H locs cells slots Q (F0 m pc ls (.ref a :: rest)) := va_get (D := D) (ci := 9) (C := RX9) (T := TX9) (N := 14) hx hb hts iX9 hown hK hP q0 he rfl 3 (by decide) (hts _ k_183) (fun _ h9 => h9) hv hdg kk
theorem pf_X1_66 (hx : p.tables.exec = Jvm.exec) (hb : c.code = cc) (hts : ∀ w ∈ gT, w.before args s = true) (hown : s.vm.findClass RX1 = some m.cls) (hK : va_K D classes (tysOf tc) s) (hP : va_P D classes ws H) (hD : va_D A ws) (hS : va_S A s.heap H locs) (q0 : Nat) {fs : List Value} {v : Value} (he : ws[q0]? = some (a, .inr (9, fs))) (hl : 3 < fs.length) (hn : narrow .int v = v) (hfit : fits .int v = true) (hdg : decode cc pc = .ok (.putfield 66, 3)) (kk : ∀ (H1 : Heap) (locs1 : List Loc), va_P D classes (ws.set q0 (a, .inr (9, fs.set 3 v))) H1 → va_D A (ws.set q0 (a, .inr (9, fs.set 3 v))) → va_S A s.heap H1 locs1 → W p l e R s m args below meth c H1 locs1 cells slots Q (F0 m (pc + 3) ls rest)) : W p l e R s m args below meth c H locs cells slots Q (F0 m pc ls (v :: .ref a :: rest)) := va_put (D := D) (ci := 9) (C := RX9) (T := TX9) (N := 14) (ty := .int) hx hb hts iX9 tyX9 tyX9_ok nmX9 hown hK hP hD hS q0 he rfl 3 (by decide) (hts _ k_183) (fun _ h9 => h9) rfl (by decide +kernel) hn hfit hl hdg kk
theorem gf_X9_24 (hx : p.tables.exec = Jvm.exec) (hb : c.code = cc) (hts : ∀ w ∈ gT, w.before args s = true) (hown : s.vm.findClass RX9 = some m.cls) (hK : va_K D classes (tysOf tc) s) (hP : va_P D classes ws H) (q0 : Nat) {fs : List Value} {v : Value} (he : ws[q0]? = some (a, .inr (9, fs))) (hv : fs[4]? = some v) (hdg : decode cc pc = .ok (.getfield 24, 3)) (kk : W p l e R s m args below meth c H locs cells slots Q (F0 m (pc + 3) ls (v :: rest))) : W p l e R s m args below meth c H locs cells slots Q (F0 m pc ls (.ref a :: rest)) := va_get (D := D) (ci := 9) (C := RX9) (T := TX9) (N := 14) hx hb hts iX9 hown hK hP q0 he rfl 4 (by decide) (hts _ k_184) (fun _ h9 => h9) hv hdg kk
theorem pf_X9_24 (hx : p.tables.exec = Jvm.exec) (hb : c.code = cc) (hts : ∀ w ∈ gT, w.before args s = true) (hown : s.vm.findClass RX9 = some m.cls) (hK : va_K D classes (tysOf tc) s) (hP : va_P D classes ws H) (hD : va_D A ws) (hS : va_S A s.heap H locs) (q0 : Nat) {fs : List Value} {v : Value} (he : ws[q0]? = some (a, .inr (9, fs))) (hl : 4 < fs.length) (hn : narrow .int v = v) (hfit : fits .int v = true) (hdg : decode cc pc = .ok (.putfield 24, 3)) (kk : ∀ (H1 : Heap) (locs1 : List Loc), va_P D classes (ws.set q0 (a, .inr (9, fs.set 4 v))) H1 → va_D A (ws.set q0 (a, .inr (9, fs.set 4 v))) → va_S A s.heap H1 locs1 → W p l e R s m args below meth c H1 locs1 cells slots Q (F0 m (pc + 3) ls rest)) : W p l e R s m args below meth c H locs cells slots Q (F0 m pc ls (v :: .ref a :: rest)) := va_put (D := D) (ci := 9) (C := RX9) (T := TX9) (N := 14) (ty := .int) hx hb hts iX9 tyX9 tyX9_ok nmX9 hown hK hP hD hS q0 he rfl 4 (by decide) (hts _ k_184) (fun _ h9 => h9) rfl (by decide +kernel) hn hfit hl hdg kk
theorem gf_X4_53 (hx : p.tables.exec = Jvm.exec) (hb : c.code = cc) (hts : ∀ w ∈ gT, w.before args s = true) (hown : s.vm.findClass RX4 = some m.cls) (hK : va_K D classes (tysOf tc) s) (hP : va_P D classes ws H) (q0 : Nat) {fs : List Value} {v : Value} (he : ws[q0]? = some (a, .inr (9, fs))) (hv : fs[4]? = some v) (hdg : decode cc pc = .ok (.getfield 53, 3)) (kk : W p l e R s m args below meth c H locs cells slots Q (F0 m (pc + 3) ls (v :: rest))) : W p l e R s m args below meth c H locs cells slots Q (F0 m pc ls (.ref a :: rest)) := va_get (D := D) (ci := 9) (C := RX9) (T := TX9) (N := 14) hx hb hts iX9 hown hK hP q0 he rfl 4 (by decide) (hts _ k_185) (fun _ h9 => h9) hv hdg kk
theorem pf_X4_53 (hx : p.tables.exec = Jvm.exec) (hb : c.code = cc) (hts : ∀ w ∈ gT, w.before args s = true) (hown : s.vm.findClass RX4 = some m.cls) (hK : va_K D classes (tysOf tc) s) (hP : va_P D classes ws H) (hD : va_D A ws) (hS : va_S A s.heap H locs) (q0 : Nat) {fs : List Value} {v : Value} (he : ws[q0]? = some (a, .inr (9, fs))) (hl : 4 < fs.length) (hn : narrow .int v = v) (hfit : fits .int v = true) (hdg : decode cc pc = .ok (.putfield 53, 3)) (kk : ∀ (H1 : Heap) (locs1 : List Loc), va_P D classes (ws.set q0 (a, .inr (9, fs.set 4 v))) H1 → va_D A (ws.set q0 (a, .inr (9, fs.set 4 v))) → va_S A s.heap H1 locs1 → W p l e R s m args below meth c H1 locs1 cells slots Q (F0 m (pc + 3) ls rest)) : W p l e R s m args below meth c H locs cells slots Q (F0 m pc ls (v :: .ref a :: rest)) := va_put (D := D) (ci := 9) (C := RX9) (T := TX9) (N := 14) (ty := .int) hx hb hts iX9 tyX9 tyX9_ok nmX9 hown hK hP hD hS q0 he rfl 4 (by decide) (hts _ k_185) (fun _ h9 => h9) rfl (by decide +kernel) hn hfit hl hdg kk
theorem gf_X1_44 (hx : p.tables.exec = Jvm.exec) (hb : c.code = cc) (hts : ∀ w ∈ gT, w.before args s = true) (hown : s.vm.findClass RX1 = some m.cls) (hK : va_K D classes (tysOf tc) s) (hP : va_P D classes ws H) (q0 : Nat) {fs : List Value} {v : Value} (he : ws[q0]? = some (a, .inr (9, fs))) (hv : fs[4]? = some v) (hdg : decode cc pc = .ok (.getfield 44, 3)) (kk : W p l e R s m args below meth c H locs cells slots Q (F0 m (pc + 3) ls (v :: rest))) : W p l e R s m args below meth c H locs cells slots Q (F0 m pc ls (.ref a :: rest)) := va_get (D := D) (ci := 9) (C := RX9) (T := TX9) (N := 14) hx hb hts iX9 hown hK hP q0 he rfl 4 (by decide) (hts _ k_186) (fun _ h9 => h9) hv hdg kk
theorem pf_X1_44 (hx : p.tables.exec = Jvm.exec) (hb : c.code = cc) (hts : ∀ w ∈ gT, w.before args s = true) (hown : s.vm.findClass RX1 = some m.cls) (hK : va_K D classes (tysOf tc) s) (hP : va_P D classes ws H) (hD : va_D A ws) (hS : va_S A s.heap H locs) (q0 : Nat) {fs : List Value} {v : Value} (he : ws[q0]? = some (a, .inr (9, fs))) (hl : 4 < fs.length) (hn : narrow .int v = v) (hfit : fits .int v = true) (hdg : decode cc pc = .ok (.putfield 44, 3)) (kk : ∀ (H1 : Heap) (locs1 : List Loc), va_P D classes (ws.set q0 (a, .inr (9, fs.set 4 v))) H1 → va_D A (ws.set q0 (a, .inr (9, fs.set 4 v))) → va_S A s.heap H1 locs1 → W p l e R s m args below meth c H1 locs1 cells slots Q (F0 m (pc + 3) ls rest)) : W p l e R s m args below meth c H locs cells slots Q (F0 m pc ls (v :: .ref a :: rest)) := va_put (D := D) (ci := 9) (C := RX9) (T := TX9) (N := 14) (ty := .int) hx hb hts iX9 tyX9 tyX9_ok nmX9 hown hK hP hD hS q0 he rfl 4 (by decide) (hts _ k_186) (fun _ h9 => h9) rfl (by decide +kernel) hn hfit hl hdg kk
theorem gf_X11_179 (hx : p.tables.exec = Jvm.exec) (hb : c.code = cc) (hts : ∀ w ∈ gT, w.before args s = true) (hown : s.vm.findClass RX11 = some m.cls) (hK : va_K D classes (tysOf tc) s) (hP : va_P D classes ws H) (q0 : Nat) {fs : List Value} {v : Value} (he : ws[q0]? = some (a, .inr (9, fs))) (hv : fs[4]? = some v) (hdg : decode cc pc = .ok (.getfield 179, 3)) (kk : W p l e R s m args below meth c H locs cells slots Q (F0 m (pc + 3) ls (v :: rest))) : W p l e R s m args below meth c H locs cells slots Q (F0 m pc ls (.ref a :: rest)) := va_get (D := D) (ci := 9) (C := RX9) (T := TX9) (N := 14) hx hb hts iX9 hown hK hP q0 he rfl 4 (by decide) (hts _ k_187) (fun _ h9 => h9) hv hdg kk
theorem pf_X11_179 (hx : p.tables.exec = Jvm.exec) (hb : c.code = cc) (hts : ∀ w ∈ gT, w.before args s = true) (hown : s.vm.findClass RX11 = some m.cls) (hK : va_K D classes (tysOf tc) s) (hP : va_P D classes ws H) (hD : va_D A ws) (hS : va_S A s.heap H locs) (q0 : Nat) {fs : List Value} {v : Value} (he : ws[q0]? = some (a, .inr (9, fs))) (hl : 4 < fs.length) (hn : narrow .int v = v) (hfit : fits .int v = true) (hdg : decode cc pc = .ok (.putfield 179, 3)) (kk : ∀ (H1 : Heap) (locs1 : List Loc), va_P D classes (ws.set q0 (a, .inr (9, fs.set 4 v))) H1 → va_D A (ws.set q0 (a, .inr (9, fs.set 4 v))) → va_S A s.heap H1 locs1 → W p l e R s m args below meth c H1 locs1 cells slots Q (F0 m (pc + 3) ls rest)) : W p l e R s m args below meth c H locs cells slots Q (F0 m pc ls (v :: .ref a :: rest)) := va_put (D := D) (ci := 9) (C := RX9) (T := TX9) (N := 14) (ty := .int) hx hb hts iX9 tyX9 tyX9_ok nmX9 hown hK hP hD hS q0 he rfl 4 (by decide) (hts _ k_187) (fun _ h9 => h9) rfl (by decide +kernel) hn hfit hl hdg kk
theorem gf_X9_27 (hx : p.tables.exec = Jvm.exec) (hb : c.code = cc) (hts : ∀ w ∈ gT, w.before args s = true) (hown : s.vm.findClass RX9 = some m.cls) (hK : va_K D classes (tysOf tc) s) (hP : va_P D classes ws H) (q0 : Nat) {fs : List Value} {v : Value} (he : ws[q0]? = some (a, .inr (9, fs))) (hv : fs[5]? = some v) (hdg : decode cc pc = .ok (.getfield 27, 3)) (kk : W p l e R s m args below meth c H locs cells slots Q (F0 m (pc + 3) ls (v :: rest))) : W p l e R s m args below meth c H locs cells slots Q (F0 m pc ls (.ref a :: rest)) := va_get (D := D) (ci := 9) (C := RX9) (T := TX9) (N := 14) hx hb hts iX9 hown hK hP q0 he rfl 5 (by decide) (hts _ k_188) (fun _ h9 => h9) hv hdg kk
theorem pf_X9_27 (hx : p.tables.exec = Jvm.exec) (hb : c.code = cc) (hts : ∀ w ∈ gT, w.before args s = true) (hown : s.vm.findClass RX9 = some m.cls) (hK : va_K D classes (tysOf tc) s) (hP : va_P D classes ws H) (hD : va_D A ws) (hS : va_S A s.heap H locs) (q0 : Nat) {fs : List Value} {v : Value} (he : ws[q0]? = some (a, .inr (9, fs))) (hl : 5 < fs.length) (hn : narrow .int v = v) (hfit : fits .int v = true) (hdg : decode cc pc = .ok (.putfield 27, 3)) (kk : ∀ (H1 : Heap) (locs1 : List Loc), va_P D classes (ws.set q0 (a, .inr (9, fs.set 5 v))) H1 → va_D A (ws.set q0 (a, .inr (9, fs.set 5 v))) → va_S A s.heap H1 locs1 → W p l e R s m args below meth c H1 locs1 cells slots Q (F0 m (pc + 3) ls rest)) : W p l e R s m args below meth c H locs cells slots Q (F0 m pc ls (v :: .ref a :: rest)) := va_put (D := D) (ci := 9) (C := RX9) (T := TX9) (N := 14) (ty := .int) hx hb hts iX9 tyX9 tyX9_ok nmX9 hown hK hP hD hS q0 he rfl 5 (by decide) (hts _ k_188) (fun _ h9 => h9) rfl (by decide +kernel) hn hfit hl hdg kk
theorem gf_X11_294 (hx : p.tables.exec = Jvm.exec) (hb : c.code = cc) (hts : ∀ w ∈ gT, w.before args s = true) (hown : s.vm.findClass RX11 = some m.cls) (hK : va_K D classes (tysOf tc) s) (hP : va_P D classes ws H) (q0 : Nat) {fs : List Value} {v : Value} (he : ws[q0]? = some (a, .inr (9, fs))) (hv : fs[5]? = some v) (hdg : decode cc pc = .ok (.getfield 294, 3)) (kk : W p l e R s m args below meth c H locs cells slots Q (F0 m (pc + 3) ls (v :: rest))) : W p l e R s m args below meth c H locs cells slots Q (F0 m pc ls (.ref a :: rest)) := va_get (D := D) (ci := 9) (C := RX9) (T := TX9) (N := 14) hx hb hts iX9 hown hK hP q0 he rfl 5 (by decide) (hts _ k_189) (fun _ h9 => h9) hv hdg kk
theorem pf_X11_294 (hx : p.tables.exec = Jvm.exec) (hb : c.code = cc) (hts : ∀ w ∈ gT, w.before args s = true) (hown : s.vm.findClass RX11 = some m.cls) (hK : va_K D classes (tysOf tc) s) (hP : va_P D classes ws H) (hD : va_D A ws) (hS : va_S A s.heap H locs) (q0 : Nat) {fs : List Value} {v : Value} (he : ws[q0]? = some (a, .inr (9, fs))) (hl : 5 < fs.length) (hn : narrow .int v = v) (hfit : fits .int v = true) (hdg : decode cc pc = .ok (.putfield 294, 3)) (kk : ∀ (H1 : Heap) (locs1 : List Loc), va_P D classes (ws.set q0 (a, .inr (9, fs.set 5 v))) H1 → va_D A (ws.set q0 (a, .inr (9, fs.set 5 v))) → va_S A s.heap H1 locs1 → W p l e R s m args below meth c H1 locs1 cells slots Q (F0 m (pc + 3) ls rest)) : W p l e R s m args below meth c H locs cells slots Q (F0 m pc ls (v :: .ref a :: rest)) := va_put (D := D) (ci := 9) (C := RX9) (T := TX9) (N := 14) (ty := .int) hx hb hts iX9 tyX9 tyX9_ok nmX9 hown hK hP hD hS q0 he rfl 5 (by decide) (hts _ k_189) (fun _ h9 => h9) rfl (by decide +kernel) hn hfit hl hdg kk
theorem gf_X9_30 (hx : p.tables.exec = Jvm.exec) (hb : c.code = cc) (hts : ∀ w ∈ gT, w.before args s = true) (hown : s.vm.findClass RX9 = some m.cls) (hK : va_K D classes (tysOf tc) s) (hP : va_P D classes ws H) (q0 : Nat) {fs : List Value} {v : Value} (he : ws[q0]? = some (a, .inr (9, fs))) (hv : fs[6]? = some v) (hdg : decode cc pc = .ok (.getfield 30, 3)) (kk : W p l e R s m args below meth c H locs cells slots Q (F0 m (pc + 3) ls (v :: rest))) : W p l e R s m args below meth c H locs cells slots Q (F0 m pc ls (.ref a :: rest)) := va_get (D := D) (ci := 9) (C := RX9) (T := TX9) (N := 14) hx hb hts iX9 hown hK hP q0 he rfl 6 (by decide) (hts _ k_190) (fun _ h9 => h9) hv hdg kk
theorem pf_X9_30 (hx : p.tables.exec = Jvm.exec) (hb : c.code = cc) (hts : ∀ w ∈ gT, w.before args s = true) (hown : s.vm.findClass RX9 = some m.cls) (hin2 : meth.name = "<init>") (hK : va_K D classes (tysOf tc) s) (hP : va_P D classes ws H) (hD : va_D A ws) (hS : va_S A s.heap H locs) (q0 : Nat) {fs : List Value} {v : Value} {ty : FieldType} (he : ws[q0]? = some (a, .inr (9, fs))) (hl : 6 < fs.length) (hd : parseFieldDescriptor (TX9 6).2.2.1 = some ty) (hn : narrow ty v = v) (hfit : fits ty v = true) (hdg : decode cc pc = .ok (.putfield 30, 3)) (kk : ∀ (H1 : Heap) (locs1 : List Loc), va_P D classes (ws.set q0 (a, .inr (9, fs.set 6 v))) H1 → va_D A (ws.set q0 (a, .inr (9, fs.set 6 v))) → va_S A s.heap H1 locs1 → W p l e R s m args below meth c H1 locs1 cells slots Q (F0 m (pc + 3) ls rest)) : W p l e R s m args below meth c H locs cells slots Q (F0 m pc ls (v :: .ref a :: rest)) := va_putF (D := D) (ci := 9) (C := RX9) (T := TX9) (N := 14) hx hb hts iX9 tyX9 tyX9_ok nmX9 hown hK hP hD hS q0 he rfl 6 (by decide) (hts _ k_190) (fun _ h9 => h9) rfl hin2 rfl hd hn hfit hl hdg kk
theorem gf_X0_87 (hx : p.tables.exec = Jvm.exec) (hb : c.code = cc) (hts : ∀ w ∈ gT, w.before args s = true) (hown : s.vm.findClass RX0 = some m.cls) (hK : va_K D classes (tysOf tc) s) (hP : va_P D classes ws H) (q0 : Nat) {fs : List Value} {v : Value} (he : ws[q0]? = some (a, .inr (9, fs))) (hv : fs[6]? = some v) (hdg : decode cc pc = .ok (.getfield 87, 3)) (kk : W p l e R s m args below meth c H locs cells slots Q (F0 m (pc + 3) ls (v :: rest))) : W p l e R s m args below meth c H locs cells slots Q (F0 m pc ls (.ref a :: rest)) := va_get (D := D) (ci := 9) (C := RX9) (T := TX9) (N := 14) hx hb hts iX9 hown hK hP q0 he rfl 6 (by decide) (hts _ k_191) (fun _ h9 => h9) hv hdg kk
theorem gf_X11_170 (hx : p.tables.exec = Jvm.exec) (hb : c.code = cc) (hts : ∀ w ∈ gT, w.before args s = true) (hown : s.vm.findClass RX11 = some m.cls) (hK : va_K D classes (tysOf tc) s) (hP : va_P D classes ws H) (q0 : Nat) {fs : List Value} {v : Value} (he : ws[q0]? = some (a, .inr (9, fs))) (hv : fs[6]? = some v) (hdg : decode cc pc = .ok (.getfield 170, 3)) (kk : W p l e R s m args below meth c H locs cells slots Q (F0 m (pc + 3) ls (v :: rest))) : W p l e R s m args below meth c H locs cells slots Q (F0 m pc ls (.ref a :: rest)) := va_get (D := D) (ci := 9) (C := RX9) (T := TX9) (N := 14) hx hb hts iX9 hown hK hP q0 he rfl 6 (by decide) (hts _ k_192) (fun _ h9 => h9) hv hdg kk
theorem gf_X4_95 (hx : p.tables.exec = Jvm.exec) (hb : c.code = cc) (hts : ∀ w ∈ gT, w.before args s = true) (hown : s.vm.findClass RX4 = some m.cls) (hK : va_K D classes (tysOf tc) s) (hP : va_P D classes ws H) (q0 : Nat) {fs : List Value} {v : Value} (he : ws[q0]? = some (a, .inr (9, fs))) (hv : fs[6]? = some v) (hdg : decode cc pc = .ok (.getfield 95, 3)) (kk : W p l e R s m args below meth c H locs cells slots Q (F0 m (pc + 3) ls (v :: rest))) : W p l e R s m args below meth c H locs cells slots Q (F0 m pc ls (.ref a :: rest)) := va_get (D := D) (ci := 9) (C := RX9) (T := TX9) (N := 14) hx hb hts iX9 hown hK hP q0 he rfl 6 (by decide) (hts _ k_193) (fun _ h9 => h9) hv hdg kk
theorem gf_X9_34 (hx : p.tables.exec = Jvm.exec) (hb : c.code = cc) (hts : ∀ w ∈ gT, w.before args s = true) (hown : s.vm.findClass RX9 = some m.cls) (hK : va_K D classes (tysOf tc) s) (hP : va_P D classes ws H) (q0 : Nat) {fs : List Value} {v : Value} (he : ws[q0]? = some (a, .inr (9, fs))) (hv : fs[7]? = some v) (hdg : decode cc pc = .ok (.getfield 34, 3)) (kk : W p l e R s m args below meth c H locs cells slots Q (F0 m (pc + 3) ls (v :: rest))) : W p l e R s m args below meth c H locs cells slots Q (F0 m pc ls (.ref a :: rest)) := va_get (D := D) (ci := 9) (C := RX9) (T := TX9) (N := 14) hx hb hts iX9 hown hK hP q0 he rfl 7 (by decide) (hts _ k_194) (fun _ h9 => h9) hv hdg kk
theorem pf_X9_34 (hx : p.tables.exec = Jvm.exec) (hb : c.code = cc) (hts : ∀ w ∈ gT, w.before args s = true) (hown : s.vm.findClass RX9 = some m.cls) (hin2 : meth.name = "<init>") (hK : va_K D classes (tysOf tc) s) (hP : va_P D classes ws H) (hD : va_D A ws) (hS : va_S A s.heap H locs) (q0 : Nat) {fs : List Value} {v : Value} {ty : FieldType} (he : ws[q0]? = some (a, .inr (9, fs))) (hl : 7 < fs.length) (hd : parseFieldDescriptor (TX9 7).2.2.1 = some ty) (hn : narrow ty v = v) (hfit : fits ty v = true) (hdg : decode cc pc = .ok (.putfield 34, 3)) (kk : ∀ (H1 : Heap) (locs1 : List Loc), va_P D classes (ws.set q0 (a, .inr (9, fs.set 7 v))) H1 → va_D A (ws.set q0 (a, .inr (9, fs.set 7 v))) → va_S A s.heap H1 locs1 → W p l e R s m args below meth c H1 locs1 cells slots Q (F0 m (pc + 3) ls rest)) : W p l e R s m args below meth c H locs cells slots Q (F0 m pc ls (v :: .ref a :: rest)) := va_putF (D := D) (ci := 9) (C := RX9) (T := TX9) (N := 14) hx hb hts iX9 tyX9 tyX9_ok nmX9 hown hK hP hD hS q0 he rfl 7 (by decide) (hts _ k_194) (fun _ h9 => h9) rfl hin2 rfl hd hn hfit hl hdg kk
theorem gf_X1_33 (hx : p.tables.exec = Jvm.exec) (hb : c.code = cc) (hts : ∀ w ∈ gT, w.before args s = true) (hown : s.vm.findClass RX1 = some m.cls) (hK : va_K D classes (tysOf tc) s) (hP : va_P D classes ws H) (q0 : Nat) {fs : List Value} {v : Value} (he : ws[q0]? = some (a, .inr (9, fs))) (hv : fs[7]? = some v) (hdg : decode cc pc = .ok (.getfield 33, 3)) (kk : W p l e R s m args below meth c H locs cells slots Q (F0 m (pc + 3) ls (v :: rest))) : W p l e R s m args below meth c H locs cells slots Q (F0 m pc ls (.ref a :: rest)) := va_get (D := D) (ci := 9) (C := RX9) (T := TX9) (N := 14) hx hb hts iX9 hown hK hP q0 he rfl 7 (by decide) (hts _ k_195) (fun _ h9 => h9) hv hdg kk
theorem gf_X0_103 (hx : p.tables.exec = Jvm.exec) (hb : c.code = cc) (hts : ∀ w ∈ gT, w.before args s = true) (hown : s.vm.findClass RX0 = some m.cls) (hK : va_K D classes (tysOf tc) s) (hP : va_P D classes ws H) (q0 : Nat) {fs : List Value} {v : Value} (he : ws[q0]? = some (a, .inr (9, fs))) (hv : fs[7]? = some v) (hdg : decode cc pc = .ok (.getfield 103, 3)) (kk : W p l e R s m args below meth c H locs cells slots Q (F0 m (pc + 3) ls (v :: rest))) : W p l e R s m args below meth c H locs cells slots Q (F0 m pc ls (.ref a :: rest)) := va_get (D := D) (ci := 9) (C := RX9) (T := TX9) (N := 14) hx hb hts iX9 hown hK hP q0 he rfl 7 (by decide) (hts _ k_196) (fun _ h9 => h9) hv hdg kk
theorem gf_X11_173 (hx : p.tables.exec = Jvm.exec) (hb : c.code = cc) (hts : ∀ w ∈ gT, w.before args s = true) (hown : s.vm.findClass RX11 = some m.cls) (hK : va_K D classes (tysOf tc) s) (hP : va_P D classes ws H) (q0 : Nat) {fs : List Value} {v : Value} (he : ws[q0]? = some (a, .inr (9, fs))) (hv : fs[7]? = some v) (hdg : decode cc pc = .ok (.getfield 173, 3)) (kk : W p l e R s m args below meth c H locs cells slots Q (F0 m (pc + 3) ls (v :: rest))) : W p l e R s m args below meth c H locs cells slots Q (F0 m pc ls (.ref a :: rest)) := va_get (D := D) (ci := 9) (C := RX9) (T := TX9) (N := 14) hx hb hts iX9 hown hK hP q0 he rfl 7 (by decide) (hts _ k_197) (fun _ h9 => h9) hv hdg kk
theorem gf_X9_37 (hx : p.tables.exec = Jvm.exec) (hb : c.code = cc) (hts : ∀ w ∈ gT, w.before args s = true) (hown : s.vm.findClass RX9 = some m.cls) (hK : va_K D classes (tysOf tc) s) (hP : va_P D classes ws H) (q0 : Nat) {fs : List Value} {v : Value} (he : ws[q0]? = some (a, .inr (9, fs))) (hv : fs[8]? = some v) (hdg : decode cc pc = .ok (.getfield 37, 3)) (kk : W p l e R s m args below meth c H locs cells slots Q (F0 m (pc + 3) ls (v :: rest))) : W p l e R s m args below meth c H locs cells slots Q (F0 m pc ls (.ref a :: rest)) := va_get (D := D) (ci := 9) (C := RX9) (T := TX9) (N := 14) hx hb hts iX9 hown hK hP q0 he rfl 8 (by decide) (hts _ k_198) (fun _ h9 => h9) hv hdg kk
theorem pf_X9_37 (hx : p.tables.exec = Jvm.exec) (hb : c.code = cc) (hts : ∀ w ∈ gT, w.before args s = true) (hown : s.vm.findClass RX9 = some m.cls) (hin2 : meth.name = "<init>") (hK : va_K D classes (tysOf tc) s) (hP : va_P D classes ws H) (hD : va_D A ws) (hS : va_S A s.heap H locs) (q0 : Nat) {fs : List Value} {v : Value} {ty : FieldType} (he : ws[q0]? = some (a, .inr (9, fs))) (hl : 8 < fs.length) (hd : parseFieldDescriptor (TX9 8).2.2.1 = some ty) (hn : narrow ty v = v) (hfit : fits ty v = true) (hdg : decode cc pc = .ok (.putfield 37, 3)) (kk : ∀ (H1 : Heap) (locs1 : List Loc), va_P D classes (ws.set q0 (a, .inr (9, fs.set 8 v))) H1 → va_D A (ws.set q0 (a, .inr (9, fs.set 8 v))) → va_S A s.heap H1 locs1 → W p l e R s m args below meth c H1 locs1 cells slots Q (F0 m (pc + 3) ls rest)) : W p l e R s m args below meth c H locs cells slots Q (F0 m pc ls (v :: .ref a :: rest)) := va_putF (D := D) (ci := 9) (C := RX9) (T := TX9) (N := 14) hx hb hts iX9 tyX9 tyX9_ok nmX9 hown hK hP hD hS q0 he rfl 8 (by decide) (hts _ k_198) (fun _ h9 => h9) rfl hin2 rfl hd hn hfit hl hdg kk
theorem gf_X4_42 (hx : p.tables.exec = Jvm.exec) (hb : c.code = cc) (hts : ∀ w ∈ gT, w.before args s = true) (hown : s.vm.findClass RX4 = some m.cls) (hK : va_K D classes (tysOf tc) s) (hP : va_P D classes ws H) (q0 : Nat) {fs : List Value} {v : Value} (he : ws[q0]? = some (a, .inr (9, fs))) (hv : fs[8]? = some v) (hdg : decode cc pc = .ok (.getfield 42, 3)) (kk : W p l e R s m args below meth c H locs cells slots Q (F0 m (pc + 3) ls (v :: rest))) : W p l e R s m args below meth c H locs cells slots Q (F0 m pc ls (.ref a :: rest)) := va_get (D := D) (ci := 9) (C := RX9) (T := TX9) (N := 14) hx hb hts iX9 hown hK hP q0 he rfl 8 (by decide) (hts _ k_199) (fun _ h9 => h9) hv hdg kk
theorem gf_X1_63 (hx : p.tables.exec = Jvm.exec) (hb : c.code = cc) (hts : ∀ w ∈ gT, w.before args s = true) (hown : s.vm.findClass RX1 = some m.cls) (hK : va_K D classes (tysOf tc) s) (hP : va_P D classes ws H) (q0 : Nat) {fs : List Value} {v : Value} (he : ws[q0]? = some (a, .inr (9, fs))) (hv : fs[8]? = some v) (hdg : decode cc pc = .ok (.getfield 63, 3)) (kk : W p l e R s m args below meth c H locs cells slots Q (F0 m (pc + 3) ls (v :: rest))) : W p l e R s m args below meth c H locs cells slots Q (F0 m pc ls (.ref a :: rest)) := va_get (D := D) (ci := 9) (C := RX9) (T := TX9) (N := 14) hx hb hts iX9 hown hK hP q0 he rfl 8 (by decide) (hts _ k_200) (fun _ h9 => h9) hv hdg kk
theorem gf_X0_91 (hx : p.tables.exec = Jvm.exec) (hb : c.code = cc) (hts : ∀ w ∈ gT, w.before args s = true) (hown : s.vm.findClass RX0 = some m.cls) (hK : va_K D classes (tysOf tc) s) (hP : va_P D classes ws H) (q0 : Nat) {fs : List Value} {v : Value} (he : ws[q0]? = some (a, .inr (9, fs))) (hv : fs[8]? = some v) (hdg : decode cc pc = .ok (.getfield 91, 3)) (kk : W p l e R s m args below meth c H locs cells slots Q (F0 m (pc + 3) ls (v :: rest))) : W p l e R s m args below meth c H locs cells slots Q (F0 m pc ls (.ref a :: rest)) := va_get (D := D) (ci := 9) (C := RX9) (T := TX9) (N := 14) hx hb hts iX9 hown hK hP q0 he rfl 8 (by decide) (hts _ k_201) (fun _ h9 => h9) hv hdg kk
theorem gf_X11_137 (hx : p.tables.exec = Jvm.exec) (hb : c.code = cc) (hts : ∀ w ∈ gT, w.before args s = true) (hown : s.vm.findClass RX11 = some m.cls) (hK : va_K D classes (tysOf tc) s) (hP : va_P D classes ws H) (q0 : Nat) {fs : List Value} {v : Value} (he : ws[q0]? = some (a, .inr (9, fs))) (hv : fs[8]? = some v) (hdg : decode cc pc = .ok (.getfield 137, 3)) (kk : W p l e R s m args below meth c H locs cells slots Q (F0 m (pc + 3) ls (v :: rest))) : W p l e R s m args below meth c H locs cells slots Q (F0 m pc ls (.ref a :: rest)) := va_get (D := D) (ci := 9) (C := RX9) (T := TX9) (N := 14) hx hb hts iX9 hown hK hP q0 he rfl 8 (by decide) (hts _ k_202) (fun _ h9 => h9) hv hdg kk
theorem gf_X9_40 (hx : p.tables.exec = Jvm.exec) (hb : c.code = cc) (hts : ∀ w ∈ gT, w.before args s = true) (hown : s.vm.findClass RX9 = some m.cls) (hK : va_K D classes (tysOf tc) s) (hP : va_P D classes ws H) (q0 : Nat) {fs : List Value} {v : Value} (he : ws[q0]? = some (a, .inr (9, fs))) (hv : fs[9]? = some v) (hdg : decode cc pc = .ok (.getfield 40, 3)) (kk : W p l e R s m args below meth c H locs cells slots Q (F0 m (pc + 3) ls (v :: rest))) : W p l e R s m args below meth c H locs cells slots Q (F0 m pc ls (.ref a :: rest)) := va_get (D := D) (ci := 9) (C := RX9) (T := TX9) (N := 14) hx hb hts iX9 hown hK hP q0 he rfl 9 (by decide) (hts _ k_203) (fun _ h9 => h9) hv hdg kk
theorem pf_X9_40 (hx : p.tables.exec = Jvm.exec) (hb : c.code = cc) (hts : ∀ w ∈ gT, w.before args s = true) (hown : s.vm.findClass RX9 = some m.cls) (hin2 : meth.name = "<init>") (hK : va_K D classes (tysOf tc) s) (hP : va_P D classes ws H) (hD : va_D A ws) (hS : va_S A s.heap H locs) (q0 : Nat) {fs : List Value} {v : Value} {ty : FieldType} (he : ws[q0]? = some (a, .inr (9, fs))) (hl : 9 < fs.length) (hd : parseFieldDescriptor (TX9 9).2.2.1 = some ty) (hn : narrow ty v = v) (hfit : fits ty v = true) (hdg : decode cc pc = .ok (.putfield 40, 3)) (kk : ∀ (H1 : Heap) (locs1 : List Loc), va_P D classes (ws.set q0 (a, .inr (9, fs.set 9 v))) H1 → va_D A (ws.set q0 (a, .inr (9, fs.set 9 v))) → va_S A s.heap H1 locs1 → W p l e R s m args below meth c H1 locs1 cells slots Q (F0 m (pc + 3) ls rest)) : W p l e R s m args below meth c H locs cells slots Q (F0 m pc ls (v :: .ref a :: rest)) := va_putF (D := D) (ci := 9) (C := RX9) (T := TX9) (N := 14) hx hb hts iX9 tyX9 tyX9_ok nmX9 hown hK hP hD hS q0 he rfl 9 (by decide) (hts _ k_203) (fun _ h9 => h9) rfl hin2 rfl hd hn hfit hl hdg kk
theorem gf_X0_94 (hx : p.tables.exec = Jvm.exec) (hb : c.code = cc) (hts : ∀ w ∈ gT, w.before args s = true) (hown : s.vm.findClass RX0 = some m.cls) (hK : va_K D classes (tysOf tc) s) (hP : va_P D classes ws H) (q0 : Nat) {fs : List Value} {v : Value} (he : ws[q0]? = some (a, .inr (9, fs))) (hv : fs[9]? = some v) (hdg : decode cc pc = .ok (.getfield 94, 3)) (kk : W p l e R s m args below meth c H locs cells slots Q (F0 m (pc + 3) ls (v :: rest))) : W p l e R s m args below meth c H locs cells slots Q (F0 m pc ls (.ref a :: rest)) := va_get (D := D) (ci := 9) (C := RX9) (T := TX9) (N := 14) hx hb hts iX9 hown hK hP q0 he rfl 9 (by decide) (hts _ k_204) (fun _ h9 => h9) hv hdg kk
theorem gf_X11_141 (hx : p.tables.exec = Jvm.exec) (hb : c.code = cc) (hts : ∀ w ∈ gT, w.before args s = true) (hown : s.vm.findClass RX11 = some m.cls) (hK : va_K D classes (tysOf tc) s) (hP : va_P D classes ws H) (q0 : Nat) {fs : List Value} {v : Value} (he : ws[q0]? = some (a, .inr (9, fs))) (hv : fs[9]? = some v) (hdg : decode cc pc = .ok (.getfield 141, 3)) (kk : W p l e R s m args below meth c H locs cells slots Q (F0 m (pc + 3) ls (v :: rest))) : W p l e R s m args below meth c H locs cells slots Q (F0 m pc ls (.ref a :: rest)) := va_get (D := D) (ci := 9) (C := RX9) (T := TX9) (N := 14) hx hb hts iX9 hown hK hP q0 he rfl 9 (by decide) (hts _ k_205) (fun _ h9 => h9) hv hdg kk
theorem gf_X1_73 (hx : p.tables.exec = Jvm.exec) (hb : c.code = cc) (hts : ∀ w ∈ gT, w.before args s = true) (hown : s.vm.findClass RX1 = some m.cls) (hK : va_K D classes (tysOf tc) s) (hP : va_P D classes ws H) (q0 : Nat) {fs : List Value} {v : Value} (he : ws[q0]? = some (a, .inr (9, fs))) (hv : fs[9]? = some v) (hdg : decode cc pc = .ok (.getfield 73, 3)) (kk : W p l e R s m args below meth c H locs cells slots Q (F0 m (pc + 3) ls (v :: rest))) : W p l e R s m args below meth c H locs cells slots Q (F0 m pc ls (.ref a :: rest)) := va_get (D := D) (ci := 9) (C := RX9) (T := TX9) (N := 14) hx hb hts iX9 hown hK hP q0 he rfl 9 (by decide) (hts _ k_206) (fun _ h9 => h9) hv hdg kk
theorem gf_X9_43 (hx : p.tables.exec = Jvm.exec) (hb : c.code = cc) (hts : ∀ w ∈ gT, w.before args s = true) (hown : s.vm.findClass RX9 = some m.cls) (hK : va_K D classes (tysOf tc) s) (hP : va_P D classes ws H) (q0 : Nat) {fs : List Value} {v : Value} (he : ws[q0]? = some (a, .inr (9, fs))) (hv : fs[10]? = some v) (hdg : decode cc pc = .ok (.getfield 43, 3)) (kk : W p l e R s m args below meth c H locs cells slots Q (F0 m (pc + 3) ls (v :: rest))) : W p l e R s m args below meth c H locs cells slots Q (F0 m pc ls (.ref a :: rest)) := va_get (D := D) (ci := 9) (C := RX9) (T := TX9) (N := 14) hx hb hts iX9 hown hK hP q0 he rfl 10 (by decide) (hts _ k_207) (fun _ h9 => h9) hv hdg kk
theorem pf_X9_43 (hx : p.tables.exec = Jvm.exec) (hb : c.code = cc) (hts : ∀ w ∈ gT, w.before args s = true) (hown : s.vm.findClass RX9 = some m.cls) (hin2 : meth.name = "<init>") (hK : va_K D classes (tysOf tc) s) (hP : va_P D classes ws H) (hD : va_D A ws) (hS : va_S A s.heap H locs) (q0 : Nat) {fs : List Value} {v : Value} {ty : FieldType} (he : ws[q0]? = some (a, .inr (9, fs))) (hl : 10 < fs.length) (hd : parseFieldDescriptor (TX9 10).2.2.1 = some ty) (hn : narrow ty v = v) (hfit : fits ty v = true) (hdg : decode cc pc = .ok (.putfield 43, 3)) (kk : ∀ (H1 : Heap) (locs1 : List Loc), va_P D classes (ws.set q0 (a, .inr (9, fs.set 10 v))) H1 → va_D A (ws.set q0 (a, .inr (9, fs.set 10 v))) → va_S A s.heap H1 locs1 → W p l e R s m args below meth c H1 locs1 cells slots Q (F0 m (pc + 3) ls rest)) : W p l e R s m args below meth c H locs cells slots Q (F0 m pc ls (v :: .ref a :: rest)) := va_putF (D := D) (ci := 9) (C := RX9) (T := TX9) (N := 14) hx hb hts iX9 tyX9 tyX9_ok nmX9 hown hK hP hD hS q0 he rfl 10 (by decide) (hts _ k_207) (fun _ h9 => h9) rfl hin2 rfl hd hn hfit hl hdg kk
theorem gf_X0_97 (hx : p.tables.exec = Jvm.exec) (hb : c.code = cc) (hts : ∀ w ∈ gT, w.before args s = true) (hown : s.vm.findClass RX0 = some m.cls) (hK : va_K D classes (tysOf tc) s) (hP : va_P D classes ws H) (q0 : Nat) {fs : List Value} {v : Value} (he : ws[q0]? = some (a, .inr (9, fs))) (hv : fs[10]? = some v) (hdg : decode cc pc = .ok (.getfield 97, 3)) (kk : W p l e R s m args below meth c H locs cells slots Q (F0 m (pc + 3) ls (v :: rest))) : W p l e R s m args below meth c H locs cells slots Q (F0 m pc ls (.ref a :: rest)) := va_get (D := D) (ci := 9) (C := RX9) (T := TX9) (N := 14) hx hb hts iX9 hown hK hP q0 he rfl 10 (by decide) (hts _ k_208) (fun _ h9 => h9) hv hdg kk
theorem gf_X11_144 (hx : p.tables.exec = Jvm.exec) (hb : c.code = cc) (hts : ∀ w ∈ gT, w.before args s = true) (hown : s.vm.findClass RX11 = some m.cls) (hK : va_K D classes (tysOf tc) s) (hP : va_P D classes ws H) (q0 : Nat) {fs : List Value} {v : Value} (he : ws[q0]? = some (a, .inr (9, fs))) (hv : fs[10]? = some v) (hdg : decode cc pc = .ok (.getfield 144, 3)) (kk : W p l e R s m args below meth c H locs cells slots Q (F0 m (pc + 3) ls (v :: rest))) : W p l e R s m args below meth c H locs cells slots Q (F0 m pc ls (.ref a :: rest)) := va_get (D := D) (ci := 9) (C := RX9) (T := TX9) (N := 14) hx hb hts iX9 hown hK hP q0 he rfl 10 (by decide) (hts _ k_209) (fun _ h9 => h9) hv hdg kk
theorem gf_X9_46 (hx : p.tables.exec = Jvm.exec) (hb : c.code = cc) (hts : ∀ w ∈ gT, w.before args s = true) (hown : s.vm.findClass RX9 = some m.cls) (hK : va_K D classes (tysOf tc) s) (hP : va_P D classes ws H) (q0 : Nat) {fs : List Value} {v : Value} (he : ws[q0]? = some (a, .inr (9, fs))) (hv : fs[11]? = some v) (hdg : decode cc pc = .ok (.getfield 46, 3)) (kk : W p l e R s m args below meth c H locs cells slots Q (F0 m (pc + 3) ls (v :: rest))) : W p l e R s m args below meth c H locs cells slots Q (F0 m pc ls (.ref a :: rest)) := va_get (D := D) (ci := 9) (C := RX9) (T := TX9) (N := 14) hx hb hts iX9 hown hK hP q0 he rfl 11 (by decide) (hts _ k_210) (fun _ h9 => h9) hv hdg kk
theorem pf_X9_46 (hx : p.tables.exec = Jvm.exec) (hb : c.code = cc) (hts : ∀ w ∈ gT, w.before args s = true) (hown : s.vm.findClass RX9 = some m.cls) (hin2 : meth.name = "<init>") (hK : va_K D classes (tysOf tc) s) (hP : va_P D classes ws H) (hD : va_D A ws) (hS : va_S A s.heap H locs) (q0 : Nat) {fs : List Value} {v : Value} {ty : FieldType} (he : ws[q0]? = some (a, .inr (9, fs))) (hl : 11 < fs.length) (hd : parseFieldDescriptor (TX9 11).2.2.1 = some ty) (hn : narrow ty v = v) (hfit : fits ty v = true) (hdg : decode cc pc = .ok (.putfield 46, 3)) (kk : ∀ (H1 : Heap) (locs1 : List Loc), va_P D classes (ws.set q0 (a, .inr (9, fs.set 11 v))) H1 → va_D A (ws.set q0 (a, .inr (9, fs.set 11 v))) → va_S A s.heap H1 locs1 → W p l e R s m args below meth c H1 locs1 cells slots Q (F0 m (pc + 3) ls rest)) : W p l e R s m args below meth c H locs cells slots Q (F0 m pc ls (v :: .ref a :: rest)) := va_putF (D := D) (ci := 9) (C := RX9) (T := TX9) (N := 14) hx hb hts iX9 tyX9 tyX9_ok nmX9 hown hK hP hD hS q0 he rfl 11 (by decide) (hts _ k_210) (fun _ h9 => h9) rfl hin2 rfl hd hn hfit hl hdg kk
theorem gf_X4_46 (hx : p.tables.exec = Jvm.exec) (hb : c.code = cc) (hts : ∀ w ∈ gT, w.before args s = true) (hown : s.vm.findClass RX4 = some m.cls) (hK : va_K D classes (tysOf tc) s) (hP : va_P D classes ws H) (q0 : Nat) {fs : List Value} {v : Value} (he : ws[q0]? = some (a, .inr (9, fs))) (hv : fs[11]? = some v) (hdg : decode cc pc = .ok (.getfield 46, 3)) (kk : W p l e R s m args below meth c H locs cells slots Q (F0 m (pc + 3) ls (v :: rest))) : W p l e R s m args below meth c H locs cells slots Q (F0 m pc ls (.ref a :: rest)) := va_get (D := D) (ci := 9) (C := RX9) (T := TX9) (N := 14) hx hb hts iX9 hown hK hP q0 he rfl 11 (by decide) (hts _ k_211) (fun _ h9 => h9) hv hdg kk
theorem gf_X11_147 (hx : p.tables.exec = Jvm.exec) (hb : c.code = cc) (hts : ∀ w ∈ gT, w.before args s = true) (hown : s.vm.findClass RX11 = some m.cls) (hK : va_K D classes (tysOf tc) s) (hP : va_P D classes ws H) (q0 : Nat) {fs : List Value} {v : Value} (he : ws[q0]? = some (a, .inr (9, fs))) (hv : fs[11]? = some v) (hdg : decode cc pc = .ok (.getfield 147, 3)) (kk : W p l e R s m args below meth c H locs cells slots Q (F0 m (pc + 3) ls (v :: rest))) : W p l e R s m args below meth c H locs cells slots Q (F0 m pc ls (.ref a :: rest)) := va_get (D := D) (ci := 9) (C := RX9) (T := TX9) (N := 14) hx hb hts iX9 hown hK hP q0 he rfl 11 (by decide) (hts _ k_212) (fun _ h9 => h9) hv hdg kk
theorem gf_X1_82 (hx : p.tables.exec = Jvm.exec) (hb : c.code = cc) (hts : ∀ w ∈ gT, w.before args s = true) (hown : s.vm.findClass RX1 = some m.cls) (hK : va_K D classes (tysOf tc) s) (hP : va_P D classes ws H) (q0 : Nat) {fs : List Value} {v : Value} (he : ws[q0]? = some (a, .inr (9, fs))) (hv : fs[11]? = some v) (hdg : decode cc pc = .ok (.getfield 82, 3)) (kk : W p l e R s m args below meth c H locs cells slots Q (F0 m (pc + 3) ls (v :: rest))) : W p l e R s m args below meth c H locs cells slots Q (F0 m pc ls (.ref a :: rest)) := va_get (D := D) (ci := 9) (C := RX9) (T := TX9) (N := 14) hx hb hts iX9 hown hK hP q0 he rfl 11 (by decide) (hts _ k_213) (fun _ h9 => h9) hv hdg kk
theorem gf_X9_49 (hx : p.tables.exec = Jvm.exec) (hb : c.code = cc) (hts : ∀ w ∈ gT, w.before args s = true) (hown : s.vm.findClass RX9 = some m.cls) (hK : va_K D classes (tysOf tc) s) (hP : va_P D classes ws H) (q0 : Nat) {fs : List Value} {v : Value} (he : ws[q0]? = some (a, .inr (9, fs))) (hv : fs[12]? = some v) (hdg : decode cc pc = .ok (.getfield 49, 3)) (kk : W p l e R s m args below meth c H locs cells slots Q (F0 m (pc + 3) ls (v :: rest))) : W p l e R s m args below meth c H locs cells slots Q (F0 m pc ls (.ref a :: rest)) := va_get (D := D) (ci := 9) (C := RX9) (T := TX9) (N := 14) hx hb hts iX9 hown hK hP q0 he rfl 12 (by decide) (hts _ k_214) (fun _ h9 => h9) hv hdg kk
theorem pf_X9_49 (hx : p.tables.exec = Jvm.exec) (hb : c.code = cc) (hts : ∀ w ∈ gT, w.before args s = true) (hown : s.vm.findClass RX9 = some m.cls) (hin2 : meth.name = "<init>") (hK : va_K D classes (tysOf tc) s) (hP : va_P D classes ws H) (hD : va_D A ws) (hS : va_S A s.heap H locs) (q0 : Nat) {fs : List Value} {v : Value} {ty : FieldType} (he : ws[q0]? = some (a, .inr (9, fs))) (hl : 12 < fs.length) (hd : parseFieldDescriptor (TX9 12).2.2.1 = some ty) (hn : narrow ty v = v) (hfit : fits ty v = true) (hdg : decode cc pc = .ok (.putfield 49, 3)) (kk : ∀ (H1 : Heap) (locs1 : List Loc), va_P D classes (ws.set q0 (a, .inr (9, fs.set 12 v))) H1 → va_D A (ws.set q0 (a, .inr (9, fs.set 12 v))) → va_S A s.heap H1 locs1 → W p l e R s m args below meth c H1 locs1 cells slots Q (F0 m (pc + 3) ls rest)) : W p l e R s m args below meth c H locs cells slots Q (F0 m pc ls (v :: .ref a :: rest)) := va_putF (D := D) (ci := 9) (C := RX9) (T := TX9) (N := 14) hx hb hts iX9 tyX9 tyX9_ok nmX9 hown hK hP hD hS q0 he rfl 12 (by decide) (hts _ k_214) (fun _ h9 => h9) rfl hin2 rfl hd hn hfit hl hdg kk
theorem gf_X11_150 (hx : p.tables.exec = Jvm.exec) (hb : c.code = cc) (hts : ∀ w ∈ gT, w.before args s = true) (hown : s.vm.findClass RX11 = some m.cls) (hK : va_K D classes (tysOf tc) s) (hP : va_P D classes ws H) (q0 : Nat) {fs : List Value} {v : Value} (he : ws[q0]? = some (a, .inr (9, fs))) (hv : fs[12]? = some v) (hdg : decode cc pc = .ok (.getfield 150, 3)) (kk : W p l e R s m args below meth c H locs cells slots Q (F0 m (pc + 3) ls (v :: rest))) : W p l e R s m args below meth c H locs cells slots Q (F0 m pc ls (.ref a :: rest)) := va_get (D := D) (ci := 9) (C := RX9) (T := TX9) (N := 14) hx hb hts iX9 hown hK hP q0 he rfl 12 (by decide) (hts _ k_215) (fun _ h9 => h9) hv hdg kk
theorem gf_X1_85 (hx : p.tables.exec = Jvm.exec) (hb : c.code = cc) (hts : ∀ w ∈ gT, w.before args s = true) (hown : s.vm.findClass RX1 = some m.cls) (hK : va_K D classes (tysOf tc) s) (hP : va_P D classes ws H) (q0 : Nat) {fs : List Value} {v : Value} (he : ws[q0]? = some (a, .inr (9, fs))) (hv : fs[12]? = some v) (hdg : decode cc pc = .ok (.getfield 85, 3)) (kk : W p l e R s m args below meth c H locs cells slots Q (F0 m (pc + 3) ls (v :: rest))) : W p l e R s m args below meth c H locs cells slots Q (F0 m pc ls (.ref a :: rest)) := va_get (D := D) (ci := 9) (C := RX9) (T := TX9) (N := 14) hx hb hts iX9 hown hK hP q0 he rfl 12 (by decide) (hts _ k_216) (fun _ h9 => h9) hv hdg kk
theorem gf_X9_52 (hx : p.tables.exec = Jvm.exec) (hb : c.code = cc) (hts : ∀ w ∈ gT, w.before args s = true) (hown : s.vm.findClass RX9 = some m.cls) (hK : va_K D classes (tysOf tc) s) (hP : va_P D classes ws H) (q0 : Nat) {fs : List Value} {v : Value} (he : ws[q0]? = some (a, .inr (9, fs))) (hv : fs[13]? = some v) (hdg : decode cc pc = .ok (.getfield 52, 3)) (kk : W p l e R s m args below meth c H locs cells slots Q (F0 m (pc + 3) ls (v :: rest))) : W p l e R s m args below meth c H locs cells slots Q (F0 m pc ls (.ref a :: rest)) := va_get (D := D) (ci := 9) (C := RX9) (T := TX9) (N := 14) hx hb hts iX9 hown hK hP q0 he rfl 13 (by decide) (hts _ k_217) (fun _ h9 => h9) hv hdg kk
theorem pf_X9_52 (hx : p.tables.exec = Jvm.exec) (hb : c.code = cc) (hts : ∀ w ∈ gT, w.before args s = true) (hown : s.vm.findClass RX9 = some m.cls) (hin2 : meth.name = "<init>") (hK : va_K D classes (tysOf tc) s) (hP : va_P D classes ws H) (hD : va_D A ws) (hS : va_S A s.heap H locs) (q0 : Nat) {fs : List Value} {v : Value} {ty : FieldType} (he : ws[q0]? = some (a, .inr (9, fs))) (hl : 13 < fs.length) (hd : parseFieldDescriptor (TX9 13).2.2.1 = some ty) (hn : narrow ty v = v) (hfit : fits ty v = true) (hdg : decode cc pc = .ok (.putfield 52, 3)) (kk : ∀ (H1 : Heap) (locs1 : List Loc), va_P D classes (ws.set q0 (a, .inr (9, fs.set 13 v))) H1 → va_D A (ws.set q0 (a, .inr (9, fs.set 13 v))) → va_S A s.heap H1 locs1 → W p l e R s m args below meth c H1 locs1 cells slots Q (F0 m (pc + 3) ls rest)) : W p l e R s m args below meth c H locs cells slots Q (F0 m pc ls (v :: .ref a :: rest)) := va_putF (D := D) (ci := 9) (C := RX9) (T := TX9) (N := 14) hx hb hts iX9 tyX9 tyX9_ok nmX9 hown hK hP hD hS q0 he rfl 13 (by decide) (hts _ k_217) (fun _ h9 => h9) rfl hin2 rfl hd hn hfit hl hdg kk
theorem gf_X0_12 (hx : p.tables.exec = Jvm.exec) (hb : c.code = cc) (hts : ∀ w ∈ gT, w.before args s = true) (hown : s.vm.findClass RX0 = some m.cls) (hK : va_K D classes (tysOf tc) s) (hP : va_P D classes ws H) (q0 : Nat) {fs : List Value} {v : Value} (he : ws[q0]? = some (a, .inr (0, fs))) (hv : fs[0]? = some v) (hdg : decode cc pc = .ok (.getfield 12, 3)) (kk : W p l e R s m args below meth c H locs cells slots Q (F0 m (pc + 3) ls (v :: rest))) : W p l e R s m args below meth c H locs cells slots Q (F0 m pc ls (.ref a :: rest)) := va_get (D := D) (ci := 0) (C := RX0) (T := TX0) (N := 1) hx hb hts iX0 hown hK hP q0 he rfl 0 (by decide) (hts _ k_247) (fun _ h9 => h9) hv hdg kk
theorem pf_X0_12 (hx : p.tables.exec = Jvm.exec) (hb : c.code = cc) (hts : ∀ w ∈ gT, w.before args s = true) (hown : s.vm.findClass RX0 = some m.cls) (hin2 : meth.name = "<init>") (hK : va_K D classes (tysOf tc) s) (hP : va_P D classes ws H) (hD : va_D A ws) (hS : va_S A s.heap H locs) (q0 : Nat) {fs : List Value} {v : Value} {ty : FieldType} (he : ws[q0]? = some (a, .inr (0, fs))) (hl : 0 < fs.length) (hd : parseFieldDescriptor (TX0 0).2.2.1 = some ty) (hn : narrow ty v = v) (hfit : fits ty v = true) (hdg : decode cc pc = .ok (.putfield 12, 3)) (kk : ∀ (H1 : Heap) (locs1 : List Loc), va_P D classes (ws.set q0 (a, .inr (0, fs.set 0 v))) H1 → va_D A (ws.set q0 (a, .inr (0, fs.set 0 v))) → va_S A s.heap H1 locs1 → W p l e R s m args below meth c H1 locs1 cells slots Q (F0 m (pc + 3) ls rest)) : W p l e R s m args below meth c H locs cells slots Q (F0 m pc ls (v :: .ref a :: rest)) := va_putF (D := D) (ci := 0) (C := RX0) (T := TX0) (N := 1) hx hb hts iX0 tyX0 tyX0_ok nmX0 hown hK hP hD hS q0 he rfl 0 (by decide) (hts _ k_247) (fun _ h9 => h9) rfl hin2 rfl hd hn hfit hl hdg kk
theorem gf_X11_104 (hx : p.tables.exec = Jvm.exec) (hb : c.code = cc) (hts : ∀ w ∈ gT, w.before args s = true) (hown : s.vm.findClass RX11 = some m.cls) (hK : va_K D classes (tysOf tc) s) (hP : va_P D classes ws H) (q0 : Nat) {fs : List Value} {v : Value} (he : ws[q0]? = some (a, .inr (0, fs))) (hv : fs[0]? = some v) (hdg : decode cc pc = .ok (.getfield 104, 3)) (kk : W p l e R s m args below meth c H locs cells slots Q (F0 m (pc + 3) ls (v :: rest))) : W p l e R s m args below meth c H locs cells slots Q (F0 m pc ls (.ref a :: rest)) := va_get (D := D) (ci := 0) (C := RX0) (T := TX0) (N := 1) hx hb hts iX0 hown hK hP q0 he rfl 0 (by decide) (hts _ k_248) (fun _ h9 => h9) hv hdg kk
theorem gf_X7_9 (hx : p.tables.exec = Jvm.exec) (hb : c.code = cc) (hts : ∀ w ∈ gT, w.before args s = true) (hown : s.vm.findClass RX7 = some m.cls) (hK : va_K D classes (tysOf tc) s) (hP : va_P D classes ws H) (q0 : Nat) {fs : List Value} {v : Value} (he : ws[q0]? = some (a, .inr (7, fs))) (hv : fs[0]? = some v) (hdg : decode cc pc = .ok (.getfield 9, 3)) (kk : W p l e R s m args below meth c H locs cells slots Q (F0 m (pc + 3) ls (v :: rest))) : W p l e R s m args below meth c H locs cells slots Q (F0 m pc ls (.ref a :: rest)) := va_get (D := D) (ci := 7) (C := RX7) (T := TX7) (N := 3) hx hb hts iX7 hown hK hP q0 he rfl 0 (by decide) (hts _ k_258) (fun _ h9 => h9) hv hdg kk
theorem pf_X7_9 (hx : p.tables.exec = Jvm.exec) (hb : c.code = cc) (hts : ∀ w ∈ gT, w.before args s = true) (hown : s.vm.findClass RX7 = some m.cls) (hin2 : meth.name = "<init>") (hK : va_K D classes (tysOf tc) s) (hP : va_P D classes ws H) (hD : va_D A ws) (hS : va_S A s.heap H locs) (q0 : Nat) {fs : List Value} {v : Value} {ty : FieldType} (he : ws[q0]? = some (a, .inr (7, fs))) (hl : 0 < fs.length) (hd : parseFieldDescriptor (TX7 0).2.2.1 = some ty) (hn : narrow ty v = v) (hfit : fits ty v = true) (hdg : decode cc pc = .ok (.putfield 9, 3)) (kk : ∀ (H1 : Heap) (locs1 : List Loc), va_P D classes (ws.set q0 (a, .inr (7, fs.set 0 v))) H1 → va_D A (ws.set q0 (a, .inr (7, fs.set 0 v))) → va_S A s.heap H1 locs1 → W p l e R s m args below meth c H1 locs1 cells slots Q (F0 m (pc + 3) ls rest)) : W p l e R s m args below meth c H locs cells slots Q (F0 m pc ls (v :: .ref a :: rest)) := va_putF (D := D) (ci := 7) (C := RX7) (T := TX7) (N := 3) hx hb hts iX7 tyX7 tyX7_ok nmX7 hown hK hP hD hS q0 he rfl 0 (by decide) (hts _ k_258) (fun _ h9 => h9) rfl hin2 rfl hd hn hfit hl hdg kk
theorem gf_X7_15 (hx : p.tables.exec = Jvm.exec) (hb : c.code = cc) (hts : ∀ w ∈ gT, w.before args s = true) (hown : s.vm.findClass RX7 = some m.cls) (hK : va_K D classes (tysOf tc) s) (hP : va_P D classes ws H) (q0 : Nat) {fs : List Value} {v : Value} (he : ws[q0]? = some (a, .inr (7, fs))) (hv : fs[1]? = some v) (hdg : decode cc pc = .ok (.getfield 15, 3)) (kk : W p l e R s m args below meth c H locs cells slots Q (F0 m (pc + 3) ls (v :: rest))) : W p l e R s m args below meth c H locs cells slots Q (F0 m pc ls (.ref a :: rest)) := va_get (D := D) (ci := 7) (C := RX7) (T := TX7) (N := 3) hx hb hts iX7 hown hK hP q0 he rfl 1 (by decide) (hts _ k_259) (fun _ h9 => h9) hv hdg kk
theorem pf_X7_15 (hx : p.tables.exec = Jvm.exec) (hb : c.code = cc) (hts : ∀ w ∈ gT, w.before args s = true) (hown : s.vm.findClass RX7 = some m.cls) (hK : va_K D classes (tysOf tc) s) (hP : va_P D classes ws H) (hD : va_D A ws) (hS : va_S A s.heap H locs) (q0 : Nat) {fs : List Value} {v : Value} (he : ws[q0]? = some (a, .inr (7, fs))) (hl : 1 < fs.length) (hn : narrow .int v = v) (hfit : fits .int v = true) (hdg : decode cc pc = .ok (.putfield 15, 3)) (kk : ∀ (H1 : Heap) (locs1 : List Loc), va_P D classes (ws.set q0 (a, .inr (7, fs.set 1 v))) H1 → va_D A (ws.set q0 (a, .inr (7, fs.set 1 v))) → va_S A s.heap H1 locs1 → W p l e R s m args below meth c H1 locs1 cells slots Q (F0 m (pc + 3) ls rest)) : W p l e R s m args below meth c H locs cells slots Q (F0 m pc ls (v :: .ref a :: rest)) := va_put (D := D) (ci := 7) (C := RX7) (T := TX7) (N := 3) (ty := .int) hx hb hts iX7 tyX7 tyX7_ok nmX7 hown hK hP hD hS q0 he rfl 1 (by decide) (hts _ k_259) (fun _ h9 => h9) rfl (by decide +kernel) hn hfit hl hdg kk
theorem gf_X7_19 (hx : p.tables.exec = Jvm.exec) (hb : c.code = cc) (hts : ∀ w ∈ gT, w.before args s = true) (hown : s.vm.findClass RX7 = some m.cls) (hK : va_K D classes (tysOf tc) s) (hP : va_P D classes ws H) (q0 : Nat) {fs : List Value} {v : Value} (he : ws[q0]? = some (a, .inr (7, fs))) (hv : fs[2]? = some v) (hdg : decode cc pc = .ok (.getfield 19, 3)) (kk : W p l e R s m args below meth c H locs cells slots Q (F0 m (pc + 3) ls (v :: rest))) : W p l e R s m args below meth c H locs cells slots Q (F0 m pc ls (.ref a :: rest)) := va_get (D := D) (ci := 7) (C := RX7) (T := TX7) (N := 3) hx hb hts iX7 hown hK hP q0 he rfl 2 (by decide) (hts _ k_260) (fun _ h9 => h9) hv hdg kk
theorem pf_X7_19 (hx : p.tables.exec = Jvm.exec) (hb : c.code = cc) (hts : ∀ w ∈ gT, w.before args s = true) (hown : s.vm.findClass RX7 = some m.cls) (hK : va_K D classes (tysOf tc) s) (hP : va_P D classes ws H) (hD : va_D A ws) (hS : va_S A s.heap H locs) (q0 : Nat) {fs : List Value} {v : Value} (he : ws[q0]? = some (a, .inr (7, fs))) (hl : 2 < fs.length) (hn : narrow .int v = v) (hfit : fits .int v = true) (hdg : decode cc pc = .ok (.putfield 19, 3)) (kk : ∀ (H1 : Heap) (locs1 : List Loc), va_P D classes (ws.set q0 (a, .inr (7, fs.set 2 v))) H1 → va_D A (ws.set q0 (a, .inr (7, fs.set 2 v))) → va_S A s.heap H1 locs1 → W p l e R s m args below meth c H1 locs1 cells slots Q (F0 m (pc + 3) ls rest)) : W p l e R s m args below meth c H locs cells slots Q (F0 m pc ls (v :: .ref a :: rest)) := va_put (D := D) (ci := 7) (C := RX7) (T := TX7) (N := 3) (ty := .int) hx hb hts iX7 tyX7 tyX7_ok nmX7 hown hK hP hD hS q0 he rfl 2 (by decide) (hts _ k_260) (fun _ h9 => h9) rfl (by decide +kernel) hn hfit hl hdg kk
theorem gf_X3_9 (hx : p.tables.exec = Jvm.exec) (hb : c.code = cc) (hts : ∀ w ∈ gT, w.before args s = true) (hown : s.vm.findClass RX3 = some m.cls) (hK : va_K D classes (tysOf tc) s) (hP : va_P D classes ws H) (q0 : Nat) {fs : List Value} {v : Value} (he : ws[q0]? = some (a, .inr (3, fs))) (hv : fs[0]? = some v) (hdg : decode cc pc = .ok (.getfield 9, 3)) (kk : W p l e R s m args below meth c H locs cells slots Q (F0 m (pc + 3) ls (v :: rest))) : W p l e R s m args below meth c H locs cells slots Q (F0 m pc ls (.ref a :: rest)) := va_get (D := D) (ci := 3) (C := RX3) (T := TX3) (N := 4) hx hb hts iX3 hown hK hP q0 he rfl 0 (by decide) (hts _ k_284) (fun _ h9 => h9) hv hdg kk
theorem pf_X3_9 (hx : p.tables.exec = Jvm.exec) (hb : c.code = cc) (hts : ∀ w ∈ gT, w.before args s = true) (hown : s.vm.findClass RX3 = some m.cls) (hin2 : meth.name = "<init>") (hK : va_K D classes (tysOf tc) s) (hP : va_P D classes ws H) (hD : va_D A ws) (hS : va_S A s.heap H locs) (q0 : Nat) {fs : List Value} {v : Value} {ty : FieldType} (he : ws[q0]? = some (a, .inr (3, fs))) (hl : 0 < fs.length) (hd : parseFieldDescriptor (TX3 0).2.2.1 = some ty) (hn : narrow ty v = v) (hfit : fits ty v = true) (hdg : decode cc pc = .ok (.putfield 9, 3)) (kk : ∀ (H1 : Heap) (locs1 : List Loc), va_P D classes (ws.set q0 (a, .inr (3, fs.set 0 v))) H1 → va_D A (ws.set q0 (a, .inr (3, fs.set 0 v))) → va_S A s.heap H1 locs1 → W p l e R s m args below meth c H1 locs1 cells slots Q (F0 m (pc + 3) ls rest)) : W p l e R s m args below meth c H locs cells slots Q (F0 m pc ls (v :: .ref a :: rest)) := va_putF (D := D) (ci := 3) (C := RX3) (T := TX3) (N := 4) hx hb hts iX3 tyX3 tyX3_ok nmX3 hown hK hP hD hS q0 he rfl 0 (by decide) (hts _ k_284) (fun _ h9 => h9) rfl hin2 rfl hd hn hfit hl hdg kk
theorem gf_X2_56 (hx : p.tables.exec = Jvm.exec) (hb : c.code = cc) (hts : ∀ w ∈ gT, w.before args s = true) (hown : s.vm.findClass RX2 = some m.cls) (hK : va_K D classes (tysOf tc) s) (hP : va_P D classes ws H) (q0 : Nat) {fs : List Value} {v : Value} (he : ws[q0]? = some (a, .inr (3, fs))) (hv : fs[0]? = some v) (hdg : decode cc pc = .ok (.getfield 56, 3)) (kk : W p l e R s m args below meth c H locs cells slots Q (F0 m (pc + 3) ls (v :: rest))) : W p l e R s m args below meth c H locs cells slots Q (F0 m pc ls (.ref a :: rest)) := va_get (D := D) (ci := 3) (C := RX3) (T := TX3) (N := 4) hx hb hts iX3 hown hK hP q0 he rfl 0 (by decide) (hts _ k_285) (fun _ h9 => h9) hv hdg kk
theorem gf_X3_13 (hx : p.tables.exec = Jvm.exec) (hb : c.code = cc) (hts : ∀ w ∈ gT, w.before args s = true) (hown : s.vm.findClass RX3 = some m.cls) (hK : va_K D classes (tysOf tc) s) (hP : va_P D classes ws H) (q0 : Nat) {fs : List Value} {v : Value} (he : ws[q0]? = some (a, .inr (3, fs))) (hv : fs[1]? = some v) (hdg : decode cc pc = .ok (.getfield 13, 3)) (kk : W p l e R s m args below meth c H locs cells slots Q (F0 m (pc + 3) ls (v :: rest))) : W p l e R s m args below meth c H locs cells slots Q (F0 m pc ls (.ref a :: rest)) := va_get (D := D) (ci := 3) (C := RX3) (T := TX3) (N := 4) hx hb hts iX3 hown hK hP q0 he rfl 1 (by decide) (hts _ k_286) (fun _ h9 => h9) hv hdg kk
theorem pf_X3_13 (hx : p.tables.exec = Jvm.exec) (hb : c.code = cc) (hts : ∀ w ∈ gT, w.before args s = true) (hown : s.vm.findClass RX3 = some m.cls) (hin2 : meth.name = "<init>") (hK : va_K D classes (tysOf tc) s) (hP : va_P D classes ws H) (hD : va_D A ws) (hS : va_S A s.heap H locs) (q0 : Nat) {fs : List Value} {v : Value} {ty : FieldType} (he : ws[q0]? = some (a, .inr (3, fs))) (hl : 1 < fs.length) (hd : parseFieldDescriptor (TX3 1).2.2.1 = some ty) (hn : narrow ty v = v) (hfit : fits ty v = true) (hdg : decode cc pc = .ok (.putfield 13, 3)) (kk : ∀ (H1 : Heap) (locs1 : List Loc), va_P D classes (ws.set q0 (a, .inr (3, fs.set 1 v))) H1 → va_D A (ws.set q0 (a, .inr (3, fs.set 1 v))) → va_S A s.heap H1 locs1 → W p l e R s m args below meth c H1 locs1 cells slots Q (F0 m (pc + 3) ls rest)) : W p l e R s m args below meth c H locs cells slots Q (F0 m pc ls (v :: .ref a :: rest)) := va_putF (D := D) (ci := 3) (C := RX3) (T := TX3) (N := 4) hx hb hts iX3 tyX3 tyX3_ok nmX3 hown hK hP hD hS q0 he rfl 1 (by decide) (hts _ k_286) (fun _ h9 => h9) rfl hin2 rfl hd hn hfit hl hdg kk
theorem gf_X2_63 (hx : p.tables.exec = Jvm.exec) (hb : c.code = cc) (hts : ∀ w ∈ gT, w.before args s = true) (hown : s.vm.findClass RX2 = some m.cls) (hK : va_K D classes (tysOf tc) s) (hP : va_P D classes ws H) (q0 : Nat) {fs : List Value} {v : Value} (he : ws[q0]? = some (a, .inr (3, fs))) (hv : fs[1]? = some v) (hdg : decode cc pc = .ok (.getfield 63, 3)) (kk : W p l e R s m args below meth c H locs cells slots Q (F0 m (pc + 3) ls (v :: rest))) : W p l e R s m args below meth c H locs cells slots Q (F0 m pc ls (.ref a :: rest)) := va_get (D := D) (ci := 3) (C := RX3) (T := TX3) (N := 4) hx hb hts iX3 hown hK hP q0 he rfl 1 (by decide) (hts _ k_287) (fun _ h9 => h9) hv hdg kk
theorem gf_X3_16 (hx : p.tables.exec = Jvm.exec) (hb : c.code = cc) (hts : ∀ w ∈ gT, w.before args s = true) (hown : s.vm.findClass RX3 = some m.cls) (hK : va_K D classes (tysOf tc) s) (hP : va_P D classes ws H) (q0 : Nat) {fs : List Value} {v : Value} (he : ws[q0]? = some (a, .inr (3, fs))) (hv : fs[2]? = some v) (hdg : decode cc pc = .ok (.getfield 16, 3)) (kk : W p l e R s m args below meth c H locs cells slots Q (F0 m (pc + 3) ls (v :: rest))) : W p l e R s m args below meth c H locs cells slots Q (F0 m pc ls (.ref a :: rest)) := va_get (D := D) (ci := 3) (C := RX3) (T := TX3) (N := 4) hx hb hts iX3 hown hK hP q0 he rfl 2 (by decide) (hts _ k_288) (fun _ h9 => h9) hv hdg kk
theorem pf_X3_16 (hx : p.tables.exec = Jvm.exec) (hb : c.code = cc) (hts : ∀ w ∈ gT, w.before args s = true) (hown : s.vm.findClass RX3 = some m.cls) (hin2 : meth.name = "<init>") (hK : va_K D classes (tysOf tc) s) (hP : va_P D classes ws H) (hD : va_D A ws) (hS : va_S A s.heap H locs) (q0 : Nat) {fs : List Value} {v : Value} {ty : FieldType} (he : ws[q0]? = some (a, .inr (3, fs))) (hl : 2 < fs.length) (hd : parseFieldDescriptor (TX3 2).2.2.1 = some ty) (hn : narrow ty v = v) (hfit : fits ty v = true) (hdg : decode cc pc = .ok (.putfield 16, 3)) (kk : ∀ (H1 : Heap) (locs1 : List Loc), va_P D classes (ws.set q0 (a, .inr (3, fs.set 2 v))) H1 → va_D A (ws.set q0 (a, .inr (3, fs.set 2 v))) → va_S A s.heap H1 locs1 → W p l e R s m args below meth c H1 locs1 cells slots Q (F0 m (pc + 3) ls rest)) : W p l e R s m args below meth c H locs cells slots Q (F0 m pc ls (v :: .ref a :: rest)) := va_putF (D := D) (ci := 3) (C := RX3) (T := TX3) (N := 4) hx hb hts iX3 tyX3 tyX3_ok nmX3 hown hK hP hD hS q0 he rfl 2 (by decide) (hts _ k_288) (fun _ h9 => h9) rfl hin2 rfl hd hn hfit hl hdg kk
theorem gf_X2_66 (hx : p.tables.exec = Jvm.exec) (hb : c.code = cc) (hts : ∀ w ∈ gT, w.before args s = true) (hown : s.vm.findClass RX2 = some m.cls) (hK : va_K D classes (tysOf tc) s) (hP : va_P D classes ws H) (q0 : Nat) {fs : List Value} {v : Value} (he : ws[q0]? = some (a, .inr (3, fs))) (hv : fs[2]? = some v) (hdg : decode cc pc = .ok (.getfield 66, 3)) (kk : W p l e R s m args below meth c H locs cells slots Q (F0 m (pc + 3) ls (v :: rest))) : W p l e R s m args below meth c H locs cells slots Q (F0 m pc ls (.ref a :: rest)) := va_get (D := D) (ci := 3) (C := RX3) (T := TX3) (N := 4) hx hb hts iX3 hown hK hP q0 he rfl 2 (by decide) (hts _ k_289) (fun _ h9 => h9) hv hdg kk
theorem gf_X3_19 (hx : p.tables.exec = Jvm.exec) (hb : c.code = cc) (hts : ∀ w ∈ gT, w.before args s = true) (hown : s.vm.findClass RX3 = some m.cls) (hK : va_K D classes (tysOf tc) s) (hP : va_P D classes ws H) (q0 : Nat) {fs : List Value} {v : Value} (he : ws[q0]? = some (a, .inr (3, fs))) (hv : fs[3]? = some v) (hdg : decode cc pc = .ok (.getfield 19, 3)) (kk : W p l e R s m args below meth c H locs cells slots Q (F0 m (pc + 3) ls (v :: rest))) : W p l e R s m args below meth c H locs cells slots Q (F0 m pc ls (.ref a :: rest)) := va_get (D := D) (ci := 3) (C := RX3) (T := TX3) (N := 4) hx hb hts iX3 hown hK hP q0 he rfl 3 (by decide) (hts _ k_290) (fun _ h9 => h9) hv hdg kk
theorem pf_X3_19 (hx : p.tables.exec = Jvm.exec) (hb : c.code = cc) (hts : ∀ w ∈ gT, w.before args s = true) (hown : s.vm.findClass RX3 = some m.cls) (hK : va_K D classes (tysOf tc) s) (hP : va_P D classes ws H) (hD : va_D A ws) (hS : va_S A s.heap H locs) (q0 : Nat) {fs : List Value} {v : Value} (he : ws[q0]? = some (a, .inr (3, fs))) (hl : 3 < fs.length) (hn : narrow .int v = v) (hfit : fits .int v = true) (hdg : decode cc pc = .ok (.putfield 19, 3)) (kk : ∀ (H1 : Heap) (locs1 : List Loc), va_P D classes (ws.set q0 (a, .inr (3, fs.set 3 v))) H1 → va_D A (ws.set q0 (a, .inr (3, fs.set 3 v))) → va_S A s.heap H1 locs1 → W p l e R s m args below meth c H1 locs1 cells slots Q (F0 m (pc + 3) ls rest)) : W p l e R s m args below meth c H locs cells slots Q (F0 m pc ls (v :: .ref a :: rest)) := va_put (D := D) (ci := 3) (C := RX3) (T := TX3) (N := 4) (ty := .int) hx hb hts iX3 tyX3 tyX3_ok nmX3 hown hK hP hD hS q0 he rfl 3 (by decide) (hts _ k_290) (fun _ h9 => h9) rfl (by decide +kernel) hn hfit hl hdg kk
theorem gf_X2_51 (hx : p.tables.exec = Jvm.exec) (hb : c.code = cc) (hts : ∀ w ∈ gT, w.before args s = true) (hown : s.vm.findClass RX2 = some m.cls) (hK : va_K D classes (tysOf tc) s) (hP : va_P D classes ws H) (q0 : Nat) {fs : List Value} {v : Value} (he : ws[q0]? = some (a, .inr (3, fs))) (hv : fs[3]? = some v) (hdg : decode cc pc = .ok (.getfield 51, 3)) (kk : W p l e R s m args below meth c H locs cells slots Q (F0 m (pc + 3) ls (v :: rest))) : W p l e R s m args below meth c H locs cells slots Q (F0 m pc ls (.ref a :: rest)) := va_get (D := D) (ci := 3) (C := RX3) (T := TX3) (N := 4) hx hb hts iX3 hown hK hP q0 he rfl 3 (by decide) (hts _ k_291) (fun _ h9 => h9) hv hdg kk
theorem pf_X2_51 (hx : p.tables.exec = Jvm.exec) (hb : c.code = cc) (hts : ∀ w ∈ gT, w.before args s = true) (hown : s.vm.findClass RX2 = some m.cls) (hK : va_K D classes (tysOf tc) s) (hP : va_P D classes ws H) (hD : va_D A ws) (hS : va_S A s.heap H locs) (q0 : Nat) {fs : List Value} {v : Value} (he : ws[q0]? = some (a, .inr (3, fs))) (hl : 3 < fs.length) (hn : narrow .int v = v) (hfit : fits .int v = true) (hdg : decode cc pc = .ok (.putfield 51, 3)) (kk : ∀ (H1 : Heap) (locs1 : List Loc), va_P D classes (ws.set q0 (a, .inr (3, fs.set 3 v))) H1 → va_D A (ws.set q0 (a, .inr (3, fs.set 3 v))) → va_S A s.heap H1 locs1 → W p l e R s m args below meth c H1 locs1 cells slots Q (F0 m (pc + 3) ls rest)) : W p l e R s m args below meth c H locs cells slots Q (F0 m pc ls (v :: .ref a :: rest)) := va_put (D := D) (ci := 3) (C := RX3) (T := TX3) (N := 4) (ty := .int) hx hb hts iX3 tyX3 tyX3_ok nmX3 hown hK hP hD hS q0 he rfl 3 (by decide) (hts _ k_291) (fun _ h9 => h9) rfl (by decide +kernel) hn hfit hl hdg kk
theorem gf_X11_115 (hx : p.tables.exec = Jvm.exec) (hb : c.code = cc) (hts : ∀ w ∈ gT, w.before args s = true) (hown : s.vm.findClass RX11 = some m.cls) (hK : va_K D classes (tysOf tc) s) (hP : va_P D classes ws H) (q0 : Nat) {fs : List Value} {v : Value} (he : ws[q0]? = some (a, .inr (3, fs))) (hv : fs[3]? = some v) (hdg : decode cc pc = .ok (.getfield 115, 3)) (kk : W p l e R s m args below meth c H locs cells slots Q (F0 m (pc + 3) ls (v :: rest))) : W p l e R s m args below meth c H locs cells slots Q (F0 m pc ls (.ref a :: rest)) := va_get (D := D) (ci := 3) (C := RX3) (T := TX3) (N := 4) hx hb hts iX3 hown hK hP q0 he rfl 3 (by decide) (hts _ k_292) (fun _ h9 => h9) hv hdg kk
theorem pf_X11_115 (hx : p.tables.exec = Jvm.exec) (hb : c.code = cc) (hts : ∀ w ∈ gT, w.before args s = true) (hown : s.vm.findClass RX11 = some m.cls) (hK : va_K D classes (tysOf tc) s) (hP : va_P D classes ws H) (hD : va_D A ws) (hS : va_S A s.heap H locs) (q0 : Nat) {fs : List Value} {v : Value} (he : ws[q0]? = some (a, .inr (3, fs))) (hl : 3 < fs.length) (hn : narrow .int v = v) (hfit : fits .int v = true) (hdg : decode cc pc = .ok (.putfield 115, 3)) (kk : ∀ (H1 : Heap) (locs1 : List Loc), va_P D classes (ws.set q0 (a, .inr (3, fs.set 3 v))) H1 → va_D A (ws.set q0 (a, .inr (3, fs.set 3 v))) → va_S A s.heap H1 locs1 → W p l e R s m args below meth c H1 locs1 cells slots Q (F0 m (pc + 3) ls rest)) : W p l e R s m args below meth c H locs cells slots Q (F0 m pc ls (v :: .ref a :: rest)) := va_put (D := D) (ci := 3) (C := RX3) (T := TX3) (N := 4) (ty := .int) hx hb hts iX3 tyX3 tyX3_ok nmX3 hown hK hP hD hS q0 he rfl 3 (by decide) (hts _ k_292) (fun _ h9 => h9) rfl (by decide +kernel) hn hfit hl hdg kk
theorem gf_X8_12 (hx : p.tables.exec = Jvm.exec) (hb : c.code = cc) (hts : ∀ w ∈ gT, w.before args s = true) (hown : s.vm.findClass RX8 = some m.cls) (hK : va_K D classes (tysOf tc) s) (hP : va_P D classes ws H) (q0 : Nat) {fs : List Value} {v : Value} (he : ws[q0]? = some (a, .inr (8, fs))) (hv : fs[0]? = some v) (hdg : decode cc pc = .ok (.getfield 12, 3)) (kk : W p l e R s m args below meth c H locs cells slots Q (F0 m (pc + 3) ls (v :: rest))) : W p l e R s m args below meth c H locs cells slots Q (F0 m pc ls (.ref a :: rest)) := va_get (D := D) (ci := 8) (C := RX8) (T := TX8) (N := 5) hx hb hts iX8 hown hK hP q0 he rfl 0 (by decide) (hts _ k_302) (fun _ h9 => h9) hv hdg kk
theorem pf_X8_12 (hx : p.tables.exec = Jvm.exec) (hb : c.code = cc) (hts : ∀ w ∈ gT, w.before args s = true) (hown : s.vm.findClass RX8 = some m.cls) (hin2 : meth.name = "<init>") (hK : va_K D classes (tysOf tc) s) (hP : va_P D classes ws H) (hD : va_D A ws) (hS : va_S A s.heap H locs) (q0 : Nat) {fs : List Value} {v : Value} {ty : FieldType} (he : ws[q0]? = some (a, .inr (8, fs))) (hl : 0 < fs.length) (hd : parseFieldDescriptor (TX8 0).2.2.1 = some ty) (hn : narrow ty v = v) (hfit : fits ty v = true) (hdg : decode cc pc = .ok (.putfield 12, 3)) (kk : ∀ (H1 : Heap) (locs1 : List Loc), va_P D classes (ws.set q0 (a, .inr (8, fs.set 0 v))) H1 → va_D A (ws.set q0 (a, .inr (8, fs.set 0 v))) → va_S A s.heap H1 locs1 → W p l e R s m args below meth c H1 locs1 cells slots Q (F0 m (pc + 3) ls rest)) : W p l e R s m args below meth c H locs cells slots Q (F0 m pc ls (v :: .ref a :: rest)) := va_putF (D := D) (ci := 8) (C := RX8) (T := TX8) (N := 5) hx hb hts iX8 tyX8 tyX8_ok nmX8 hown hK hP hD hS q0 he rfl 0 (by decide) (hts _ k_302) (fun _ h9 => h9) rfl hin2 rfl hd hn hfit hl hdg kk
theorem gf_X11_47 (hx : p.tables.exec = Jvm.exec) (hb : c.code = cc) (hts : ∀ w ∈ gT, w.before args s = true) (hown : s.vm.findClass RX11 = some m.cls) (hK : va_K D classes (tysOf tc) s) (hP : va_P D classes ws H) (q0 : Nat) {fs : List Value} {v : Value} (he : ws[q0]? = some (a, .inr (8, fs))) (hv : fs[0]? = some v) (hdg : decode cc pc = .ok (.getfield 47, 3)) (kk : W p l e R s m args below meth c H locs cells slots Q (F0 m (pc + 3) ls (v :: rest))) : W p l e R s m args below meth c H locs cells slots Q (F0 m pc ls (.ref a :: rest)) := va_get (D := D) (ci := 8) (C := RX8) (T := TX8) (N := 5) hx hb hts iX8 hown hK hP q0 he rfl 0 (by decide) (hts _ k_303) (fun _ h9 => h9) hv hdg kk
theorem gf_X8_18 (hx : p.tables.exec = Jvm.exec) (hb : c.code = cc) (hts : ∀ w ∈ gT, w.before args s = true) (hown : s.vm.findClass RX8 = some m.cls) (hK : va_K D classes (tysOf tc) s) (hP : va_P D classes ws H) (q0 : Nat) {fs : List Value} {v : Value} (he : ws[q0]? = some (a, .inr (8, fs))) (hv : fs[1]? = some v) (hdg : decode cc pc = .ok (.getfield 18, 3)) (kk : W p l e R s m args below meth c H locs cells slots Q (F0 m (pc + 3) ls (v :: rest))) : W p l e R s m args below meth c H locs cells slots Q (F0 m pc ls (.ref a :: rest)) := va_get (D := D) (ci := 8) (C := RX8) (T := TX8) (N := 5) hx hb hts iX8 hown hK hP q0 he rfl 1 (by decide) (hts _ k_304) (fun _ h9 => h9) hv hdg kk
theorem pf_X8_18 (hx : p.tables.exec = Jvm.exec) (hb : c.code = cc) (hts : ∀ w ∈ gT, w.before args s = true) (hown : s.vm.findClass RX8 = some m.cls) (hin2 : meth.name = "<init>") (hK : va_K D classes (tysOf tc) s) (hP : va_P D classes ws H) (hD : va_D A ws) (hS : va_S A s.heap H locs) (q0 : Nat) {fs : List Value} {v : Value} {ty : FieldType} (he : ws[q0]? = some (a, .inr (8, fs))) (hl : 1 < fs.length) (hd : parseFieldDescriptor (TX8 1).2.2.1 = some ty) (hn : narrow ty v = v) (hfit : fits ty v = true) (hdg : decode cc pc = .ok (.putfield 18, 3)) (kk : ∀ (H1 : Heap) (locs1 : List Loc), va_P D classes (ws.set q0 (a, .inr (8, fs.set 1 v))) H1 → va_D A (ws.set q0 (a, .inr (8, fs.set 1 v))) → va_S A s.heap H1 locs1 → W p l e R s m args below meth c H1 locs1 cells slots Q (F0 m (pc + 3) ls rest)) : W p l e R s m args below meth c H locs cells slots Q (F0 m pc ls (v :: .ref a :: rest)) := va_putF (D := D) (ci := 8) (C := RX8) (T := TX8) (N := 5) hx hb hts iX8 tyX8 tyX8_ok nmX8 hown hK hP hD hS q0 he rfl 1 (by decide) (hts _ k_304) (fun _ h9 => h9) rfl hin2 rfl hd hn hfit hl hdg kk
theorem gf_X2_30 (hx : p.tables.exec = Jvm.exec) (hb : c.code = cc) (hts : ∀ w ∈ gT, w.before args s = true) (hown : s.vm.findClass RX2 = some m.cls) (hK : va_K D classes (tysOf tc) s) (hP : va_P D classes ws H) (q0 : Nat) {fs : List Value} {v : Value} (he : ws[q0]? = some (a, .inr (8, fs))) (hv : fs[1]? = some v) (hdg : decode cc pc = .ok (.getfield 30, 3)) (kk : W p l e R s m args below meth c H locs cells slots Q (F0 m (pc + 3) ls (v :: rest))) : W p l e R s m args below meth c H locs cells slots Q (F0 m pc ls (.ref a :: rest)) := va_get (D := D) (ci := 8) (C := RX8) (T := TX8) (N := 5) hx hb hts iX8 hown hK hP q0 he rfl 1 (by decide) (hts _ k_305) (fun _ h9 => h9) hv hdg kk
theorem gf_X11_101 (hx : p.tables.exec = Jvm.exec) (hb : c.code = cc) (hts : ∀ w ∈ gT, w.before args s = true) (hown : s.vm.findClass RX11 = some m.cls) (hK : va_K D classes (tysOf tc) s) (hP : va_P D classes ws H) (q0 : Nat) {fs : List Value} {v : Value} (he : ws[q0]? = some (a, .inr (8, fs))) (hv : fs[1]? = some v) (hdg : decode cc pc = .ok (.getfield 101, 3)) (kk : W p l e R s m args below meth c H locs cells slots Q (F0 m (pc + 3) ls (v :: rest))) : W p l e R s m args below meth c H locs cells slots Q (F0 m pc ls (.ref a :: rest)) := va_get (D := D) (ci := 8) (C := RX8) (T := TX8) (N := 5) hx hb hts iX8 hown hK hP q0 he rfl 1 (by decide) (hts _ k_306) (fun _ h9 => h9) hv hdg kk
theorem gf_X8_24 (hx : p.tables.exec = Jvm.exec) (hb : c.code = cc) (hts : ∀ w ∈ gT, w.before args s = true) (hown : s.vm.findClass RX8 = some m.cls) (hK : va_K D classes (tysOf tc) s) (hP : va_P D classes ws H) (q0 : Nat) {fs : List Value} {v : Value} (he : ws[q0]? = some (a, .inr (8, fs))) (hv : fs[2]? = some v) (hdg : decode cc pc = .ok (.getfield 24, 3)) (kk : W p l e R s m args below meth c H locs cells slots Q (F0 m (pc + 3) ls (v :: rest))) : W p l e R s m args below meth c H locs cells slots Q (F0 m pc ls (.ref a :: rest)) := va_get (D := D) (ci := 8) (C := RX8) (T := TX8) (N := 5) hx hb hts iX8 hown hK hP q0 he rfl 2 (by decide) (hts _ k_307) (fun _ h9 => h9) hv hdg kk
theorem pf_X8_24 (hx : p.tables.exec = Jvm.exec) (hb : c.code = cc) (hts : ∀ w ∈ gT, w.before args s = true) (hown : s.vm.findClass RX8 = some m.cls) (hin2 : meth.name = "<init>") (hK : va_K D classes (tysOf tc) s) (hP : va_P D classes ws H) (hD : va_D A ws) (hS : va_S A s.heap H locs) (q0 : Nat) {fs : List Value} {v : Value} {ty : FieldType} (he : ws[q0]? = some (a, .inr (8, fs))) (hl : 2 < fs.length) (hd : parseFieldDescriptor (TX8 2).2.2.1 = some ty) (hn : narrow ty v = v) (hfit : fits ty v = true) (hdg : decode cc pc = .ok (.putfield 24, 3)) (kk : ∀ (H1 : Heap) (locs1 : List Loc), va_P D classes (ws.set q0 (a, .inr (8, fs.set 2 v))) H1 → va_D A (ws.set q0 (a, .inr (8, fs.set 2 v))) → va_S A s.heap H1 locs1 → W p l e R s m args below meth c H1 locs1 cells slots Q (F0 m (pc + 3) ls rest)) : W p l e R s m args below meth c H locs cells slots Q (F0 m pc ls (v :: .ref a :: rest)) := va_putF (D := D) (ci := 8) (C := RX8) (T := TX8) (N := 5) hx hb hts iX8 tyX8 tyX8_ok nmX8 hown hK hP hD hS q0 he rfl 2 (by decide) (hts _ k_307) (fun _ h9 => h9) rfl hin2 rfl hd hn hfit hl hdg kk
theorem gf_X2_43 (hx : p.tables.exec = Jvm.exec) (hb : c.code = cc) (hts : ∀ w ∈ gT, w.before args s = true) (hown : s.vm.findClass RX2 = some m.cls) (hK : va_K D classes (tysOf tc) s) (hP : va_P D classes ws H) (q0 : Nat) {fs : List Value} {v : Value} (he : ws[q0]? = some (a, .inr (8, fs))) (hv : fs[2]? = some v) (hdg : decode cc pc = .ok (.getfield 43, 3)) (kk : W p l e R s m args below meth c H locs cells slots Q (F0 m (pc + 3) ls (v :: rest))) : W p l e R s m args below meth c H locs cells slots Q (F0 m pc ls (.ref a :: rest)) := va_get (D := D) (ci := 8) (C := RX8) (T := TX8) (N := 5) hx hb hts iX8 hown hK hP q0 he rfl 2 (by decide) (hts _ k_308) (fun _ h9 => h9) hv hdg kk
theorem gf_X11_111 (hx : p.tables.exec = Jvm.exec) (hb : c.code = cc) (hts : ∀ w ∈ gT, w.before args s = true) (hown : s.vm.findClass RX11 = some m.cls) (hK : va_K D classes (tysOf tc) s) (hP : va_P D classes ws H) (q0 : Nat) {fs : List Value} {v : Value} (he : ws[q0]? = some (a, .inr (8, fs))) (hv : fs[2]? = some v) (hdg : decode cc pc = .ok (.getfield 111, 3)) (kk : W p l e R s m args below meth c H locs cells slots Q (F0 m (pc + 3) ls (v :: rest))) : W p l e R s m args below meth c H locs cells slots Q (F0 m pc ls (.ref a :: rest)) := va_get (D := D) (ci := 8) (C := RX8) (T := TX8) (N := 5) hx hb hts iX8 hown hK hP q0 he rfl 2 (by decide) (hts _ k_309) (fun _ h9 => h9) hv hdg kk
theorem gf_X8_28 (hx : p.tables.exec = Jvm.exec) (hb : c.code = cc) (hts : ∀ w ∈ gT, w.before args s = true) (hown : s.vm.findClass RX8 = some m.cls) (hK : va_K D classes (tysOf tc) s) (hP : va_P D classes ws H) (q0 : Nat) {fs : List Value} {v : Value} (he : ws[q0]? = some (a, .inr (8, fs))) (hv : fs[3]? = some v) (hdg : decode cc pc = .ok (.getfield 28, 3)) (kk : W p l e R s m args below meth c H locs cells slots Q (F0 m (pc + 3) ls (v :: rest))) : W p l e R s m args below meth c H locs cells slots Q (F0 m pc ls (.ref a :: rest)) := va_get (D := D) (ci := 8) (C := RX8) (T := TX8) (N := 5) hx hb hts iX8 hown hK hP q0 he rfl 3 (by decide) (hts _ k_310) (fun _ h9 => h9) hv hdg kk
theorem pf_X8_28 (hx : p.tables.exec = Jvm.exec) (hb : c.code = cc) (hts : ∀ w ∈ gT, w.before args s = true) (hown : s.vm.findClass RX8 = some m.cls) (hK : va_K D classes (tysOf tc) s) (hP : va_P D classes ws H) (hD : va_D A ws) (hS : va_S A s.heap H locs) (q0 : Nat) {fs : List Value} {v : Value} (he : ws[q0]? = some (a, .inr (8, fs))) (hl : 3 < fs.length) (hn : narrow .int v = v) (hfit : fits .int v = true) (hdg : decode cc pc = .ok (.putfield 28, 3)) (kk : ∀ (H1 : Heap) (locs1 : List Loc), va_P D classes (ws.set q0 (a, .inr (8, fs.set 3 v))) H1 → va_D A (ws.set q0 (a, .inr (8, fs.set 3 v))) → va_S A s.heap H1 locs1 → W p l e R s m args below meth c H1 locs1 cells slots Q (F0 m (pc + 3) ls rest)) : W p l e R s m args below meth c H locs cells slots Q (F0 m pc ls (v :: .ref a :: rest)) := va_put (D := D) (ci := 8) (C := RX8) (T := TX8) (N := 5) (ty := .int) hx hb hts iX8 tyX8 tyX8_ok nmX8 hown hK hP hD hS q0 he rfl 3 (by decide) (hts _ k_310) (fun _ h9 => h9) rfl (by decide +kernel) hn hfit hl hdg kk
theorem gf_X11_130 (hx : p.tables.exec = Jvm.exec) (hb : c.code = cc) (hts : ∀ w ∈ gT, w.before args s = true) (hown : s.vm.findClass RX11 = some m.cls) (hK : va_K D classes (tysOf tc) s) (hP : va_P D classes ws H) (q0 : Nat) {fs : List Value} {v : Value} (he : ws[q0]? = some (a, .inr (8, fs))) (hv : fs[3]? = some v) (hdg : decode cc pc = .ok (.getfield 130, 3)) (kk : W p l e R s m args below meth c H locs cells slots Q (F0 m (pc + 3) ls (v :: rest))) : W p l e R s m args below meth c H locs cells slots Q (F0 m pc ls (.ref a :: rest)) := va_get (D := D) (ci := 8) (C := RX8) (T := TX8) (N := 5) hx hb hts iX8 hown hK hP q0 he rfl 3 (by decide) (hts _ k_311) (fun _ h9 => h9) hv hdg kk
theorem pf_X11_130 (hx : p.tables.exec = Jvm.exec) (hb : c.code = cc) (hts : ∀ w ∈ gT, w.before args s = true) (hown : s.vm.findClass RX11 = some m.cls) (hK : va_K D classes (tysOf tc) s) (hP : va_P D classes ws H) (hD : va_D A ws) (hS : va_S A s.heap H locs) (q0 : Nat) {fs : List Value} {v : Value} (he : ws[q0]? = some (a, .inr (8, fs))) (hl : 3 < fs.length) (hn : narrow .int v = v) (hfit : fits .int v = true) (hdg : decode cc pc = .ok (.putfield 130, 3)) (kk : ∀ (H1 : Heap) (locs1 : List Loc), va_P D classes (ws.set q0 (a, .inr (8, fs.set 3 v))) H1 → va_D A (ws.set q0 (a, .inr (8, fs.set 3 v))) → va_S A s.heap H1 locs1 → W p l e R s m args below meth c H1 locs1 cells slots Q (F0 m (pc + 3) ls rest)) : W p l e R s m args below meth c H locs cells slots Q (F0 m pc ls (v :: .ref a :: rest)) := va_put (D := D) (ci := 8) (C := RX8) (T := TX8) (N := 5) (ty := .int) hx hb hts iX8 tyX8 tyX8_ok nmX8 hown hK hP hD hS q0 he rfl 3 (by decide) (hts _ k_311) (fun _ h9 => h9) rfl (by decide +kernel) hn hfit hl hdg kk
theorem gf_X8_32 (hx : p.tables.exec = Jvm.exec) (hb : c.code = cc) (hts : ∀ w ∈ gT, w.before args s = true) (hown : s.vm.findClass RX8 = some m.cls) (hK : va_K D classes (tysOf tc) s) (hP : va_P D classes ws H) (q0 : Nat) {fs : List Value} {v : Value} (he : ws[q0]? = some (a, .inr (8, fs))) (hv : fs[4]? = some v) (hdg : decode cc pc = .ok (.getfield 32, 3)) (kk : W p l e R s m args below meth c H locs cells slots Q (F0 m (pc + 3) ls (v :: rest))) : W p l e R s m args below meth c H locs cells slots Q (F0 m pc ls (.ref a :: rest)) := va_get (D := D) (ci := 8) (C := RX8) (T := TX8) (N := 5) hx hb hts iX8 hown hK hP q0 he rfl 4 (by decide) (hts _ k_312) (fun _ h9 => h9) hv hdg kk
theorem pf_X8_32 (hx : p.tables.exec = Jvm.exec) (hb : c.code = cc) (hts : ∀ w ∈ gT, w.before args s = true) (hown : s.vm.findClass RX8 = some m.cls) (hK : va_K D classes (tysOf tc) s) (hP : va_P D classes ws H) (hD : va_D A ws) (hS : va_S A s.heap H locs) (q0 : Nat) {fs : List Value} {v : Value} (he : ws[q0]? = some (a, .inr (8, fs))) (hl : 4 < fs.length) (hn : narrow .int v = v) (hfit : fits .int v = true) (hdg : decode cc pc = .ok (.putfield 32, 3)) (kk : ∀ (H1 : Heap) (locs1 : List Loc), va_P D classes (ws.set q0 (a, .inr (8, fs.set 4 v))) H1 → va_D A (ws.set q0 (a, .inr (8, fs.set 4 v))) → va_S A s.heap H1 locs1 → W p l e R s m args below meth c H1 locs1 cells slots Q (F0 m (pc + 3) ls rest)) : W p l e R s m args below meth c H locs cells slots Q (F0 m pc ls (v :: .ref a :: rest)) := va_put (D := D) (ci := 8) (C := RX8) (T := TX8) (N := 5) (ty := .int) hx hb hts iX8 tyX8 tyX8_ok nmX8 hown hK hP hD hS q0 he rfl 4 (by decide) (hts _ k_312) (fun _ h9 => h9) rfl (by decide +kernel) hn hfit hl hdg kk
theorem gf_X11_272 (hx : p.tables.exec = Jvm.exec) (hb : c.code = cc) (hts : ∀ w ∈ gT, w.before args s = true) (hown : s.vm.findClass RX11 = some m.cls) (hK : va_K D classes (tysOf tc) s) (hP : va_P D classes ws H) (q0 : Nat) {fs : List Value} {v : Value} (he : ws[q0]? = some (a, .inr (8, fs))) (hv : fs[4]? = some v) (hdg : decode cc pc = .ok (.getfield 272, 3)) (kk : W p l e R s m args below meth c H locs cells slots Q (F0 m (pc + 3) ls (v :: rest))) : W p l e R s m args below meth c H locs cells slots Q (F0 m pc ls (.ref a :: rest)) := va_get (D := D) (ci := 8) (C := RX8) (T := TX8) (N := 5) hx hb hts iX8 hown hK hP q0 he rfl 4 (by decide) (hts _ k_313) (fun _ h9 => h9) hv hdg kk
theorem pf_X11_272 (hx : p.tables.exec = Jvm.exec) (hb : c.code = cc) (hts : ∀ w ∈ gT, w.before args s = true) (hown : s.vm.findClass RX11 = some m.cls) (hK : va_K D classes (tysOf tc) s) (hP : va_P D classes ws H) (hD : va_D A ws) (hS : va_S A s.heap H locs) (q0 : Nat) {fs : List Value} {v : Value} (he : ws[q0]? = some (a, .inr (8, fs))) (hl : 4 < fs.length) (hn : narrow .int v = v) (hfit : fits .int v = true) (hdg : decode cc pc = .ok (.putfield 272, 3)) (kk : ∀ (H1 : Heap) (locs1 : List Loc), va_P D classes (ws.set q0 (a, .inr (8, fs.set 4 v))) H1 → va_D A (ws.set q0 (a, .inr (8, fs.set 4 v))) → va_S A s.heap H1 locs1 → W p l e R s m args below meth c H1 locs1 cells slots Q (F0 m (pc + 3) ls rest)) : W p l e R s m args below meth c H locs cells slots Q (F0 m pc ls (v :: .ref a :: rest)) := va_put (D := D) (ci := 8) (C := RX8) (T := TX8) (N := 5) (ty := .int) hx hb hts iX8 tyX8 tyX8_ok nmX8 hown hK hP hD hS q0 he rfl 4 (by decide) (hts _ k_313) (fun _ h9 => h9) rfl (by decide +kernel) hn hfit hl hdg kk
theorem gf_X5_13 (hx : p.tables.exec = Jvm.exec) (hb : c.code = cc) (hts : ∀ w ∈ gT, w.before args s = true) (hown : s.vm.findClass RX5 = some m.cls) (hK : va_K D classes (tysOf tc) s) (hP : va_P D classes ws H) (q0 : Nat) {fs : List Value} {v : Value} (he : ws[q0]? = some (a, .inr (5, fs))) (hv : fs[0]? = some v) (hdg : decode cc pc = .ok (.getfield 13, 3)) (kk : W p l e R s m args below meth c H locs cells slots Q (F0 m (pc + 3) ls (v :: rest))) : W p l e R s m args below meth c H locs cells slots Q (F0 m pc ls (.ref a :: rest)) := va_get (D := D) (ci := 5) (C := RX5) (T := TX5) (N := 3) hx hb hts iX5 hown hK hP q0 he rfl 0 (by decide) (hts _ k_333) (fun _ h9 => h9) hv hdg kk
theorem pf_X5_13 (hx : p.tables.exec = Jvm.exec) (hb : c.code = cc) (hts : ∀ w ∈ gT, w.before args s = true) (hown : s.vm.findClass RX5 = some m.cls) (hin2 : meth.name = "<init>") (hK : va_K D classes (tysOf tc) s) (hP : va_P D classes ws H) (hD : va_D A ws) (hS : va_S A s.heap H locs) (q0 : Nat) {fs : List Value} {v : Value} {ty : FieldType} (he : ws[q0]? = some (a, .inr (5, fs))) (hl : 0 < fs.length) (hd : parseFieldDescriptor (TX5 0).2.2.1 = some ty) (hn : narrow ty v = v) (hfit : fits ty v = true) (hdg : decode cc pc = .ok (.putfield 13, 3)) (kk : ∀ (H1 : Heap) (locs1 : List Loc), va_P D classes (ws.set q0 (a, .inr (5, fs.set 0 v))) H1 → va_D A (ws.set q0 (a, .inr (5, fs.set 0 v))) → va_S A s.heap H1 locs1 → W p l e R s m args below meth c H1 locs1 cells slots Q (F0 m (pc + 3) ls rest)) : W p l e R s m args below meth c H locs cells slots Q (F0 m pc ls (v :: .ref a :: rest)) := va_putF (D := D) (ci := 5) (C := RX5) (T := TX5) (N := 3) hx hb hts iX5 tyX5 tyX5_ok nmX5 hown hK hP hD hS q0 he rfl 0 (by decide) (hts _ k_333) (fun _ h9 => h9) rfl hin2 rfl hd hn hfit hl hdg kk
theorem gf_X5_17 (hx : p.tables.exec = Jvm.exec) (hb : c.code = cc) (hts : ∀ w ∈ gT, w.before args s = true) (hown : s.vm.findClass RX5 = some m.cls) (hK : va_K D classes (tysOf tc) s) (hP : va_P D classes ws H) (q0 : Nat) {fs : List Value} {v : Value} (he : ws[q0]? = some (a, .inr (5, fs))) (hv : fs[1]? = some v) (hdg : decode cc pc = .ok (.getfield 17, 3)) (kk : W p l e R s m args below meth c H locs cells slots Q (F0 m (pc + 3) ls (v :: rest))) : W p l e R s m args below meth c H locs cells slots Q (F0 m pc ls (.ref a :: rest)) := va_get (D := D) (ci := 5) (C := RX5) (T := TX5) (N := 3) hx hb hts iX5 hown hK hP q0 he rfl 1 (by decide) (hts _ k_334) (fun _ h9 => h9) hv hdg kk
theorem pf_X5_17 (hx : p.tables.exec = Jvm.exec) (hb : c.code = cc) (hts : ∀ w ∈ gT, w.before args s = true) (hown : s.vm.findClass RX5 = some m.cls) (hK : va_K D classes (tysOf tc) s) (hP : va_P D classes ws H) (hD : va_D A ws) (hS : va_S A s.heap H locs) (q0 : Nat) {fs : List Value} {v : Value} (he : ws[q0]? = some (a, .inr (5, fs))) (hl : 1 < fs.length) (hn : narrow .int v = v) (hfit : fits .int v = true) (hdg : decode cc pc = .ok (.putfield 17, 3)) (kk : ∀ (H1 : Heap) (locs1 : List Loc), va_P D classes (ws.set q0 (a, .inr (5, fs.set 1 v))) H1 → va_D A (ws.set q0 (a, .inr (5, fs.set 1 v))) → va_S A s.heap H1 locs1 → W p l e R s m args below meth c H1 locs1 cells slots Q (F0 m (pc + 3) ls rest)) : W p l e R s m args below meth c H locs cells slots Q (F0 m pc ls (v :: .ref a :: rest)) := va_put (D := D) (ci := 5) (C := RX5) (T := TX5) (N := 3) (ty := .int) hx hb hts iX5 tyX5 tyX5_ok nmX5 hown hK hP hD hS q0 he rfl 1 (by decide) (hts _ k_334) (fun _ h9 => h9) rfl (by decide +kernel) hn hfit hl hdg kk
theorem gf_X5_21 (hx : p.tables.exec = Jvm.exec) (hb : c.code = cc) (hts : ∀ w ∈ gT, w.before args s = true) (hown : s.vm.findClass RX5 = some m.cls) (hK : va_K D classes (tysOf tc) s) (hP : va_P D classes ws H) (q0 : Nat) {fs : List Value} {v : Value} (he : ws[q0]? = some (a, .inr (5, fs))) (hv : fs[2]? = some v) (hdg : decode cc pc = .ok (.getfield 21, 3)) (kk : W p l e R s m args below meth c H locs cells slots Q (F0 m (pc + 3) ls (v :: rest))) : W p l e R s m args below meth c H locs cells slots Q (F0 m pc ls (.ref a :: rest)) := va_get (D := D) (ci := 5) (C := RX5) (T := TX5) (N := 3) hx hb hts iX5 hown hK hP q0 he rfl 2 (by decide) (hts _ k_335) (fun _ h9 => h9) hv hdg kk
theorem pf_X5_21 (hx : p.tables.exec = Jvm.exec) (hb : c.code = cc) (hts : ∀ w ∈ gT, w.before args s = true) (hown : s.vm.findClass RX5 = some m.cls) (hK : va_K D classes (tysOf tc) s) (hP : va_P D classes ws H) (hD : va_D A ws) (hS : va_S A s.heap H locs) (q0 : Nat) {fs : List Value} {v : Value} (he : ws[q0]? = some (a, .inr (5, fs))) (hl : 2 < fs.length) (hn : narrow .int v = v) (hfit : fits .int v = true) (hdg : decode cc pc = .ok (.putfield 21, 3)) (kk : ∀ (H1 : Heap) (locs1 : List Loc), va_P D classes (ws.set q0 (a, .inr (5, fs.set 2 v))) H1 → va_D A (ws.set q0 (a, .inr (5, fs.set 2 v))) → va_S A s.heap H1 locs1 → W p l e R s m args below meth c H1 locs1 cells slots Q (F0 m (pc + 3) ls rest)) : W p l e R s m args below meth c H locs cells slots Q (F0 m pc ls (v :: .ref a :: rest)) := va_put (D := D) (ci := 5) (C := RX5) (T := TX5) (N := 3) (ty := .int) hx hb hts iX5 tyX5 tyX5_ok nmX5 hown hK hP hD hS q0 he rfl 2 (by decide) (hts _ k_335) (fun _ h9 => h9) rfl (by decide +kernel) hn hfit hl hdg kk
theorem gf_X11_120 (hx : p.tables.exec = Jvm.exec) (hb : c.code = cc) (hts : ∀ w ∈ gT, w.before args s = true) (hown : s.vm.findClass RX11 = some m.cls) (hK : va_K D classes (tysOf tc) s) (hP : va_P D classes ws H) (q0 : Nat) {fs : List Value} {v : Value} (he : ws[q0]? = some (a, .inr (5, fs))) (hv : fs[2]? = some v) (hdg : decode cc pc = .ok (.getfield 120, 3)) (kk : W p l e R s m args below meth c H locs cells slots Q (F0 m (pc + 3) ls (v :: rest))) : W p l e R s m args below meth c H locs cells slots Q (F0 m pc ls (.ref a :: rest)) := va_get (D := D) (ci := 5) (C := RX5) (T := TX5) (N := 3) hx hb hts iX5 hown hK hP q0 he rfl 2 (by decide) (hts _ k_336) (fun _ h9 => h9) hv hdg kk
theorem pf_X11_120 (hx : p.tables.exec = Jvm.exec) (hb : c.code = cc) (hts : ∀ w ∈ gT, w.before args s = true) (hown : s.vm.findClass RX11 = some m.cls) (hK : va_K D classes (tysOf tc) s) (hP : va_P D classes ws H) (hD : va_D A ws) (hS : va_S A s.heap H locs) (q0 : Nat) {fs : List Value} {v : Value} (he : ws[q0]? = some (a, .inr (5, fs))) (hl : 2 < fs.length) (hn : narrow .int v = v) (hfit : fits .int v = true) (hdg : decode cc pc = .ok (.putfield 120, 3)) (kk : ∀ (H1 : Heap) (locs1 : List Loc), va_P D classes (ws.set q0 (a, .inr (5, fs.set 2 v))) H1 → va_D A (ws.set q0 (a, .inr (5, fs.set 2 v))) → va_S A s.heap H1 locs1 → W p l e R s m args below meth c H1 locs1 cells slots Q (F0 m (pc + 3) ls rest)) : W p l e R s m args below meth c H locs cells slots Q (F0 m pc ls (v :: .ref a :: rest)) := va_put (D := D) (ci := 5) (C := RX5) (T := TX5) (N := 3) (ty := .int) hx hb hts iX5 tyX5 tyX5_ok nmX5 hown hK hP hD hS q0 he rfl 2 (by decide) (hts _ k_336) (fun _ h9 => h9) rfl (by decide +kernel) hn hfit hl hdg kk
theorem gf_X4_12 (hx : p.tables.exec = Jvm.exec) (hb : c.code = cc) (hts : ∀ w ∈ gT, w.before args s = true) (hown : s.vm.findClass RX4 = some m.cls) (hK : va_K D classes (tysOf tc) s) (hP : va_P D classes ws H) (q0 : Nat) {fs : List Value} {v : Value} (he : ws[q0]? = some (a, .inr (4, fs))) (hv : fs[0]? = some v) (hdg : decode cc pc = .ok (.getfield 12, 3)) (kk : W p l e R s m args below meth c H locs cells slots Q (F0 m (pc + 3) ls (v :: rest))) : W p l e R s m args below meth c H locs cells slots Q (F0 m pc ls (.ref a :: rest)) := va_get (D := D) (ci := 4) (C := RX4) (T := TX4) (N := 3) hx hb hts iX4 hown hK hP q0 he rfl 0 (by decide) (hts _ k_353) (fun _ h9 => h9) hv hdg kk
theorem pf_X4_12 (hx : p.tables.exec = Jvm.exec) (hb : c.code = cc) (hts : ∀ w ∈ gT, w.before args s = true) (hown : s.vm.findClass RX4 = some m.cls) (hin2 : meth.name = "<init>") (hK : va_K D classes (tysOf tc) s) (hP : va_P D classes ws H) (hD : va_D A ws) (hS : va_S A s.heap H locs) (q0 : Nat) {fs : List Value} {v : Value} {ty : FieldType} (he : ws[q0]? = some (a, .inr (4, fs))) (hl : 0 < fs.length) (hd : parseFieldDescriptor (TX4 0).2.2.1 = some ty) (hn : narrow ty v = v) (hfit : fits ty v = true) (hdg : decode cc pc = .ok (.putfield 12, 3)) (kk : ∀ (H1 : Heap) (locs1 : List Loc), va_P D classes (ws.set q0 (a, .inr (4, fs.set 0 v))) H1 → va_D A (ws.set q0 (a, .inr (4, fs.set 0 v))) → va_S A s.heap H1 locs1 → W p l e R s m args below meth c H1 locs1 cells slots Q (F0 m (pc + 3) ls rest)) : W p l e R s m args below meth c H locs cells slots Q (F0 m pc ls (v :: .ref a :: rest)) := va_putF (D := D) (ci := 4) (C := RX4) (T := TX4) (N := 3) hx hb hts iX4 tyX4 tyX4_ok nmX4 hown hK hP hD hS q0 he rfl 0 (by decide) (hts _ k_353) (fun _ h9 => h9) rfl hin2 rfl hd hn hfit hl hdg kk
theorem gf_X4_18 (hx : p.tables.exec = Jvm.exec) (hb : c.code = cc) (hts : ∀ w ∈ gT, w.before args s = true) (hown : s.vm.findClass RX4 = some m.cls) (hK : va_K D classes (tysOf tc) s) (hP : va_P D classes ws H) (q0 : Nat) {fs : List Value} {v : Value} (he : ws[q0]? = some (a, .inr (4, fs))) (hv : fs[1]? = some v) (hdg : decode cc pc = .ok (.getfield 18, 3)) (kk : W p l e R s m args below meth c H locs cells slots Q (F0 m (pc + 3) ls (v :: rest))) : W p l e R s m args below meth c H locs cells slots Q (F0 m pc ls (.ref a :: rest)) := va_get (D := D) (ci := 4) (C := RX4) (T := TX4) (N := 3) hx hb hts iX4 hown hK hP q0 he rfl 1 (by decide) (hts _ k_354) (fun _ h9 => h9) hv hdg kk
theorem pf_X4_18 (hx : p.tables.exec = Jvm.exec) (hb : c.code = cc) (hts : ∀ w ∈ gT, w.before args s = true) (hown : s.vm.findClass RX4 = some m.cls) (hin2 : meth.name = "<init>") (hK : va_K D classes (tysOf tc) s) (hP : va_P D classes ws H) (hD : va_D A ws) (hS : va_S A s.heap H locs) (q0 : Nat) {fs : List Value} {v : Value} {ty : FieldType} (he : ws[q0]? = some (a, .inr (4, fs))) (hl : 1 < fs.length) (hd : parseFieldDescriptor (TX4 1).2.2.1 = some ty) (hn : narrow ty v = v) (hfit : fits ty v = true) (hdg : decode cc pc = .ok (.putfield 18, 3)) (kk : ∀ (H1 : Heap) (locs1 : List Loc), va_P D classes (ws.set q0 (a, .inr (4, fs.set 1 v))) H1 → va_D A (ws.set q0 (a, .inr (4, fs.set 1 v))) → va_S A s.heap H1 locs1 → W p l e R s m args below meth c H1 locs1 cells slots Q (F0 m (pc + 3) ls rest)) : W p l e R s m args below meth c H locs cells slots Q (F0 m pc ls (v :: .ref a :: rest)) := va_putF (D := D) (ci := 4) (C := RX4) (T := TX4) (N := 3) hx hb hts iX4 tyX4 tyX4_ok nmX4 hown hK hP hD hS q0 he rfl 1 (by decide) (hts _ k_354) (fun _ h9 => h9) rfl hin2 rfl hd hn hfit hl hdg kk
theorem gf_X4_22 (hx : p.tables.exec = Jvm.exec) (hb : c.code = cc) (hts : ∀ w ∈ gT, w.before args s = true) (hown : s.vm.findClass RX4 = some m.cls) (hK : va_K D classes (tysOf tc) s) (hP : va_P D classes ws H) (q0 : Nat) {fs : List Value} {v : Value} (he : ws[q0]? = some (a, .inr (4, fs))) (hv : fs[2]? = some v) (hdg : decode cc pc = .ok (.getfield 22, 3)) (kk : W p l e R s m args below meth c H locs cells slots Q (F0 m (pc + 3) ls (v :: rest))) : W p l e R s m args below meth c H locs cells slots Q (F0 m pc ls (.ref a :: rest)) := va_get (D := D) (ci := 4) (C := RX4) (T := TX4) (N := 3) hx hb hts iX4 hown hK hP q0 he rfl 2 (by decide) (hts _ k_355) (fun _ h9 => h9) hv hdg kk
theorem pf_X4_22 (hx : p.tables.exec = Jvm.exec) (hb : c.code = cc) (hts : ∀ w ∈ gT, w.before args s = true) (hown : s.vm.findClass RX4 = some m.cls) (hK : va_K D classes (tysOf tc) s) (hP : va_P D classes ws H) (hD : va_D A ws) (hS : va_S A s.heap H locs) (q0 : Nat) {fs : List Value} {v : Value} (he : ws[q0]? = some (a, .inr (4, fs))) (hl : 2 < fs.length) (hn : narrow .long v = v) (hfit : fits .long v = true) (hdg : decode cc pc = .ok (.putfield 22, 3)) (kk : ∀ (H1 : Heap) (locs1 : List Loc), va_P D classes (ws.set q0 (a, .inr (4, fs.set 2 v))) H1 → va_D A (ws.set q0 (a, .inr (4, fs.set 2 v))) → va_S A s.heap H1 locs1 → W p l e R s m args below meth c H1 locs1 cells slots Q (F0 m (pc + 3) ls rest)) : W p l e R s m args below meth c H locs cells slots Q (F0 m pc ls (v :: .ref a :: rest)) := va_put (D := D) (ci := 4) (C := RX4) (T := TX4) (N := 3) (ty := .long) hx hb hts iX4 tyX4 tyX4_ok nmX4 hown hK hP hD hS q0 he rfl 2 (by decide) (hts _ k_355) (fun _ h9 => h9) rfl (by decide +kernel) hn hfit hl hdg kk
theorem gf_X11_275 (hx : p.tables.exec = Jvm.exec) (hb : c.code = cc) (hts : ∀ w ∈ gT, w.before args s = true) (hown : s.vm.findClass RX11 = some m.cls) (hK : va_K D classes (tysOf tc) s) (hP : va_P D classes ws H) (q0 : Nat) {fs : List Value} {v : Value} (he : ws[q0]? = some (a, .inr (4, fs))) (hv : fs[2]? = some v) (hdg : decode cc pc = .ok (.getfield 275, 3)) (kk : W p l e R s m args below meth c H locs cells slots Q (F0 m (pc + 3) ls (v :: rest))) : W p l e R s m args below meth c H locs cells slots Q (F0 m pc ls (.ref a :: rest)) := va_get (D := D) (ci := 4) (C := RX4) (T := TX4) (N := 3) hx hb hts iX4 hown hK hP q0 he rfl 2 (by decide) (hts _ k_356) (fun _ h9 => h9) hv hdg kk
theorem pf_X11_275 (hx : p.tables.exec = Jvm.exec) (hb : c.code = cc) (hts : ∀ w ∈ gT, w.before args s = true) (hown : s.vm.findClass RX11 = some m.cls) (hK : va_K D classes (tysOf tc) s) (hP : va_P D classes ws H) (hD : va_D A ws) (hS : va_S A s.heap H locs) (q0 : Nat) {fs : List Value} {v : Value} (he : ws[q0]? = some (a, .inr (4, fs))) (hl : 2 < fs.length) (hn : narrow .long v = v) (hfit : fits .long v = true) (hdg : decode cc pc = .ok (.putfield 275, 3)) (kk : ∀ (H1 : Heap) (locs1 : List Loc), va_P D classes (ws.set q0 (a, .inr (4, fs.set 2 v))) H1 → va_D A (ws.set q0 (a, .inr (4, fs.set 2 v))) → va_S A s.heap H1 locs1 → W p l e R s m args below meth c H1 locs1 cells slots Q (F0 m (pc + 3) ls rest)) : W p l e R s m args below meth c H locs cells slots Q (F0 m pc ls (v :: .ref a :: rest)) := va_put (D := D) (ci := 4) (C := RX4) (T := TX4) (N := 3) (ty := .long) hx hb hts iX4 tyX4 tyX4_ok nmX4 hown hK hP hD hS q0 he rfl 2 (by decide) (hts _ k_356) (fun _ h9 => h9) rfl (by decide +kernel) hn hfit hl hdg kk
theorem gf_X1_12 (hx : p.tables.exec = Jvm.exec) (hb : c.code = cc) (hts : ∀ w ∈ gT, w.before args s = true) (hown : s.vm.findClass RX1 = some m.cls) (hK : va_K D classes (tysOf tc) s) (hP : va_P D classes ws H) (q0 : Nat) {fs : List Value} {v : Value} (he : ws[q0]? = some (a, .inr (1, fs))) (hv : fs[0]? = some v) (hdg : decode cc pc = .ok (.getfield 12, 3)) (kk : W p l e R s m args below meth c H locs cells slots Q (F0 m (pc + 3) ls (v :: rest))) : W p l e R s m args below meth c H locs cells slots Q (F0 m pc ls (.ref a :: rest)) := va_get (D := D) (ci := 1) (C := RX1) (T := TX1) (N := 3) hx hb hts iX1 hown hK hP q0 he rfl 0 (by decide) (hts _ k_373) (fun _ h9 => h9) hv hdg kk
theorem pf_X1_12 (hx : p.tables.exec = Jvm.exec) (hb : c.code = cc) (hts : ∀ w ∈ gT, w.before args s = true) (hown : s.vm.findClass RX1 = some m.cls) (hin2 : meth.name = "<init>") (hK : va_K D classes (tysOf tc) s) (hP : va_P D classes ws H) (hD : va_D A ws) (hS : va_S A s.heap H locs) (q0 : Nat) {fs : List Value} {v : Value} {ty : FieldType} (he : ws[q0]? = some (a, .inr (1, fs))) (hl : 0 < fs.length) (hd : parseFieldDescriptor (TX1 0).2.2.1 = some ty) (hn : narrow ty v = v) (hfit : fits ty v = true) (hdg : decode cc pc = .ok (.putfield 12, 3)) (kk : ∀ (H1 : Heap) (locs1 : List Loc), va_P D classes (ws.set q0 (a, .inr (1, fs.set 0 v))) H1 → va_D A (ws.set q0 (a, .inr (1, fs.set 0 v))) → va_S A s.heap H1 locs1 → W p l e R s m args below meth c H1 locs1 cells slots Q (F0 m (pc + 3) ls rest)) : W p l e R s m args below meth c H locs cells slots Q (F0 m pc ls (v :: .ref a :: rest)) := va_putF (D := D) (ci := 1) (C := RX1) (T := TX1) (N := 3) hx hb hts iX1 tyX1 tyX1_ok nmX1 hown hK hP hD hS q0 he rfl 0 (by decide) (hts _ k_373) (fun _ h9 => h9) rfl hin2 rfl hd hn hfit hl hdg kk
theorem gf_X1_18 (hx : p.tables.exec = Jvm.exec) (hb : c.code = cc) (hts : ∀ w ∈ gT, w.before args s = true) (hown : s.vm.findClass RX1 = some m.cls) (hK : va_K D classes (tysOf tc) s) (hP : va_P D classes ws H) (q0 : Nat) {fs : List Value} {v : Value} (he : ws[q0]? = some (a, .inr (1, fs))) (hv : fs[1]? = some v) (hdg : decode cc pc = .ok (.getfield 18, 3)) (kk : W p l e R s m args below meth c H locs cells slots Q (F0 m (pc + 3) ls (v :: rest))) : W p l e R s m args below meth c H locs cells slots Q (F0 m pc ls (.ref a :: rest)) := va_get (D := D) (ci := 1) (C := RX1) (T := TX1) (N := 3) hx hb hts iX1 hown hK hP q0 he rfl 1 (by decide) (hts _ k_374) (fun _ h9 => h9) hv hdg kk
theorem pf_X1_18 (hx : p.tables.exec = Jvm.exec) (hb : c.code = cc) (hts : ∀ w ∈ gT, w.before args s = true) (hown : s.vm.findClass RX1 = some m.cls) (hin2 : meth.name = "<init>") (hK : va_K D classes (tysOf tc) s) (hP : va_P D classes ws H) (hD : va_D A ws) (hS : va_S A s.heap H locs) (q0 : Nat) {fs : List Value} {v : Value} {ty : FieldType} (he : ws[q0]? = some (a, .inr (1, fs))) (hl : 1 < fs.length) (hd : parseFieldDescriptor (TX1 1).2.2.1 = some ty) (hn : narrow ty v = v) (hfit : fits ty v = true) (hdg : decode cc pc = .ok (.putfield 18, 3)) (kk : ∀ (H1 : Heap) (locs1 : List Loc), va_P D classes (ws.set q0 (a, .inr (1, fs.set 1 v))) H1 → va_D A (ws.set q0 (a, .inr (1, fs.set 1 v))) → va_S A s.heap H1 locs1 → W p l e R s m args below meth c H1 locs1 cells slots Q (F0 m (pc + 3) ls rest)) : W p l e R s m args below meth c H locs cells slots Q (F0 m pc ls (v :: .ref a :: rest)) := va_putF (D := D) (ci := 1) (C := RX1) (T := TX1) (N := 3) hx hb hts iX1 tyX1 tyX1_ok nmX1 hown hK hP hD hS q0 he rfl 1 (by decide) (hts _ k_374) (fun _ h9 => h9) rfl hin2 rfl hd hn hfit hl hdg kk
theorem gf_X1_22 (hx : p.tables.exec = Jvm.exec) (hb : c.code = cc) (hts : ∀ w ∈ gT, w.before args s = true) (hown : s.vm.findClass RX1 = some m.cls) (hK : va_K D classes (tysOf tc) s) (hP : va_P D classes ws H) (q0 : Nat) {fs : List Value} {v : Value} (he : ws[q0]? = some (a, .inr (1, fs))) (hv : fs[2]? = some v) (hdg : decode cc pc = .ok (.getfield 22, 3)) (kk : W p l e R s m args below meth c H locs cells slots Q (F0 m (pc + 3) ls (v :: rest))) : W p l e R s m args below meth c H locs cells slots Q (F0 m pc ls (.ref a :: rest)) := va_get (D := D) (ci := 1) (C := RX1) (T := TX1) (N := 3) hx hb hts iX1 hown hK hP q0 he rfl 2 (by decide) (hts _ k_375) (fun _ h9 => h9) hv hdg kk
theorem pf_X1_22 (hx : p.tables.exec = Jvm.exec) (hb : c.code = cc) (hts : ∀ w ∈ gT, w.before args s = true) (hown : s.vm.findClass RX1 = some m.cls) (hin2 : meth.name = "<init>") (hK : va_K D classes (tysOf tc) s) (hP : va_P D classes ws H) (hD : va_D A ws) (hS : va_S A s.heap H locs) (q0 : Nat) {fs : List Value} {v : Value} {ty : FieldType} (he : ws[q0]? = some (a, .inr (1, fs))) (hl : 2 < fs.length) (hd : parseFieldDescriptor (TX1 2).2.2.1 = some ty) (hn : narrow ty v = v) (hfit : fits ty v = true) (hdg : decode cc pc = .ok (.putfield 22, 3)) (kk : ∀ (H1 : Heap) (locs1 : List Loc), va_P D classes (ws.set q0 (a, .inr (1, fs.set 2 v))) H1 → va_D A (ws.set q0 (a, .inr (1, fs.set 2 v))) → va_S A s.heap H1 locs1 → W p l e R s m args below meth c H1 locs1 cells slots Q (F0 m (pc + 3) ls rest)) : W p l e R s m args below meth c H locs cells slots Q (F0 m pc ls (v :: .ref a :: rest)) := va_putF (D := D) (ci := 1) (C := RX1) (T := TX1) (N := 3) hx hb hts iX1 tyX1 tyX1_ok nmX1 hown hK hP hD hS q0 he rfl 2 (by decide) (hts _ k_375) (fun _ h9 => h9) rfl hin2 rfl hd hn hfit hl hdg kk
theorem gf_X2_14 (hx : p.tables.exec = Jvm.exec) (hb : c.code = cc) (hts : ∀ w ∈ gT, w.before args s = true) (hown : s.vm.findClass RX2 = some m.cls) (hK : va_K D classes (tysOf tc) s) (hP : va_P D classes ws H) (q0 : Nat) {fs : List Value} {v : Value} (he : ws[q0]? = some (a, .inr (2, fs))) (hv : fs[0]? = some v) (hdg : decode cc pc = .ok (.getfield 14, 3)) (kk : W p l e R s m args below meth c H locs cells slots Q (F0 m (pc + 3) ls (v :: rest))) : W p l e R s m args below meth c H locs cells slots Q (F0 m pc ls (.ref a :: rest)) := va_get (D := D) (ci := 2) (C := RX2) (T := TX2) (N := 4) hx hb hts iX2 hown hK hP q0 he rfl 0 (by decide) (hts _ k_391) (fun _ h9 => h9) hv hdg kk
theorem pf_X2_14 (hx : p.tables.exec = Jvm.exec) (hb : c.code = cc) (hts : ∀ w ∈ gT, w.before args s = true) (hown : s.vm.findClass RX2 = some m.cls) (hin2 : meth.name = "<init>") (hK : va_K D classes (tysOf tc) s) (hP : va_P D classes ws H) (hD : va_D A ws) (hS : va_S A s.heap H locs) (q0 : Nat) {fs : List Value} {v : Value} {ty : FieldType} (he : ws[q0]? = some (a, .inr (2, fs))) (hl : 0 < fs.length) (hd : parseFieldDescriptor (TX2 0).2.2.1 = some ty) (hn : narrow ty v = v) (hfit : fits ty v = true) (hdg : decode cc pc = .ok (.putfield 14, 3)) (kk : ∀ (H1 : Heap) (locs1 : List Loc), va_P D classes (ws.set q0 (a, .inr (2, fs.set 0 v))) H1 → va_D A (ws.set q0 (a, .inr (2, fs.set 0 v))) → va_S A s.heap H1 locs1 → W p l e R s m args below meth c H1 locs1 cells slots Q (F0 m (pc + 3) ls rest)) : W p l e R s m args below meth c H locs cells slots Q (F0 m pc ls (v :: .ref a :: rest)) := va_putF (D := D) (ci := 2) (C := RX2) (T := TX2) (N := 4) hx hb hts iX2 tyX2 tyX2_ok nmX2 hown hK hP hD hS q0 he rfl 0 (by decide) (hts _ k_391) (fun _ h9 => h9) rfl hin2 rfl hd hn hfit hl hdg kk
theorem gf_X2_18 (hx : p.tables.exec = Jvm.exec) (hb : c.code = cc) (hts : ∀ w ∈ gT, w.before args s = true) (hown : s.vm.findClass RX2 = some m.cls) (hK : va_K D classes (tysOf tc) s) (hP : va_P D classes ws H) (q0 : Nat) {fs : List Value} {v : Value} (he : ws[q0]? = some (a, .inr (2, fs))) (hv : fs[1]? = some v) (hdg : decode cc pc = .ok (.getfield 18, 3)) (kk : W p l e R s m args below meth c H locs cells slots Q (F0 m (pc + 3) ls (v :: rest))) : W p l e R s m args below meth c H locs cells slots Q (F0 m pc ls (.ref a :: rest)) := va_get (D := D) (ci := 2) (C := RX2) (T := TX2) (N := 4) hx hb hts iX2 hown hK hP q0 he rfl 1 (by decide) (hts _ k_392) (fun _ h9 => h9) hv hdg kk
theorem pf_X2_18 (hx : p.tables.exec = Jvm.exec) (hb : c.code = cc) (hts : ∀ w ∈ gT, w.before args s = true) (hown : s.vm.findClass RX2 = some m.cls) (hin2 : meth.name = "<init>") (hK : va_K D classes (tysOf tc) s) (hP : va_P D classes ws H) (hD : va_D A ws) (hS : va_S A s.heap H locs) (q0 : Nat) {fs : List Value} {v : Value} {ty : FieldType} (he : ws[q0]? = some (a, .inr (2, fs))) (hl : 1 < fs.length) (hd : parseFieldDescriptor (TX2 1).2.2.1 = some ty) (hn : narrow ty v = v) (hfit : fits ty v = true) (hdg : decode cc pc = .ok (.putfield 18, 3)) (kk : ∀ (H1 : Heap) (locs1 : List Loc), va_P D classes (ws.set q0 (a, .inr (2, fs.set 1 v))) H1 → va_D A (ws.set q0 (a, .inr (2, fs.set 1 v))) → va_S A s.heap H1 locs1 → W p l e R s m args below meth c H1 locs1 cells slots Q (F0 m (pc + 3) ls rest)) : W p l e R s m args below meth c H locs cells slots Q (F0 m pc ls (v :: .ref a :: rest)) := va_putF (D := D) (ci := 2) (C := RX2) (T := TX2) (N := 4) hx hb hts iX2 tyX2 tyX2_ok nmX2 hown hK hP hD hS q0 he rfl 1 (by decide) (hts _ k_392) (fun _ h9 => h9) rfl hin2 rfl hd hn hfit hl hdg kk
theorem gf_X2_22 (hx : p.tables.exec = Jvm.exec) (hb : c.code = cc) (hts : ∀ w ∈ gT, w.before args s = true) (hown : s.vm.findClass RX2 = some m.cls) (hK : va_K D classes (tysOf tc) s) (hP : va_P D classes ws H) (q0 : Nat) {fs : List Value} {v : Value} (he : ws[q0]? = some (a, .inr (2, fs))) (hv : fs[2]? = some v) (hdg : decode cc pc = .ok (.getfield 22, 3)) (kk : W p l e R s m args below meth c H locs cells slots Q (F0 m (pc + 3) ls (v :: rest))) : W p l e R s m args below meth c H locs cells slots Q (F0 m pc ls (.ref a :: rest)) := va_get (D := D) (ci := 2) (C := RX2) (T := TX2) (N := 4) hx hb hts iX2 hown hK hP q0 he rfl 2 (by decide) (hts _ k_393) (fun _ h9 => h9) hv hdg kk
theorem pf_X2_22 (hx : p.tables.exec = Jvm.exec) (hb : c.code = cc) (hts : ∀ w ∈ gT, w.before args s = true) (hown : s.vm.findClass RX2 = some m.cls) (hin2 : meth.name = "<init>") (hK : va_K D classes (tysOf tc) s) (hP : va_P D classes ws H) (hD : va_D A ws) (hS : va_S A s.heap H locs) (q0 : Nat) {fs : List Value} {v : Value} {ty : FieldType} (he : ws[q0]? = some (a, .inr (2, fs))) (hl : 2 < fs.length) (hd : parseFieldDescriptor (TX2 2).2.2.1 = some ty) (hn : narrow ty v = v) (hfit : fits ty v = true) (hdg : decode cc pc = .ok (.putfield 22, 3)) (kk : ∀ (H1 : Heap) (locs1 : List Loc), va_P D classes (ws.set q0 (a, .inr (2, fs.set 2 v))) H1 → va_D A (ws.set q0 (a, .inr (2, fs.set 2 v))) → va_S A s.heap H1 locs1 → W p l e R s m args below meth c H1 locs1 cells slots Q (F0 m (pc + 3) ls rest)) : W p l e R s m args below meth c H locs cells slots Q (F0 m pc ls (v :: .ref a :: rest)) := va_putF (D := D) (ci := 2) (C := RX2) (T := TX2) (N := 4) hx hb hts iX2 tyX2 tyX2_ok nmX2 hown hK hP hD hS q0 he rfl 2 (by decide) (hts _ k_393) (fun _ h9 => h9) rfl hin2 rfl hd hn hfit hl hdg kk
theorem gf_X2_26 (hx : p.tables.exec = Jvm.exec) (hb : c.code = cc) (hts : ∀ w ∈ gT, w.before args s = true) (hown : s.vm.findClass RX2 = some m.cls) (hK : va_K D classes (tysOf tc) s) (hP : va_P D classes ws H) (q0 : Nat) {fs : List Value} {v : Value} (he : ws[q0]? = some (a, .inr (2, fs))) (hv : fs[3]? = some v) (hdg : decode cc pc = .ok (.getfield 26, 3)) (kk : W p l e R s m args below meth c H locs cells slots Q (F0 m (pc + 3) ls (v :: rest))) : W p l e R s m args below meth c H locs cells slots Q (F0 m pc ls (.ref a :: rest)) := va_get (D := D) (ci := 2) (C := RX2) (T := TX2) (N := 4) hx hb hts iX2 hown hK hP q0 he rfl 3 (by decide) (hts _ k_394) (fun _ h9 => h9) hv hdg kk
theorem pf_X2_26 (hx : p.tables.exec = Jvm.exec) (hb : c.code = cc) (hts : ∀ w ∈ gT, w.before args s = true) (hown : s.vm.findClass RX2 = some m.cls) (hK : va_K D classes (tysOf tc) s) (hP : va_P D classes ws H) (hD : va_D A ws) (hS : va_S A s.heap H locs) (q0 : Nat) {fs : List Value} {v : Value} (he : ws[q0]? = some (a, .inr (2, fs))) (hl : 3 < fs.length) (hn : narrow .int v = v) (hfit : fits .int v = true) (hdg : decode cc pc = .ok (.putfield 26, 3)) (kk : ∀ (H1 : Heap) (locs1 : List Loc), va_P D classes (ws.set q0 (a, .inr (2, fs.set 3 v))) H1 → va_D A (ws.set q0 (a, .inr (2, fs.set 3 v))) → va_S A s.heap H1 locs1 → W p l e R s m args below meth c H1 locs1 cells slots Q (F0 m (pc + 3) ls rest)) : W p l e R s m args below meth c H locs cells slots Q (F0 m pc ls (v :: .ref a :: rest)) := va_put (D := D) (ci := 2) (C := RX2) (T := TX2) (N := 4) (ty := .int) hx hb hts iX2 tyX2 tyX2_ok nmX2 hown hK hP hD hS q0 he rfl 3 (by decide) (hts _ k_394) (fun _ h9 => h9) rfl (by decide +kernel) hn hfit hl hdg kk
theorem gf_X11_262 (hx : p.tables.exec = Jvm.exec) (hb : c.code = cc) (hts : ∀ w ∈ gT, w.before args s = true) (hown : s.vm.findClass RX11 = some m.cls) (hK : va_K D classes (tysOf tc) s) (hP : va_P D classes ws H) (q0 : Nat) {fs : List Value} {v : Value} (he : ws[q0]? = some (a, .inr (2, fs))) (hv : fs[3]? = some v) (hdg : decode cc pc = .ok (.getfield 262, 3)) (kk : W p l e R s m args below meth c H locs cells slots Q (F0 m (pc + 3) ls (v :: rest))) : W p l e R s m args below meth c H locs cells slots Q (F0 m pc ls (.ref a :: rest)) := va_get (D := D) (ci := 2) (C := RX2) (T := TX2) (N := 4) hx hb hts iX2 hown hK hP q0 he rfl 3 (by decide) (hts _ k_395) (fun _ h9 => h9) hv hdg kk
theorem pf_X11_262 (hx : p.tables.exec = Jvm.exec) (hb : c.code = cc) (hts : ∀ w ∈ gT, w.before args s = true) (hown : s.vm.findClass RX11 = some m.cls) (hK : va_K D classes (tysOf tc) s) (hP : va_P D classes ws H) (hD : va_D A ws) (hS : va_S A s.heap H locs) (q0 : Nat) {fs : List Value} {v : Value} (he : ws[q0]? = some (a, .inr (2, fs))) (hl : 3 < fs.length) (hn : narrow .int v = v) (hfit : fits .int v = true) (hdg : decode cc pc = .ok (.putfield 262, 3)) (kk : ∀ (H1 : Heap) (locs1 : List Loc), va_P D classes (ws.set q0 (a, .inr (2, fs.set 3 v))) H1 → va_D A (ws.set q0 (a, .inr (2, fs.set 3 v))) → va_S A s.heap H1 locs1 → W p l e R s m args below meth c H1 locs1 cells slots Q (F0 m (pc + 3) ls rest)) : W p l e R s m args below meth c H locs cells slots Q (F0 m pc ls (v :: .ref a :: rest)) := va_put (D := D) (ci := 2) (C := RX2) (T := TX2) (N := 4) (ty := .int) hx hb hts iX2 tyX2 tyX2_ok nmX2 hown hK hP hD hS q0 he rfl 3 (by decide) (hts _ k_395) (fun _ h9 => h9) rfl (by decide +kernel) hn hfit hl hdg kk
theorem gf_X11_10 (hx : p.tables.exec = Jvm.exec) (hb : c.code = cc) (hts : ∀ w ∈ gT, w.before args s = true) (hown : s.vm.findClass RX11 = some m.cls) (hK : va_K D classes (tysOf tc) s) (hP : va_P D classes ws H) (q0 : Nat) {fs : List Value} {v : Value} (he : ws[q0]? = some (a, .inr (11, fs))) (hv : fs[0]? = some v) (hdg : decode cc pc = .ok (.getfield 10, 3)) (kk : W p l e R s m args below meth c H locs cells slots Q (F0 m (pc + 3) ls (v :: rest))) : W p l e R s m args below meth c H locs cells slots Q (F0 m pc ls (.ref a :: rest)) := va_get (D := D) (ci := 11) (C := RX11) (T := TX11) (N := 12) hx hb hts iX11 hown hK hP q0 he rfl 0 (by decide) (hts _ k_406) (fun _ h9 => h9) hv hdg kk
theorem pf_X11_10 (hx : p.tables.exec = Jvm.exec) (hb : c.code = cc) (hts : ∀ w ∈ gT, w.before args s = true) (hown : s.vm.findClass RX11 = some m.cls) (hin2 : meth.name = "<init>") (hK : va_K D classes (tysOf tc) s) (hP : va_P D classes ws H) (hD : va_D A ws) (hS : va_S A s.heap H locs) (q0 : Nat) {fs : List Value} {v : Value} {ty : FieldType} (he : ws[q0]? = some (a, .inr (11, fs))) (hl : 0 < fs.length) (hd : parseFieldDescriptor (TX11 0).2.2.1 = some ty) (hn : narrow ty v = v) (hfit : fits ty v = true) (hdg : decode cc pc = .ok (.putfield 10, 3)) (kk : ∀ (H1 : Heap) (locs1 : List Loc), va_P D classes (ws.set q0 (a, .inr (11, fs.set 0 v))) H1 → va_D A (ws.set q0 (a, .inr (11, fs.set 0 v))) → va_S A s.heap H1 locs1 → W p l e R s m args below meth c H1 locs1 cells slots Q (F0 m (pc + 3) ls rest)) : W p l e R s m args below meth c H locs cells slots Q (F0 m pc ls (v :: .ref a :: rest)) := va_putF (D := D) (ci := 11) (C := RX11) (T := TX11) (N := 12) hx hb hts iX11 tyX11 tyX11_ok nmX11 hown hK hP hD hS q0 he rfl 0 (by decide) (hts _ k_406) (fun _ h9 => h9) rfl hin2 rfl hd hn hfit hl hdg kk
theorem gf_X11_19 (hx : p.tables.exec = Jvm.exec) (hb : c.code = cc) (hts : ∀ w ∈ gT, w.before args s = true) (hown : s.vm.findClass RX11 = some m.cls) (hK : va_K D classes (tysOf tc) s) (hP : va_P D classes ws H) (q0 : Nat) {fs : List Value} {v : Value} (he : ws[q0]? = some (a, .inr (11, fs))) (hv : fs[1]? = some v) (hdg : decode cc pc = .ok (.getfield 19, 3)) (kk : W p l e R s m args below meth c H locs cells slots Q (F0 m (pc + 3) ls (v :: rest))) : W p l e R s m args below meth c H locs cells slots Q (F0 m pc ls (.ref a :: rest)) := va_get (D := D) (ci := 11) (C := RX11) (T := TX11) (N := 12) hx hb hts iX11 hown hK hP q0 he rfl 1 (by decide) (hts _ k_407) (fun _ h9 => h9) hv hdg kk
theorem pf_X11_19 (hx : p.tables.exec = Jvm.exec) (hb : c.code = cc) (hts : ∀ w ∈ gT, w.before args s = true) (hown : s.vm.findClass RX11 = some m.cls) (hin2 : meth.name = "<init>") (hK : va_K D classes (tysOf tc) s) (hP : va_P D classes ws H) (hD : va_D A ws) (hS : va_S A s.heap H locs) (q0 : Nat) {fs : List Value} {v : Value} {ty : FieldType} (he : ws[q0]? = some (a, .inr (11, fs))) (hl : 1 < fs.length) (hd : parseFieldDescriptor (TX11 1).2.2.1 = some ty) (hn : narrow ty v = v) (hfit : fits ty v = true) (hdg : decode cc pc = .ok (.putfield 19, 3)) (kk : ∀ (H1 : Heap) (locs1 : List Loc), va_P D classes (ws.set q0 (a, .inr (11, fs.set 1 v))) H1 → va_D A (ws.set q0 (a, .inr (11, fs.set 1 v))) → va_S A s.heap H1 locs1 → W p l e R s m args below meth c H1 locs1 cells slots Q (F0 m (pc + 3) ls rest)) : W p l e R s m args below meth c H locs cells slots Q (F0 m pc ls (v :: .ref a :: rest)) := va_putF (D := D) (ci := 11) (C := RX11) (T := TX11) (N := 12) hx hb hts iX11 tyX11 tyX11_ok nmX11 hown hK hP hD hS q0 he rfl 1 (by decide) (hts _ k_407) (fun _ h9 => h9) rfl hin2 rfl hd hn hfit hl hdg kk
theorem gf_X11_26 (hx : p.tables.exec = Jvm.exec) (hb : c.code = cc) (hts : ∀ w ∈ gT, w.before args s = true) (hown : s.vm.findClass RX11 = some m.cls) (hK : va_K D classes (tysOf tc) s) (hP : va_P D classes ws H) (q0 : Nat) {fs : List Value} {v : Value} (he : ws[q0]? = some (a, .inr (11, fs))) (hv : fs[2]? = some v) (hdg : decode cc pc = .ok (.getfield 26, 3)) (kk : W p l e R s m args below meth c H locs cells slots Q (F0 m (pc + 3) ls (v :: rest))) : W p l e R s m args below meth c H locs cells slots Q (F0 m pc ls (.ref a :: rest)) := va_get (D := D) (ci := 11) (C := RX11) (T := TX11) (N := 12) hx hb hts iX11 hown hK hP q0 he rfl 2 (by decide) (hts _ k_408) (fun _ h9 => h9) hv hdg kk
theorem pf_X11_26 (hx : p.tables.exec = Jvm.exec) (hb : c.code = cc) (hts : ∀ w ∈ gT, w.before args s = true) (hown : s.vm.findClass RX11 = some m.cls) (hin2 : meth.name = "<init>") (hK : va_K D classes (tysOf tc) s) (hP : va_P D classes ws H) (hD : va_D A ws) (hS : va_S A s.heap H locs) (q0 : Nat) {fs : List Value} {v : Value} {ty : FieldType} (he : ws[q0]? = some (a, .inr (11, fs))) (hl : 2 < fs.length) (hd : parseFieldDescriptor (TX11 2).2.2.1 = some ty) (hn : narrow ty v = v) (hfit : fits ty v = true) (hdg : decode cc pc = .ok (.putfield 26, 3)) (kk : ∀ (H1 : Heap) (locs1 : List Loc), va_P D classes (ws.set q0 (a, .inr (11, fs.set 2 v))) H1 → va_D A (ws.set q0 (a, .inr (11, fs.set 2 v))) → va_S A s.heap H1 locs1 → W p l e R s m args below meth c H1 locs1 cells slots Q (F0 m (pc + 3) ls rest)) : W p l e R s m args below meth c H locs cells slots Q (F0 m pc ls (v :: .ref a :: rest)) := va_putF (D := D) (ci := 11) (C := RX11) (T := TX11) (N := 12) hx hb hts iX11 tyX11 tyX11_ok nmX11 hown hK hP hD hS q0 he rfl 2 (by decide) (hts _ k_408) (fun _ h9 => h9) rfl hin2 rfl hd hn hfit hl hdg kk
theorem gf_X11_32 (hx : p.tables.exec = Jvm.exec) (hb : c.code = cc) (hts : ∀ w ∈ gT, w.before args s = true) (hown : s.vm.findClass RX11 = some m.cls) (hK : va_K D classes (tysOf tc) s) (hP : va_P D classes ws H) (q0 : Nat) {fs : List Value} {v : Value} (he : ws[q0]? = some (a, .inr (11, fs))) (hv : fs[3]? = some v) (hdg : decode cc pc = .ok (.getfield 32, 3)) (kk : W p l e R s m args below meth c H locs cells slots Q (F0 m (pc + 3) ls (v :: rest))) : W p l e R s m args below meth c H locs cells slots Q (F0 m pc ls (.ref a :: rest)) := va_get (D := D) (ci := 11) (C := RX11) (T := TX11) (N := 12) hx hb hts iX11 hown hK hP q0 he rfl 3 (by decide) (hts _ k_409) (fun _ h9 => h9) hv hdg kk
theorem pf_X11_32 (hx : p.tables.exec = Jvm.exec) (hb : c.code = cc) (hts : ∀ w ∈ gT, w.before args s = true) (hown : s.vm.findClass RX11 = some m.cls) (hin2 : meth.name = "<init>") (hK : va_K D classes (tysOf tc) s) (hP : va_P D classes ws H) (hD : va_D A ws) (hS : va_S A s.heap H locs) (q0 : Nat) {fs : List Value} {v : Value} {ty : FieldType} (he : ws[q0]? = some (a, .inr (11, fs))) (hl : 3 < fs.length) (hd : parseFieldDescriptor (TX11 3).2.2.1 = some ty) (hn : narrow ty v = v) (hfit : fits ty v = true) (hdg : decode cc pc = .ok (.putfield 32, 3)) (kk : ∀ (H1 : Heap) (locs1 : List Loc), va_P D classes (ws.set q0 (a, .inr (11, fs.set 3 v))) H1 → va_D A (ws.set q0 (a, .inr (11, fs.set 3 v))) → va_S A s.heap H1 locs1 → W p l e R s m args below meth c H1 locs1 cells slots Q (F0 m (pc + 3) ls rest)) : W p l e R s m args below meth c H locs cells slots Q (F0 m pc ls (v :: .ref a :: rest)) := va_putF (D := D) (ci := 11) (C := RX11) (T := TX11) (N := 12) hx hb hts iX11 tyX11 tyX11_ok nmX11 hown hK hP hD hS q0 he rfl 3 (by decide) (hts _ k_409) (fun _ h9 => h9) rfl hin2 rfl hd hn hfit hl hdg kk
theorem gf_X11_36 (hx : p.tables.exec = Jvm.exec) (hb : c.code = cc) (hts : ∀ w ∈ gT, w.before args s = true) (hown : s.vm.findClass RX11 = some m.cls) (hK : va_K D classes (tysOf tc) s) (hP : va_P D classes ws H) (q0 : Nat) {fs : List Value} {v : Value} (he : ws[q0]? = some (a, .inr (11, fs))) (hv : fs[4]? = some v) (hdg : decode cc pc = .ok (.getfield 36, 3)) (kk : W p l e R s m args below meth c H locs cells slots Q (F0 m (pc + 3) ls (v :: rest))) : W p l e R s m args below meth c H locs cells slots Q (F0 m pc ls (.ref a :: rest)) := va_get (D := D) (ci := 11) (C := RX11) (T := TX11) (N := 12) hx hb hts iX11 hown hK hP q0 he rfl 4 (by decide) (hts _ k_410) (fun _ h9 => h9) hv hdg kk
theorem pf_X11_36 (hx : p.tables.exec = Jvm.exec) (hb : c.code = cc) (hts : ∀ w ∈ gT, w.before args s = true) (hown : s.vm.findClass RX11 = some m.cls) (hK : va_K D classes (tysOf tc) s) (hP : va_P D classes ws H) (hD : va_D A ws) (hS : va_S A s.heap H locs) (q0 : Nat) {fs : List Value} {v : Value} (he : ws[q0]? = some (a, .inr (11, fs))) (hl : 4 < fs.length) (hn : narrow .int v = v) (hfit : fits .int v = true) (hdg : decode cc pc = .ok (.putfield 36, 3)) (kk : ∀ (H1 : Heap) (locs1 : List Loc), va_P D classes (ws.set q0 (a, .inr (11, fs.set 4 v))) H1 → va_D A (ws.set q0 (a, .inr (11, fs.set 4 v))) → va_S A s.heap H1 locs1 → W p l e R s m args below meth c H1 locs1 cells slots Q (F0 m (pc + 3) ls rest)) : W p l e R s m args below meth c H locs cells slots Q (F0 m pc ls (v :: .ref a :: rest)) := va_put (D := D) (ci := 11) (C := RX11) (T := TX11) (N := 12) (ty := .int) hx hb hts iX11 tyX11 tyX11_ok nmX11 hown hK hP hD hS q0 he rfl 4 (by decide) (hts _ k_410) (fun _ h9 => h9) rfl (by decide +kernel) hn hfit hl hdg kk
theorem gf_X11_43 (hx : p.tables.exec = Jvm.exec) (hb : c.code = cc) (hts : ∀ w ∈ gT, w.before args s = true) (hown : s.vm.findClass RX11 = some m.cls) (hK : va_K D classes (tysOf tc) s) (hP : va_P D classes ws H) (q0 : Nat) {fs : List Value} {v : Value} (he : ws[q0]? = some (a, .inr (11, fs))) (hv : fs[5]? = some v) (hdg : decode cc pc = .ok (.getfield 43, 3)) (kk : W p l e R s m args below meth c H locs cells slots Q (F0 m (pc + 3) ls (v :: rest))) : W p l e R s m args below meth c H locs cells slots Q (F0 m pc ls (.ref a :: rest)) := va_get (D := D) (ci := 11) (C := RX11) (T := TX11) (N := 12) hx hb hts iX11 hown hK hP q0 he rfl 5 (by decide) (hts _ k_411) (fun _ h9 => h9) hv hdg kk
theorem pf_X11_43 (hx : p.tables.exec = Jvm.exec) (hb : c.code = cc) (hts : ∀ w ∈ gT, w.before args s = true) (hown : s.vm.findClass RX11 = some m.cls) (hin2 : meth.name = "<init>") (hK : va_K D classes (tysOf tc) s) (hP : va_P D classes ws H) (hD : va_D A ws) (hS : va_S A s.heap H locs) (q0 : Nat) {fs : List Value} {v : Value} {ty : FieldType} (he : ws[q0]? = some (a, .inr (11, fs))) (hl : 5 < fs.length) (hd : parseFieldDescriptor (TX11 5).2.2.1 = some ty) (hn : narrow ty v = v) (hfit : fits ty v = true) (hdg : decode cc pc = .ok (.putfield 43, 3)) (kk : ∀ (H1 : Heap) (locs1 : List Loc), va_P D classes (ws.set q0 (a, .inr (11, fs.set 5 v))) H1 → va_D A (ws.set q0 (a, .inr (11, fs.set 5 v))) → va_S A s.heap H1 locs1 → W p l e R s m args below meth c H1 locs1 cells slots Q (F0 m (pc + 3) ls rest)) : W p l e R s m args below meth c H locs cells slots Q (F0 m pc ls (v :: .ref a :: rest)) := va_putF (D := D) (ci := 11) (C := RX11) (T := TX11) (N := 12) hx hb hts iX11 tyX11 tyX11_ok nmX11 hown hK hP hD hS q0 he rfl 5 (by decide) (hts _ k_411) (fun _ h9 => h9) rfl hin2 rfl hd hn hfit hl hdg kk
theorem gf_X11_51 (hx : p.tables.exec = Jvm.exec) (hb : c.code = cc) (hts : ∀ w ∈ gT, w.before args s = true) (hown : s.vm.findClass RX11 = some m.cls) (hK : va_K D classes (tysOf tc) s) (hP : va_P D classes ws H) (q0 : Nat) {fs : List Value} {v : Value} (he : ws[q0]? = some (a, .inr (11, fs))) (hv : fs[6]? = some v) (hdg : decode cc pc = .ok (.getfield 51, 3)) (kk : W p l e R s m args below meth c H locs cells slots Q (F0 m (pc + 3) ls (v :: rest))) : W p l e R s m args below meth c H locs cells slots Q (F0 m pc ls (.ref a :: rest)) := va_get (D := D) (ci := 11) (C := RX11) (T := TX11) (N := 12) hx hb hts iX11 hown hK hP q0 he rfl 6 (by decide) (hts _ k_412) (fun _ h9 => h9) hv hdg kk
theorem pf_X11_51 (hx : p.tables.exec = Jvm.exec) (hb : c.code = cc) (hts : ∀ w ∈ gT, w.before args s = true) (hown : s.vm.findClass RX11 = some m.cls) (hin2 : meth.name = "<init>") (hK : va_K D classes (tysOf tc) s) (hP : va_P D classes ws H) (hD : va_D A ws) (hS : va_S A s.heap H locs) (q0 : Nat) {fs : List Value} {v : Value} {ty : FieldType} (he : ws[q0]? = some (a, .inr (11, fs))) (hl : 6 < fs.length) (hd : parseFieldDescriptor (TX11 6).2.2.1 = some ty) (hn : narrow ty v = v) (hfit : fits ty v = true) (hdg : decode cc pc = .ok (.putfield 51, 3)) (kk : ∀ (H1 : Heap) (locs1 : List Loc), va_P D classes (ws.set q0 (a, .inr (11, fs.set 6 v))) H1 → va_D A (ws.set q0 (a, .inr (11, fs.set 6 v))) → va_S A s.heap H1 locs1 → W p l e R s m args below meth c H1 locs1 cells slots Q (F0 m (pc + 3) ls rest)) : W p l e R s m args below meth c H locs cells slots Q (F0 m pc ls (v :: .ref a :: rest)) := va_putF (D := D) (ci := 11) (C := RX11) (T := TX11) (N := 12) hx hb hts iX11 tyX11 tyX11_ok nmX11 hown hK hP hD hS q0 he rfl 6 (by decide) (hts _ k_412) (fun _ h9 => h9) rfl hin2 rfl hd hn hfit hl hdg kk
theorem gf_X11_57 (hx : p.tables.exec = Jvm.exec) (hb : c.code = cc) (hts : ∀ w ∈ gT, w.before args s = true) (hown : s.vm.findClass RX11 = some m.cls) (hK : va_K D classes (tysOf tc) s) (hP : va_P D classes ws H) (q0 : Nat) {fs : List Value} {v : Value} (he : ws[q0]? = some (a, .inr (11, fs))) (hv : fs[7]? = some v) (hdg : decode cc pc = .ok (.getfield 57, 3)) (kk : W p l e R s m args below meth c H locs cells slots Q (F0 m (pc + 3) ls (v :: rest))) : W p l e R s m args below meth c H locs cells slots Q (F0 m pc ls (.ref a :: rest)) := va_get (D := D) (ci := 11) (C := RX11) (T := TX11) (N := 12) hx hb hts iX11 hown hK hP q0 he rfl 7 (by decide) (hts _ k_413) (fun _ h9 => h9) hv hdg kk
theorem pf_X11_57 (hx : p.tables.exec = Jvm.exec) (hb : c.code = cc) (hts : ∀ w ∈ gT, w.before args s = true) (hown : s.vm.findClass RX11 = some m.cls) (hin2 : meth.name = "<init>") (hK : va_K D classes (tysOf tc) s) (hP : va_P D classes ws H) (hD : va_D A ws) (hS : va_S A s.heap H locs) (q0 : Nat) {fs : List Value} {v : Value} {ty : FieldType} (he : ws[q0]? = some (a, .inr (11, fs))) (hl : 7 < fs.length) (hd : parseFieldDescriptor (TX11 7).2.2.1 = some ty) (hn : narrow ty v = v) (hfit : fits ty v = true) (hdg : decode cc pc = .ok (.putfield 57, 3)) (kk : ∀ (H1 : Heap) (locs1 : List Loc), va_P D classes (ws.set q0 (a, .inr (11, fs.set 7 v))) H1 → va_D A (ws.set q0 (a, .inr (11, fs.set 7 v))) → va_S A s.heap H1 locs1 → W p l e R s m args below meth c H1 locs1 cells slots Q (F0 m (pc + 3) ls rest)) : W p l e R s m args below meth c H locs cells slots Q (F0 m pc ls (v :: .ref a :: rest)) := va_putF (D := D) (ci := 11) (C := RX11) (T := TX11) (N := 12) hx hb hts iX11 tyX11 tyX11_ok nmX11 hown hK hP hD hS q0 he rfl 7 (by decide) (hts _ k_413) (fun _ h9 => h9) rfl hin2 rfl hd hn hfit hl hdg kk
theorem gf_X11_61 (hx : p.tables.exec = Jvm.exec) (hb : c.code = cc) (hts : ∀ w ∈ gT, w.before args s = true) (hown : s.vm.findClass RX11 = some m.cls) (hK : va_K D classes (tysOf tc) s) (hP : va_P D classes ws H) (q0 : Nat) {fs : List Value} {v : Value} (he : ws[q0]? = some (a, .inr (11, fs))) (hv : fs[8]? = some v) (hdg : decode cc pc = .ok (.getfield 61, 3)) (kk : W p l e R s m args below meth c H locs cells slots Q (F0 m (pc + 3) ls (v :: rest))) : W p l e R s m args below meth c H locs cells slots Q (F0 m pc ls (.ref a :: rest)) := va_get (D := D) (ci := 11) (C := RX11) (T := TX11) (N := 12) hx hb hts iX11 hown hK hP q0 he rfl 8 (by decide) (hts _ k_414) (fun _ h9 => h9) hv hdg kk
theorem pf_X11_61 (hx : p.tables.exec = Jvm.exec) (hb : c.code = cc) (hts : ∀ w ∈ gT, w.before args s = true) (hown : s.vm.findClass RX11 = some m.cls) (hin2 : meth.name = "<init>") (hK : va_K D classes (tysOf tc) s) (hP : va_P D classes ws H) (hD : va_D A ws) (hS : va_S A s.heap H locs) (q0 : Nat) {fs : List Value} {v : Value} {ty : FieldType} (he : ws[q0]? = some (a, .inr (11, fs))) (hl : 8 < fs.length) (hd : parseFieldDescriptor (TX11 8).2.2.1 = some ty) (hn : narrow ty v = v) (hfit : fits ty v = true) (hdg : decode cc pc = .ok (.putfield 61, 3)) (kk : ∀ (H1 : Heap) (locs1 : List Loc), va_P D classes (ws.set q0 (a, .inr (11, fs.set 8 v))) H1 → va_D A (ws.set q0 (a, .inr (11, fs.set 8 v))) → va_S A s.heap H1 locs1 → W p l e R s m args below meth c H1 locs1 cells slots Q (F0 m (pc + 3) ls rest)) : W p l e R s m args below meth c H locs cells slots Q (F0 m pc ls (v :: .ref a :: rest)) := va_putF (D := D) (ci := 11) (C := RX11) (T := TX11) (N := 12) hx hb hts iX11 tyX11 tyX11_ok nmX11 hown hK hP hD hS q0 he rfl 8 (by decide) (hts _ k_414) (fun _ h9 => h9) rfl hin2 rfl hd hn hfit hl hdg kk
theorem gf_X11_68 (hx : p.tables.exec = Jvm.exec) (hb : c.code = cc) (hts : ∀ w ∈ gT, w.before args s = true) (hown : s.vm.findClass RX11 = some m.cls) (hK : va_K D classes (tysOf tc) s) (hP : va_P D classes ws H) (q0 : Nat) {fs : List Value} {v : Value} (he : ws[q0]? = some (a, .inr (11, fs))) (hv : fs[9]? = some v) (hdg : decode cc pc = .ok (.getfield 68, 3)) (kk : W p l e R s m args below meth c H locs cells slots Q (F0 m (pc + 3) ls (v :: rest))) : W p l e R s m args below meth c H locs cells slots Q (F0 m pc ls (.ref a :: rest)) := va_get (D := D) (ci := 11) (C := RX11) (T := TX11) (N := 12) hx hb hts iX11 hown hK hP q0 he rfl 9 (by decide) (hts _ k_415) (fun _ h9 => h9) hv hdg kk
theorem pf_X11_68 (hx : p.tables.exec = Jvm.exec) (hb : c.code = cc) (hts : ∀ w ∈ gT, w.before args s = true) (hown : s.vm.findClass RX11 = some m.cls) (hin2 : meth.name = "<init>") (hK : va_K D classes (tysOf tc) s) (hP : va_P D classes ws H) (hD : va_D A ws) (hS : va_S A s.heap H locs) (q0 : Nat) {fs : List Value} {v : Value} {ty : FieldType} (he : ws[q0]? = some (a, .inr (11, fs))) (hl : 9 < fs.length) (hd : parseFieldDescriptor (TX11 9).2.2.1 = some ty) (hn : narrow ty v = v) (hfit : fits ty v = true) (hdg : decode cc pc = .ok (.putfield 68, 3)) (kk : ∀ (H1 : Heap) (locs1 : List Loc), va_P D classes (ws.set q0 (a, .inr (11, fs.set 9 v))) H1 → va_D A (ws.set q0 (a, .inr (11, fs.set 9 v))) → va_S A s.heap H1 locs1 → W p l e R s m args below meth c H1 locs1 cells slots Q (F0 m (pc + 3) ls rest)) : W p l e R s m args below meth c H locs cells slots Q (F0 m pc ls (v :: .ref a :: rest)) := va_putF (D := D) (ci := 11) (C := RX11) (T := TX11) (N := 12) hx hb hts iX11 tyX11 tyX11_ok nmX11 hown hK hP hD hS q0 he rfl 9 (by decide) (hts _ k_415) (fun _ h9 => h9) rfl hin2 rfl hd hn hfit hl hdg kk
theorem gf_X11_75 (hx : p.tables.exec = Jvm.exec) (hb : c.code = cc) (hts : ∀ w ∈ gT, w.before args s = true) (hown : s.vm.findClass RX11 = some m.cls) (hK : va_K D classes (tysOf tc) s) (hP : va_P D classes ws H) (q0 : Nat) {fs : List Value} {v : Value} (he : ws[q0]? = some (a, .inr (11, fs))) (hv : fs[10]? = some v) (hdg : decode cc pc = .ok (.getfield 75, 3)) (kk : W p l e R s m args below meth c H locs cells slots Q (F0 m (pc + 3) ls (v :: rest))) : W p l e R s m args below meth c H locs cells slots Q (F0 m pc ls (.ref a :: rest)) := va_get (D := D) (ci := 11) (C := RX11) (T := TX11) (N := 12) hx hb hts iX11 hown hK hP q0 he rfl 10 (by decide) (hts _ k_416) (fun _ h9 => h9) hv hdg kk
theorem pf_X11_75 (hx : p.tables.exec = Jvm.exec) (hb : c.code = cc) (hts : ∀ w ∈ gT, w.before args s = true) (hown : s.vm.findClass RX11 = some m.cls) (hin2 : meth.name = "<init>") (hK : va_K D classes (tysOf tc) s) (hP : va_P D classes ws H) (hD : va_D A ws) (hS : va_S A s.heap H locs) (q0 : Nat) {fs : List Value} {v : Value} {ty : FieldType} (he : ws[q0]? = some (a, .inr (11, fs))) (hl : 10 < fs.length) (hd : parseFieldDescriptor (TX11 10).2.2.1 = some ty) (hn : narrow ty v = v) (hfit : fits ty v = true) (hdg : decode cc pc = .ok (.putfield 75, 3)) (kk : ∀ (H1 : Heap) (locs1 : List Loc), va_P D classes (ws.set q0 (a, .inr (11, fs.set 10 v))) H1 → va_D A (ws.set q0 (a, .inr (11, fs.set 10 v))) → va_S A s.heap H1 locs1 → W p l e R s m args below meth c H1 locs1 cells slots Q (F0 m (pc + 3) ls rest)) : W p l e R s m args below meth c H locs cells slots Q (F0 m pc ls (v :: .ref a :: rest)) := va_putF (D := D) (ci := 11) (C := RX11) (T := TX11) (N := 12) hx hb hts iX11 tyX11 tyX11_ok nmX11 hown hK hP hD hS q0 he rfl 10 (by decide) (hts _ k_416) (fun _ h9 => h9) rfl hin2 rfl hd hn hfit hl hdg kk
theorem gf_X11_82 (hx : p.tables.exec = Jvm.exec) (hb : c.code = cc) (hts : ∀ w ∈ gT, w.before args s = true) (hown : s.vm.findClass RX11 = some m.cls) (hK : va_K D classes (tysOf tc) s) (hP : va_P D classes ws H) (q0 : Nat) {fs : List Value} {v : Value} (he : ws[q0]? = some (a, .inr (11, fs))) (hv : fs[11]? = some v) (hdg : decode cc pc = .ok (.getfield 82, 3)) (kk : W p l e R s m args below meth c H locs cells slots Q (F0 m (pc + 3) ls (v :: rest))) : W p l e R s m args below meth c H locs cells slots Q (F0 m pc ls (.ref a :: rest)) := va_get (D := D) (ci := 11) (C := RX11) (T := TX11) (N := 12) hx hb hts iX11 hown hK hP q0 he rfl 11 (by decide) (hts _ k_417) (fun _ h9 => h9) hv hdg kk
theorem pf_X11_82 (hx : p.tables.exec = Jvm.exec) (hb : c.code = cc) (hts : ∀ w ∈ gT, w.before args s = true) (hown : s.vm.findClass RX11 = some m.cls) (hin2 : meth.name = "<init>") (hK : va_K D classes (tysOf tc) s) (hP : va_P D classes ws H) (hD : va_D A ws) (hS : va_S A s.heap H locs) (q0 : Nat) {fs : List Value} {v : Value} {ty : FieldType} (he : ws[q0]? = some (a, .inr (11, fs))) (hl : 11 < fs.length) (hd : parseFieldDescriptor (TX11 11).2.2.1 = some ty) (hn : narrow ty v = v) (hfit : fits ty v = true) (hdg : decode cc pc = .ok (.putfield 82, 3)) (kk : ∀ (H1 : Heap) (locs1 : List Loc), va_P D classes (ws.set q0 (a, .inr (11, fs.set 11 v))) H1 → va_D A (ws.set q0 (a, .inr (11, fs.set 11 v))) → va_S A s.heap H1 locs1 → W p l e R s m args below meth c H1 locs1 cells slots Q (F0 m (pc + 3) ls rest)) : W p l e R s m args below meth c H locs cells slots Q (F0 m pc ls (v :: .ref a :: rest)) := va_putF (D := D) (ci := 11) (C := RX11) (T := TX11) (N := 12) hx hb hts iX11 tyX11 tyX11_ok nmX11 hown hK hP hD hS q0 he rfl 11 (by decide) (hts _ k_417) (fun _ h9 => h9) rfl hin2 rfl hd hn hfit hl hdg kk
theorem gf_X6_13 (hx : p.tables.exec = Jvm.exec) (hb : c.code = cc) (hts : ∀ w ∈ gT, w.before args s = true) (hown : s.vm.findClass RX6 = some m.cls) (hK : va_K D classes (tysOf tc) s) (hP : va_P D classes ws H) (q0 : Nat) {fs : List Value} {v : Value} (he : ws[q0]? = some (a, .inr (6, fs))) (hv : fs[0]? = some v) (hdg : decode cc pc = .ok (.getfield 13, 3)) (kk : W p l e R s m args below meth c H locs cells slots Q (F0 m (pc + 3) ls (v :: rest))) : W p l e R s m args below meth c H locs cells slots Q (F0 m pc ls (.ref a :: rest)) := va_get (D := D) (ci := 6) (C := RX6) (T := TX6) (N := 2) hx hb hts iX6 hown hK hP q0 he rfl 0 (by decide) (hts _ k_687) (fun _ h9 => h9) hv hdg kk
theorem pf_X6_13 (hx : p.tables.exec = Jvm.exec) (hb : c.code = cc) (hts : ∀ w ∈ gT, w.before args s = true) (hown : s.vm.findClass RX6 = some m.cls) (hin2 : meth.name = "<init>") (hK : va_K D classes (tysOf tc) s) (hP : va_P D classes ws H) (hD : va_D A ws) (hS : va_S A s.heap H locs) (q0 : Nat) {fs : List Value} {v : Value} {ty : FieldType} (he : ws[q0]? = some (a, .inr (6, fs))) (hl : 0 < fs.length) (hd : parseFieldDescriptor (TX6 0).2.2.1 = some ty) (hn : narrow ty v = v) (hfit : fits ty v = true) (hdg : decode cc pc = .ok (.putfield 13, 3)) (kk : ∀ (H1 : Heap) (locs1 : List Loc), va_P D classes (ws.set q0 (a, .inr (6, fs.set 0 v))) H1 → va_D A (ws.set q0 (a, .inr (6, fs.set 0 v))) → va_S A s.heap H1 locs1 → W p l e R s m args below meth c H1 locs1 cells slots Q (F0 m (pc + 3) ls rest)) : W p l e R s m args below meth c H locs cells slots Q (F0 m pc ls (v :: .ref a :: rest)) := va_putF (D := D) (ci := 6) (C := RX6) (T := TX6) (N := 2) hx hb hts iX6 tyX6 tyX6_ok nmX6 hown hK hP hD hS q0 he rfl 0 (by decide) (hts _ k_687) (fun _ h9 => h9) rfl hin2 rfl hd hn hfit hl hdg kk
theorem gf_X6_9 (hx : p.tables.exec = Jvm.exec) (hb : c.code = cc) (hts : ∀ w ∈ gT, w.before args s = true) (hown : s.vm.findClass RX6 = some m.cls) (hK : va_K D classes (tysOf tc) s) (hP : va_P D classes ws H) (q0 : Nat) {fs : List Value} {v : Value} (he : ws[q0]? = some (a, .inr (6, fs))) (hv : fs[1]? = some v) (hdg : decode cc pc = .ok (.getfield 9, 3)) (kk : W p l e R s m args below meth c H locs cells slots Q (F0 m (pc + 3) ls (v :: rest))) : W p l e R s m args below meth c H locs cells slots Q (F0 m pc ls (.ref a :: rest)) := va_get (D := D) (ci := 6) (C := RX6) (T := TX6) (N := 2) hx hb hts iX6 hown hK hP q0 he rfl 1 (by decide) (hts _ k_688) (fun _ h9 => h9) hv hdg kk
theorem pf_X6_9 (hx : p.tables.exec = Jvm.exec) (hb : c.code = cc) (hts : ∀ w ∈ gT, w.before args s = true) (hown : s.vm.findClass RX6 = some m.cls) (hin2 : meth.name = "<init>") (hK : va_K D classes (tysOf tc) s) (hP : va_P D classes ws H) (hD : va_D A ws) (hS : va_S A s.heap H locs) (q0 : Nat) {fs : List Value} {v : Value} {ty : FieldType} (he : ws[q0]? = some (a, .inr (6, fs))) (hl : 1 < fs.length) (hd : parseFieldDescriptor (TX6 1).2.2.1 = some ty) (hn : narrow ty v = v) (hfit : fits ty v = true) (hdg : decode cc pc = .ok (.putfield 9, 3)) (kk : ∀ (H1 : Heap) (locs1 : List Loc), va_P D classes (ws.set q0 (a, .inr (6, fs.set 1 v))) H1 → va_D A (ws.set q0 (a, .inr (6, fs.set 1 v))) → va_S A s.heap H1 locs1 → W p l e R s m args below meth c H1 locs1 cells slots Q (F0 m (pc + 3) ls rest)) : W p l e R s m args below meth c H locs cells slots Q (F0 m pc ls (v :: .ref a :: rest)) := va_putF (D := D) (ci := 6) (C := RX6) (T := TX6) (N := 2) hx hb hts iX6 tyX6 tyX6_ok nmX6 hown hK hP hD hS q0 he rfl 1 (by decide) (hts _ k_688) (fun _ h9 => h9) rfl hin2 rfl hd hn hfit hl hdg kk
theorem gf_X12_7 (hx : p.tables.exec = Jvm.exec) (hb : c.code = cc) (hts : ∀ w ∈ gT, w.before args s = true) (hown : s.vm.findClass RX12 = some m.cls) (hK : va_K D classes (tysOf tc) s) (hP : va_P D classes ws H) (q0 : Nat) {fs : List Value} {v : Value} (he : ws[q0]? = some (a, .inr (12, fs))) (hv : fs[0]? = some v) (hdg : decode cc pc = .ok (.getfield 7, 3)) (kk : W p l e R s m args below meth c H locs cells slots Q (F0 m (pc + 3) ls (v :: rest))) : W p l e R s m args below meth c H locs cells slots Q (F0 m pc ls (.ref a :: rest)) := va_get (D := D) (ci := 12) (C := RX12) (T := TX12) (N := 36) hx hb hts iX12 hown hK hP q0 he rfl 0 (by decide) (hts _ k_1075) (fun _ h9 => h9) hv hdg kk
theorem pf_X12_7 (hx : p.tables.exec = Jvm.exec) (hb : c.code = cc) (hts : ∀ w ∈ gT, w.before args s = true) (hown : s.vm.findClass RX12 = some m.cls) (hin2 : meth.name = "<init>") (hK : va_K D classes (tysOf tc) s) (hP : va_P D classes ws H) (hD : va_D A ws) (hS : va_S A s.heap H locs) (q0 : Nat) {fs : List Value} {v : Value} {ty : FieldType} (he : ws[q0]? = some (a, .inr (12, fs))) (hl : 0 < fs.length) (hd : parseFieldDescriptor (TX12 0).2.2.1 = some ty) (hn : narrow ty v = v) (hfit : fits ty v = true) (hdg : decode cc pc = .ok (.putfield 7, 3)) (kk : ∀ (H1 : Heap) (locs1 : List Loc), va_P D classes (ws.set q0 (a, .inr (12, fs.set 0 v))) H1 → va_D A (ws.set q0 (a, .inr (12, fs.set 0 v))) → va_S A s.heap H1 locs1 → W p l e R s m args below meth c H1 locs1 cells slots Q (F0 m (pc + 3) ls rest)) : W p l e R s m args below meth c H locs cells slots Q (F0 m pc ls (v :: .ref a :: rest)) := va_putF (D := D) (ci := 12) (C := RX12) (T := TX12) (N := 36) hx hb hts iX12 tyX12 tyX12_ok nmX12 hown hK hP hD hS q0 he rfl 0 (by decide) (hts _ k_1075) (fun _ h9 => h9) rfl hin2 rfl hd hn hfit hl hdg kk
theorem gf_X12_77 (hx : p.tables.exec = Jvm.exec) (hb : c.code = cc) (hts : ∀ w ∈ gT, w.before args s = true) (hown : s.vm.findClass RX12 = some m.cls) (hK : va_K D classes (tysOf tc) s) (hP : va_P D classes ws H) (q0 : Nat) {fs : List Value} {v : Value} (he : ws[q0]? = some (a, .inr (12, fs))) (hv : fs[1]? = some v) (hdg : decode cc pc = .ok (.getfield 77, 3)) (kk : W p l e R s m args below meth c H locs cells slots Q (F0 m (pc + 3) ls (v :: rest))) : W p l e R s m args below meth c H locs cells slots Q (F0 m pc ls (.ref a :: rest)) := va_get (D := D) (ci := 12) (C := RX12) (T := TX12) (N := 36) hx hb hts iX12 hown hK hP q0 he rfl 1 (by decide) (hts _ k_1076) (fun _ h9 => h9) hv hdg kk
theorem pf_X12_77 (hx : p.tables.exec = Jvm.exec) (hb : c.code = cc) (hts : ∀ w ∈ gT, w.before args s = true) (hown : s.vm.findClass RX12 = some m.cls) (hK : va_K D classes (tysOf tc) s) (hP : va_P D classes ws H) (hD : va_D A ws) (hS : va_S A s.heap H locs) (q0 : Nat) {fs : List Value} {v : Value} (he : ws[q0]? = some (a, .inr (12, fs))) (hl : 1 < fs.length) (hn : narrow .int v = v) (hfit : fits .int v = true) (hdg : decode cc pc = .ok (.putfield 77, 3)) (kk : ∀ (H1 : Heap) (locs1 : List Loc), va_P D classes (ws.set q0 (a, .inr (12, fs.set 1 v))) H1 → va_D A (ws.set q0 (a, .inr (12, fs.set 1 v))) → va_S A s.heap H1 locs1 → W p l e R s m args below meth c H1 locs1 cells slots Q (F0 m (pc + 3) ls rest)) : W p l e R s m args below meth c H locs cells slots Q (F0 m pc ls (v :: .ref a :: rest)) := va_put (D := D) (ci := 12) (C := RX12) (T := TX12) (N := 36) (ty := .int) hx hb hts iX12 tyX12 tyX12_ok nmX12 hown hK hP hD hS q0 he rfl 1 (by decide) (hts _ k_1076) (fun _ h9 => h9) rfl (by decide +kernel) hn hfit hl hdg kk
theorem gf_X12_256 (hx : p.tables.exec = Jvm.exec) (hb : c.code = cc) (hts : ∀ w ∈ gT, w.before args s = true) (hown : s.vm.findClass RX12 = some m.cls) (hK : va_K D classes (tysOf tc) s) (hP : va_P D classes ws H) (q0 : Nat) {fs : List Value} {v : Value} (he : ws[q0]? = some (a, .inr (12, fs))) (hv : fs[2]? = some v) (hdg : decode cc pc = .ok (.getfield 256, 3)) (kk : W p l e R s m args below meth c H locs cells slots Q (F0 m (pc + 3) ls (v :: rest))) : W p l e R s m args below meth c H locs cells slots Q (F0 m pc ls (.ref a :: rest)) := va_get (D := D) (ci := 12) (C := RX12) (T := TX12) (N := 36) hx hb hts iX12 hown hK hP q0 he rfl 2 (by decide) (hts _ k_1077) (fun _ h9 => h9) hv hdg kk
theorem pf_X12_256 (hx : p.tables.exec = Jvm.exec) (hb : c.code = cc) (hts : ∀ w ∈ gT, w.before args s = true) (hown : s.vm.findClass RX12 = some m.cls) (hK : va_K D classes (tysOf tc) s) (hP : va_P D classes ws H) (hD : va_D A ws) (hS : va_S A s.heap H locs) (q0 : Nat) {fs : List Value} {v : Value} (he : ws[q0]? = some (a, .inr (12, fs))) (hl : 2 < fs.length) (hn : narrow .int v = v) (hfit : fits .int v = true) (hdg : decode cc pc = .ok (.putfield 256, 3)) (kk : ∀ (H1 : Heap) (locs1 : List Loc), va_P D classes (ws.set q0 (a, .inr (12, fs.set 2 v))) H1 → va_D A (ws.set q0 (a, .inr (12, fs.set 2 v))) → va_S A s.heap H1 locs1 → W p l e R s m args below meth c H1 locs1 cells slots Q (F0 m (pc + 3) ls rest)) : W p l e R s m args below meth c H locs cells slots Q (F0 m pc ls (v :: .ref a :: rest)) := va_put (D := D) (ci := 12) (C := RX12) (T := TX12) (N := 36) (ty := .int) hx hb hts iX12 tyX12 tyX12_ok nmX12 hown hK hP hD hS q0 he rfl 2 (by decide) (hts _ k_1077) (fun _ h9 => h9) rfl (by decide +kernel) hn hfit hl hdg kk
theorem gf_X12_13 (hx : p.tables.exec = Jvm.exec) (hb : c.code = cc) (hts : ∀ w ∈ gT, w.before args s = true) (hown : s.vm.findClass RX12 = some m.cls) (hK : va_K D classes (tysOf tc) s) (hP : va_P D classes ws H) (q0 : Nat) {fs : List Value} {v : Value} (he : ws[q0]? = some (a, .inr (12, fs))) (hv : fs[3]? = some v) (hdg : decode cc pc = .ok (.getfield 13, 3)) (kk : W p l e R s m args below meth c H locs cells slots Q (F0 m (pc + 3) ls (v :: rest))) : W p l e R s m args below meth c H locs cells slots Q (F0 m pc ls (.ref a :: rest)) := va_get (D := D) (ci := 12) (C := RX12) (T := TX12) (N := 36) hx hb hts iX12 hown hK hP q0 he rfl 3 (by decide) (hts _ k_1078) (fun _ h9 => h9) hv hdg kk
theorem pf_X12_13 (hx : p.tables.exec = Jvm.exec) (hb : c.code = cc) (hts : ∀ w ∈ gT, w.before args s = true) (hown : s.vm.findClass RX12 = some m.cls) (hin2 : meth.name = "<init>") (hK : va_K D classes (tysOf tc) s) (hP : va_P D classes ws H) (hD : va_D A ws) (hS : va_S A s.heap H locs) (q0 : Nat) {fs : List Value} {v : Value} {ty : FieldType} (he : ws[q0]? = some (a, .inr (12, fs))) (hl : 3 < fs.length) (hd : parseFieldDescriptor (TX12 3).2.2.1 = some ty) (hn : narrow ty v = v) (hfit : fits ty v = true) (hdg : decode cc pc = .ok (.putfield 13, 3)) (kk : ∀ (H1 : Heap) (locs1 : List Loc), va_P D classes (ws.set q0 (a, .inr (12, fs.set 3 v))) H1 → va_D A (ws.set q0 (a, .inr (12, fs.set 3 v))) → va_S A s.heap H1 locs1 → W p l e R s m args below meth c H1 locs1 cells slots Q (F0 m (pc + 3) ls rest)) : W p l e R s m args below meth c H locs cells slots Q (F0 m pc ls (v :: .ref a :: rest)) := va_putF (D := D) (ci := 12) (C := RX12) (T := TX12) (N := 36) hx hb hts iX12 tyX12 tyX12_ok nmX12 hown hK hP hD hS q0 he rfl 3 (by decide) (hts _ k_1078) (fun _ h9 => h9) rfl hin2 rfl hd hn hfit hl hdg kk
theorem gf_X12_17 (hx : p.tables.exec = Jvm.exec) (hb : c.code = cc) (hts : ∀ w ∈ gT, w.before args s = true) (hown : s.vm.findClass RX12 = some m.cls) (hK : va_K D classes (tysOf tc) s) (hP : va_P D classes ws H) (q0 : Nat) {fs : List Value} {v : Value} (he : ws[q0]? = some (a, .inr (12, fs))) (hv : fs[4]? = some v) (hdg : decode cc pc = .ok (.getfield 17, 3)) (kk : W p l e R s m args below meth c H locs cells slots Q (F0 m (pc + 3) ls (v :: rest))) : W p l e R s m args below meth c H locs cells slots Q (F0 m pc ls (.ref a :: rest)) := va_get (D := D) (ci := 12) (C := RX12) (T := TX12) (N := 36) hx hb hts iX12 hown hK hP q0 he rfl 4 (by decide) (hts _ k_1079) (fun _ h9 => h9) hv hdg kk
theorem pf_X12_17 (hx : p.tables.exec = Jvm.exec) (hb : c.code = cc) (hts : ∀ w ∈ gT, w.before args s = true) (hown : s.vm.findClass RX12 = some m.cls) (hin2 : meth.name = "<init>") (hK : va_K D classes (tysOf tc) s) (hP : va_P D classes ws H) (hD : va_D A ws) (hS : va_S A s.heap H locs) (q0 : Nat) {fs : List Value} {v : Value} {ty : FieldType} (he : ws[q0]? = some (a, .inr (12, fs))) (hl : 4 < fs.length) (hd : parseFieldDescriptor (TX12 4).2.2.1 = some ty) (hn : narrow ty v = v) (hfit : fits ty v = true) (hdg : decode cc pc = .ok (.putfield 17, 3)) (kk : ∀ (H1 : Heap) (locs1 : List Loc), va_P D classes (ws.set q0 (a, .inr (12, fs.set 4 v))) H1 → va_D A (ws.set q0 (a, .inr (12, fs.set 4 v))) → va_S A s.heap H1 locs1 → W p l e R s m args below meth c H1 locs1 cells slots Q (F0 m (pc + 3) ls rest)) : W p l e R s m args below meth c H locs cells slots Q (F0 m pc ls (v :: .ref a :: rest)) := va_putF (D := D) (ci := 12) (C := RX12) (T := TX12) (N := 36) hx hb hts iX12 tyX12 tyX12_ok nmX12 hown hK hP hD hS q0 he rfl 4 (by decide) (hts _ k_1079) (fun _ h9 => h9) rfl hin2 rfl hd hn hfit hl hdg kk
theorem gf_X12_20 (hx : p.tables.exec = Jvm.exec) (hb : c.code = cc) (hts : ∀ w ∈ gT, w.before args s = true) (hown : s.vm.findClass RX12 = some m.cls) (hK : va_K D classes (tysOf tc) s) (hP : va_P D classes ws H) (q0 : Nat) {fs : List Value} {v : Value} (he : ws[q0]? = some (a, .inr (12, fs))) (hv : fs[5]? = some v) (hdg : decode cc pc = .ok (.getfield 20, 3)) (kk : W p l e R s m args below meth c H locs cells slots Q (F0 m (pc + 3) ls (v :: rest))) : W p l e R s m args below meth c H locs cells slots Q (F0 m pc ls (.ref a :: rest)) := va_get (D := D) (ci := 12) (C := RX12) (T := TX12) (N := 36) hx hb hts iX12 hown hK hP q0 he rfl 5 (by decide) (hts _ k_1080) (fun _ h9 => h9) hv hdg kk
theorem pf_X12_20 (hx : p.tables.exec = Jvm.exec) (hb : c.code = cc) (hts : ∀ w ∈ gT, w.before args s = true) (hown : s.vm.findClass RX12 = some m.cls) (hin2 : meth.name = "<init>") (hK : va_K D classes (tysOf tc) s) (hP : va_P D classes ws H) (hD : va_D A ws) (hS : va_S A s.heap H locs) (q0 : Nat) {fs : List Value} {v : Value} {ty : FieldType} (he : ws[q0]? = some (a, .inr (12, fs))) (hl : 5 < fs.length) (hd : parseFieldDescriptor (TX12 5).2.2.1 = some ty) (hn : narrow ty v = v) (hfit : fits ty v = true) (hdg : decode cc pc = .ok (.putfield 20, 3)) (kk : ∀ (H1 : Heap) (locs1 : List Loc), va_P D classes (ws.set q0 (a, .inr (12, fs.set 5 v))) H1 → va_D A (ws.set q0 (a, .inr (12, fs.set 5 v))) → va_S A s.heap H1 locs1 → W p l e R s m args below meth c H1 locs1 cells slots Q (F0 m (pc + 3) ls rest)) : W p l e R s m args below meth c H locs cells slots Q (F0 m pc ls (v :: .ref a :: rest)) := va_putF (D := D) (ci := 12) (C := RX12) (T := TX12) (N := 36) hx hb hts iX12 tyX12 tyX12_ok nmX12 hown hK hP hD hS q0 he rfl 5 (by decide) (hts _ k_1080) (fun _ h9 => h9) rfl hin2 rfl hd hn hfit hl hdg kk
theorem gf_X12_23 (hx : p.tables.exec = Jvm.exec) (hb : c.code = cc) (hts : ∀ w ∈ gT, w.before args s = true) (hown : s.vm.findClass RX12 = some m.cls) (hK : va_K D classes (tysOf tc) s) (hP : va_P D classes ws H) (q0 : Nat) {fs : List Value} {v : Value} (he : ws[q0]? = some (a, .inr (12, fs))) (hv : fs[6]? = some v) (hdg : decode cc pc = .ok (.getfield 23, 3)) (kk : W p l e R s m args below meth c H locs cells slots Q (F0 m (pc + 3) ls (v :: rest))) : W p l e R s m args below meth c H locs cells slots Q (F0 m pc ls (.ref a :: rest)) := va_get (D := D) (ci := 12) (C := RX12) (T := TX12) (N := 36) hx hb hts iX12 hown hK hP q0 he rfl 6 (by decide) (hts _ k_1081) (fun _ h9 => h9) hv hdg kk
theorem pf_X12_23 (hx : p.tables.exec = Jvm.exec) (hb : c.code = cc) (hts : ∀ w ∈ gT, w.before args s = true) (hown : s.vm.findClass RX12 = some m.cls) (hin2 : meth.name = "<init>") (hK : va_K D classes (tysOf tc) s) (hP : va_P D classes ws H) (hD : va_D A ws) (hS : va_S A s.heap H locs) (q0 : Nat) {fs : List Value} {v : Value} {ty : FieldType} (he : ws[q0]? = some (a, .inr (12, fs))) (hl : 6 < fs.length) (hd : parseFieldDescriptor (TX12 6).2.2.1 = some ty) (hn : narrow ty v = v) (hfit : fits ty v = true) (hdg : decode cc pc = .ok (.putfield 23, 3)) (kk : ∀ (H1 : Heap) (locs1 : List Loc), va_P D classes (ws.set q0 (a, .inr (12, fs.set 6 v))) H1 → va_D A (ws.set q0 (a, .inr (12, fs.set 6 v))) → va_S A s.heap H1 locs1 → W p l e R s m args below meth c H1 locs1 cells slots Q (F0 m (pc + 3) ls rest)) : W p l e R s m args below meth c H locs cells slots Q (F0 m pc ls (v :: .ref a :: rest)) := va_putF (D := D) (ci := 12) (C := RX12) (T := TX12) (N := 36) hx hb hts iX12 tyX12 tyX12_ok nmX12 hown hK hP hD hS q0 he rfl 6 (by decide) (hts _ k_1081) (fun _ h9 => h9) rfl hin2 rfl hd hn hfit hl hdg kk
theorem gf_X12_26 (hx : p.tables.exec = Jvm.exec) (hb : c.code = cc) (hts : ∀ w ∈ gT, w.before args s = true) (hown : s.vm.findClass RX12 = some m.cls) (hK : va_K D classes (tysOf tc) s) (hP : va_P D classes ws H) (q0 : Nat) {fs : List Value} {v : Value} (he : ws[q0]? = some (a, .inr (12, fs))) (hv : fs[7]? = some v) (hdg : decode cc pc = .ok (.getfield 26, 3)) (kk : W p l e R s m args below meth c H locs cells slots Q (F0 m (pc + 3) ls (v :: rest))) : W p l e R s m args below meth c H locs cells slots Q (F0 m pc ls (.ref a :: rest)) := va_get (D := D) (ci := 12) (C := RX12) (T := TX12) (N := 36) hx hb hts iX12 hown hK hP q0 he rfl 7 (by decide) (hts _ k_1082) (fun _ h9 => h9) hv hdg kk
theorem pf_X12_26 (hx : p.tables.exec = Jvm.exec) (hb : c.code = cc) (hts : ∀ w ∈ gT, w.before args s = true) (hown : s.vm.findClass RX12 = some m.cls) (hin2 : meth.name = "<init>") (hK : va_K D classes (tysOf tc) s) (hP : va_P D classes ws H) (hD : va_D A ws) (hS : va_S A s.heap H locs) (q0 : Nat) {fs : List Value} {v : Value} {ty : FieldType} (he : ws[q0]? = some (a, .inr (12, fs))) (hl : 7 < fs.length) (hd : parseFieldDescriptor (TX12 7).2.2.1 = some ty) (hn : narrow ty v = v) (hfit : fits ty v = true) (hdg : decode cc pc = .ok (.putfield 26, 3)) (kk : ∀ (H1 : Heap) (locs1 : List Loc), va_P D classes (ws.set q0 (a, .inr (12, fs.set 7 v))) H1 → va_D A (ws.set q0 (a, .inr (12, fs.set 7 v))) → va_S A s.heap H1 locs1 → W p l e R s m args below meth c H1 locs1 cells slots Q (F0 m (pc + 3) ls rest)) : W p l e R s m args below meth c H locs cells slots Q (F0 m pc ls (v :: .ref a :: rest)) := va_putF (D := D) (ci := 12) (C := RX12) (T := TX12) (N := 36) hx hb hts iX12 tyX12 tyX12_ok nmX12 hown hK hP hD hS q0 he rfl 7 (by decide) (hts _ k_1082) (fun _ h9 => h9) rfl hin2 rfl hd hn hfit hl hdg kk
theorem gf_X12_87 (hx : p.tables.exec = Jvm.exec) (hb : c.code = cc) (hts : ∀ w ∈ gT, w.before args s = true) (hown : s.vm.findClass RX12 = some m.cls) (hK : va_K D classes (tysOf tc) s) (hP : va_P D classes ws H) (q0 : Nat) {fs : List Value} {v : Value} (he : ws[q0]? = some (a, .inr (12, fs))) (hv : fs[8]? = some v) (hdg : decode cc pc = .ok (.getfield 87, 3)) (kk : W p l e R s m args below meth c H locs cells slots Q (F0 m (pc + 3) ls (v :: rest))) : W p l e R s m args below meth c H locs cells slots Q (F0 m pc ls (.ref a :: rest)) := va_get (D := D) (ci := 12) (C := RX12) (T := TX12) (N := 36) hx hb hts iX12 hown hK hP q0 he rfl 8 (by decide) (hts _ k_1083) (fun _ h9 => h9) hv hdg kk
theorem pf_X12_87 (hx : p.tables.exec = Jvm.exec) (hb : c.code = cc) (hts : ∀ w ∈ gT, w.before args s = true) (hown : s.vm.findClass RX12 = some m.cls) (hK : va_K D classes (tysOf tc) s) (hP : va_P D classes ws H) (hD : va_D A ws) (hS : va_S A s.heap H locs) (q0 : Nat) {fs : List Value} {v : Value} (he : ws[q0]? = some (a, .inr (12, fs))) (hl : 8 < fs.length) (hn : narrow .int v = v) (hfit : fits .int v = true) (hdg : decode cc pc = .ok (.putfield 87, 3)) (kk : ∀ (H1 : Heap) (locs1 : List Loc), va_P D classes (ws.set q0 (a, .inr (12, fs.set 8 v))) H1 → va_D A (ws.set q0 (a, .inr (12, fs.set 8 v))) → va_S A s.heap H1 locs1 → W p l e R s m args below meth c H1 locs1 cells slots Q (F0 m (pc + 3) ls rest)) : W p l e R s m args below meth c H locs cells slots Q (F0 m pc ls (v :: .ref a :: rest)) := va_put (D := D) (ci := 12) (C := RX12) (T := TX12) (N := 36) (ty := .int) hx hb hts iX12 tyX12 tyX12_ok nmX12 hown hK hP hD hS q0 he rfl 8 (by decide) (hts _ k_1083) (fun _ h9 => h9) rfl (by decide +kernel) hn hfit hl hdg kk
theorem gf_X12_84 (hx : p.tables.exec = Jvm.exec) (hb : c.code = cc) (hts : ∀ w ∈ gT, w.before args s = true) (hown : s.vm.findClass RX12 = some m.cls) (hK : va_K D classes (tysOf tc) s) (hP : va_P D classes ws H) (q0 : Nat) {fs : List Value} {v : Value} (he : ws[q0]? = some (a, .inr (12, fs))) (hv : fs[9]? = some v) (hdg : decode cc pc = .ok (.getfield 84, 3)) (kk : W p l e R s m args below meth c H locs cells slots Q (F0 m (pc + 3) ls (v :: rest))) : W p l e R s m args below meth c H locs cells slots Q (F0 m pc ls (.ref a :: rest)) := va_get (D := D) (ci := 12) (C := RX12) (T := TX12) (N := 36) hx hb hts iX12 hown hK hP q0 he rfl 9 (by decide) (hts _ k_1084) (fun _ h9 => h9) hv hdg kk
theorem pf_X12_84 (hx : p.tables.exec = Jvm.exec) (hb : c.code = cc) (hts : ∀ w ∈ gT, w.before args s = true) (hown : s.vm.findClass RX12 = some m.cls) (hK : va_K D classes (tysOf tc) s) (hP : va_P D classes ws H) (hD : va_D A ws) (hS : va_S A s.heap H locs) (q0 : Nat) {fs : List Value} {v : Value} (he : ws[q0]? = some (a, .inr (12, fs))) (hl : 9 < fs.length) (hn : narrow .int v = v) (hfit : fits .int v = true) (hdg : decode cc pc = .ok (.putfield 84, 3)) (kk : ∀ (H1 : Heap) (locs1 : List Loc), va_P D classes (ws.set q0 (a, .inr (12, fs.set 9 v))) H1 → va_D A (ws.set q0 (a, .inr (12, fs.set 9 v))) → va_S A s.heap H1 locs1 → W p l e R s m args below meth c H1 locs1 cells slots Q (F0 m (pc + 3) ls rest)) : W p l e R s m args below meth c H locs cells slots Q (F0 m pc ls (v :: .ref a :: rest)) := va_put (D := D) (ci := 12) (C := RX12) (T := TX12) (N := 36) (ty := .int) hx hb hts iX12 tyX12 tyX12_ok nmX12 hown hK hP hD hS q0 he rfl 9 (by decide) (hts _ k_1084) (fun _ h9 => h9) rfl (by decide +kernel) hn hfit hl hdg kk
theorem gf_X12_112 (hx : p.tables.exec = Jvm.exec) (hb : c.code = cc) (hts : ∀ w ∈ gT, w.before args s = true) (hown : s.vm.findClass RX12 = some m.cls) (hK : va_K D classes (tysOf tc) s) (hP : va_P D classes ws H) (q0 : Nat) {fs : List Value} {v : Value} (he : ws[q0]? = some (a, .inr (12, fs))) (hv : fs[10]? = some v) (hdg : decode cc pc = .ok (.getfield 112, 3)) (kk : W p l e R s m args below meth c H locs cells slots Q (F0 m (pc + 3) ls (v :: rest))) : W p l e R s m args below meth c H locs cells slots Q (F0 m pc ls (.ref a :: rest)) := va_get (D := D) (ci := 12) (C := RX12) (T := TX12) (N := 36) hx hb hts iX12 hown hK hP q0 he rfl 10 (by decide) (hts _ k_1085) (fun _ h9 => h9) hv hdg kk
theorem pf_X12_112 (hx : p.tables.exec = Jvm.exec) (hb : c.code = cc) (hts : ∀ w ∈ gT, w.before args s = true) (hown : s.vm.findClass RX12 = some m.cls) (hK : va_K D classes (tysOf tc) s) (hP : va_P D classes ws H) (hD : va_D A ws) (hS : va_S A s.heap H locs) (q0 : Nat) {fs : List Value} {v : Value} (he : ws[q0]? = some (a, .inr (12, fs))) (hl : 10 < fs.length) (hn : narrow .int v = v) (hfit : fits .int v = true) (hdg : decode cc pc = .ok (.putfield 112, 3)) (kk : ∀ (H1 : Heap) (locs1 : List Loc), va_P D classes (ws.set q0 (a, .inr (12, fs.set 10 v))) H1 → va_D A (ws.set q0 (a, .inr (12, fs.set 10 v))) → va_S A s.heap H1 locs1 → W p l e R s m args below meth c H1 locs1 cells slots Q (F0 m (pc + 3) ls rest)) : W p l e R s m args below meth c H locs cells slots Q (F0 m pc ls (v :: .ref a :: rest)) := va_put (D := D) (ci := 12) (C := RX12) (T := TX12) (N := 36) (ty := .int) hx hb hts iX12 tyX12 tyX12_ok nmX12 hown hK hP hD hS q0 he rfl 10 (by decide) (hts _ k_1085) (fun _ h9 => h9) rfl (by decide +kernel) hn hfit hl hdg kk
theorem gf_X12_145 (hx : p.tables.exec = Jvm.exec) (hb : c.code = cc) (hts : ∀ w ∈ gT, w.before args s = true) (hown : s.vm.findClass RX12 = some m.cls) (hK : va_K D classes (tysOf tc) s) (hP : va_P D classes ws H) (q0 : Nat) {fs : List Value} {v : Value} (he : ws[q0]? = some (a, .inr (12, fs))) (hv : fs[11]? = some v) (hdg : decode cc pc = .ok (.getfield 145, 3)) (kk : W p l e R s m args below meth c H locs cells slots Q (F0 m (pc + 3) ls (v :: rest))) : W p l e R s m args below meth c H locs cells slots Q (F0 m pc ls (.ref a :: rest)) := va_get (D := D) (ci := 12) (C := RX12) (T := TX12) (N := 36) hx hb hts iX12 hown hK hP q0 he rfl 11 (by decide) (hts _ k_1086) (fun _ h9 => h9) hv hdg kk
theorem pf_X12_145 (hx : p.tables.exec = Jvm.exec) (hb : c.code = cc) (hts : ∀ w ∈ gT, w.before args s = true) (hown : s.vm.findClass RX12 = some m.cls) (hK : va_K D classes (tysOf tc) s) (hP : va_P D classes ws H) (hD : va_D A ws) (hS : va_S A s.heap H locs) (q0 : Nat) {fs : List Value} {v : Value} (he : ws[q0]? = some (a, .inr (12, fs))) (hl : 11 < fs.length) (hn : narrow .int v = v) (hfit : fits .int v = true) (hdg : decode cc pc = .ok (.putfield 145, 3)) (kk : ∀ (H1 : Heap) (locs1 : List Loc), va_P D classes (ws.set q0 (a, .inr (12, fs.set 11 v))) H1 → va_D A (ws.set q0 (a, .inr (12, fs.set 11 v))) → va_S A s.heap H1 locs1 → W p l e R s m args below meth c H1 locs1 cells slots Q (F0 m (pc + 3) ls rest)) : W p l e R s m args below meth c H locs cells slots Q (F0 m pc ls (v :: .ref a :: rest)) := va_put (D := D) (ci := 12) (C := RX12) (T := TX12) (N := 36) (ty := .int) hx hb hts iX12 tyX12 tyX12_ok nmX12 hown hK hP hD hS q0 he rfl 11 (by decide) (hts _ k_1086) (fun _ h9 => h9) rfl (by decide +kernel) hn hfit hl hdg kk
theorem gf_X12_148 (hx : p.tables.exec = Jvm.exec) (hb : c.code = cc) (hts : ∀ w ∈ gT, w.before args s = true) (hown : s.vm.findClass RX12 = some m.cls) (hK : va_K D classes (tysOf tc) s) (hP : va_P D classes ws H) (q0 : Nat) {fs : List Value} {v : Value} (he : ws[q0]? = some (a, .inr (12, fs))) (hv : fs[12]? = some v) (hdg : decode cc pc = .ok (.getfield 148, 3)) (kk : W p l e R s m args below meth c H locs cells slots Q (F0 m (pc + 3) ls (v :: rest))) : W p l e R s m args below meth c H locs cells slots Q (F0 m pc ls (.ref a :: rest)) := va_get (D := D) (ci := 12) (C := RX12) (T := TX12) (N := 36) hx hb hts iX12 hown hK hP q0 he rfl 12 (by decide) (hts _ k_1087) (fun _ h9 => h9) hv hdg kk
theorem pf_X12_148 (hx : p.tables.exec = Jvm.exec) (hb : c.code = cc) (hts : ∀ w ∈ gT, w.before args s = true) (hown : s.vm.findClass RX12 = some m.cls) (hK : va_K D classes (tysOf tc) s) (hP : va_P D classes ws H) (hD : va_D A ws) (hS : va_S A s.heap H locs) (q0 : Nat) {fs : List Value} {v : Value} (he : ws[q0]? = some (a, .inr (12, fs))) (hl : 12 < fs.length) (hn : narrow .int v = v) (hfit : fits .int v = true) (hdg : decode cc pc = .ok (.putfield 148, 3)) (kk : ∀ (H1 : Heap) (locs1 : List Loc), va_P D classes (ws.set q0 (a, .inr (12, fs.set 12 v))) H1 → va_D A (ws.set q0 (a, .inr (12, fs.set 12 v))) → va_S A s.heap H1 locs1 → W p l e R s m args below meth c H1 locs1 cells slots Q (F0 m (pc + 3) ls rest)) : W p l e R s m args below meth c H locs cells slots Q (F0 m pc ls (v :: .ref a :: rest)) := va_put (D := D) (ci := 12) (C := RX12) (T := TX12) (N := 36) (ty := .int) hx hb hts iX12 tyX12 tyX12_ok nmX12 hown hK hP hD hS q0 he rfl 12 (by decide) (hts _ k_1087) (fun _ h9 => h9) rfl (by decide +kernel) hn hfit hl hdg kk
theorem gf_X12_151 (hx : p.tables.exec = Jvm.exec) (hb : c.code = cc) (hts : ∀ w ∈ gT, w.before args s = true) (hown : s.vm.findClass RX12 = some m.cls) (hK : va_K D classes (tysOf tc) s) (hP : va_P D classes ws H) (q0 : Nat) {fs : List Value} {v : Value} (he : ws[q0]? = some (a, .inr (12, fs))) (hv : fs[13]? = some v) (hdg : decode cc pc = .ok (.getfield 151, 3)) (kk : W p l e R s m args below meth c H locs cells slots Q (F0 m (pc + 3) ls (v :: rest))) : W p l e R s m args below meth c H locs cells slots Q (F0 m pc ls (.ref a :: rest)) := va_get (D := D) (ci := 12) (C := RX12) (T := TX12) (N := 36) hx hb hts iX12 hown hK hP q0 he rfl 13 (by decide) (hts _ k_1088) (fun _ h9 => h9) hv hdg kk
theorem pf_X12_151 (hx : p.tables.exec = Jvm.exec) (hb : c.code = cc) (hts : ∀ w ∈ gT, w.before args s = true) (hown : s.vm.findClass RX12 = some m.cls) (hK : va_K D classes (tysOf tc) s) (hP : va_P D classes ws H) (hD : va_D A ws) (hS : va_S A s.heap H locs) (q0 : Nat) {fs : List Value} {v : Value} (he : ws[q0]? = some (a, .inr (12, fs))) (hl : 13 < fs.length) (hn : narrow .int v = v) (hfit : fits .int v = true) (hdg : decode cc pc = .ok (.putfield 151, 3)) (kk : ∀ (H1 : Heap) (locs1 : List Loc), va_P D classes (ws.set q0 (a, .inr (12, fs.set 13 v))) H1 → va_D A (ws.set q0 (a, .inr (12, fs.set 13 v))) → va_S A s.heap H1 locs1 → W p l e R s m args below meth c H1 locs1 cells slots Q (F0 m (pc + 3) ls rest)) : W p l e R s m args below meth c H locs cells slots Q (F0 m pc ls (v :: .ref a :: rest)) := va_put (D := D) (ci := 12) (C := RX12) (T := TX12) (N := 36) (ty := .int) hx hb hts iX12 tyX12 tyX12_ok nmX12 hown hK hP hD hS q0 he rfl 13 (by decide) (hts _ k_1088) (fun _ h9 => h9) rfl (by decide +kernel) hn hfit hl hdg kk
theorem gf_X12_244 (hx : p.tables.exec = Jvm.exec) (hb : c.code = cc) (hts : ∀ w ∈ gT, w.before args s = true) (hown : s.vm.findClass RX12 = some m.cls) (hK : va_K D classes (tysOf tc) s) (hP : va_P D classes ws H) (q0 : Nat) {fs : List Value} {v : Value} (he : ws[q0]? = some (a, .inr (12, fs))) (hv : fs[14]? = some v) (hdg : decode cc pc = .ok (.getfield 244, 3)) (kk : W p l e R s m args below meth c H locs cells slots Q (F0 m (pc + 3) ls (v :: rest))) : W p l e R s m args below meth c H locs cells slots Q (F0 m pc ls (.ref a :: rest)) := va_get (D := D) (ci := 12) (C := RX12) (T := TX12) (N := 36) hx hb hts iX12 hown hK hP q0 he rfl 14 (by decide) (hts _ k_1089) (fun _ h9 => h9) hv hdg kk
theorem pf_X12_244 (hx : p.tables.exec = Jvm.exec) (hb : c.code = cc) (hts : ∀ w ∈ gT, w.before args s = true) (hown : s.vm.findClass RX12 = some m.cls) (hK : va_K D classes (tysOf tc) s) (hP : va_P D classes ws H) (hD : va_D A ws) (hS : va_S A s.heap H locs) (q0 : Nat) {fs : List Value} {v : Value} (he : ws[q0]? = some (a, .inr (12, fs))) (hl : 14 < fs.length) (hn : narrow .int v = v) (hfit : fits .int v = true) (hdg : decode cc pc = .ok (.putfield 244, 3)) (kk : ∀ (H1 : Heap) (locs1 : List Loc), va_P D classes (ws.set q0 (a, .inr (12, fs.set 14 v))) H1 → va_D A (ws.set q0 (a, .inr (12, fs.set 14 v))) → va_S A s.heap H1 locs1 → W p l e R s m args below meth c H1 locs1 cells slots Q (F0 m (pc + 3) ls rest)) : W p l e R s m args below meth c H locs cells slots Q (F0 m pc ls (v :: .ref a :: rest)) := va_put (D := D) (ci := 12) (C := RX12) (T := TX12) (N := 36) (ty := .int) hx hb hts iX12 tyX12 tyX12_ok nmX12 hown hK hP hD hS q0 he rfl 14 (by decide) (hts _ k_1089) (fun _ h9 => h9) rfl (by decide +kernel) hn hfit hl hdg kk
theorem gf_X12_29 (hx : p.tables.exec = Jvm.exec) (hb : c.code = cc) (hts : ∀ w ∈ gT, w.before args s = true) (hown : s.vm.findClass RX12 = some m.cls) (hK : va_K D classes (tysOf tc) s) (hP : va_P D classes ws H) (q0 : Nat) {fs : List Value} {v : Value} (he : ws[q0]? = some (a, .inr (12, fs))) (hv : fs[15]? = some v) (hdg : decode cc pc = .ok (.getfield 29, 3)) (kk : W p l e R s m args below meth c H locs cells slots Q (F0 m (pc + 3) ls (v :: rest))) : W p l e R s m args below meth c H locs cells slots Q (F0 m pc ls (.ref a :: rest)) := va_get (D := D) (ci := 12) (C := RX12) (T := TX12) (N := 36) hx hb hts iX12 hown hK hP q0 he rfl 15 (by decide) (hts _ k_1090) (fun _ h9 => h9) hv hdg kk
theorem pf_X12_29 (hx : p.tables.exec = Jvm.exec) (hb : c.code = cc) (hts : ∀ w ∈ gT, w.before args s = true) (hown : s.vm.findClass RX12 = some m.cls) (hin2 : meth.name = "<init>") (hK : va_K D classes (tysOf tc) s) (hP : va_P D classes ws H) (hD : va_D A ws) (hS : va_S A s.heap H locs) (q0 : Nat) {fs : List Value} {v : Value} {ty : FieldType} (he : ws[q0]? = some (a, .inr (12, fs))) (hl : 15 < fs.length) (hd : parseFieldDescriptor (TX12 15).2.2.1 = some ty) (hn : narrow ty v = v) (hfit : fits ty v = true) (hdg : decode cc pc = .ok (.putfield 29, 3)) (kk : ∀ (H1 : Heap) (locs1 : List Loc), va_P D classes (ws.set q0 (a, .inr (12, fs.set 15 v))) H1 → va_D A (ws.set q0 (a, .inr (12, fs.set 15 v))) → va_S A s.heap H1 locs1 → W p l e R s m args below meth c H1 locs1 cells slots Q (F0 m (pc + 3) ls rest)) : W p l e R s m args below meth c H locs cells slots Q (F0 m pc ls (v :: .ref a :: rest)) := va_putF (D := D) (ci := 12) (C := RX12) (T := TX12) (N := 36) hx hb hts iX12 tyX12 tyX12_ok nmX12 hown hK hP hD hS q0 he rfl 15 (by decide) (hts _ k_1090) (fun _ h9 => h9) rfl hin2 rfl hd hn hfit hl hdg kk
theorem gf_X12_154 (hx : p.tables.exec = Jvm.exec) (hb : c.code = cc) (hts : ∀ w ∈ gT, w.before args s = true) (hown : s.vm.findClass RX12 = some m.cls) (hK : va_K D classes (tysOf tc) s) (hP : va_P D classes ws H) (q0 : Nat) {fs : List Value} {v : Value} (he : ws[q0]? = some (a, .inr (12, fs))) (hv : fs[16]? = some v) (hdg : decode cc pc = .ok (.getfield 154, 3)) (kk : W p l e R s m args below meth c H locs cells slots Q (F0 m (pc + 3) ls (v :: rest))) : W p l e R s m args below meth c H locs cells slots Q (F0 m pc ls (.ref a :: rest)) := va_get (D := D) (ci := 12) (C := RX12) (T := TX12) (N := 36) hx hb hts iX12 hown hK hP q0 he rfl 16 (by decide) (hts _ k_1091) (fun _ h9 => h9) hv hdg kk
theorem pf_X12_154 (hx : p.tables.exec = Jvm.exec) (hb : c.code = cc) (hts : ∀ w ∈ gT, w.before args s = true) (hown : s.vm.findClass RX12 = some m.cls) (hK : va_K D classes (tysOf tc) s) (hP : va_P D classes ws H) (hD : va_D A ws) (hS : va_S A s.heap H locs) (q0 : Nat) {fs : List Value} {v : Value} (he : ws[q0]? = some (a, .inr (12, fs))) (hl : 16 < fs.length) (hn : narrow .int v = v) (hfit : fits .int v = true) (hdg : decode cc pc = .ok (.putfield 154, 3)) (kk : ∀ (H1 : Heap) (locs1 : List Loc), va_P D classes (ws.set q0 (a, .inr (12, fs.set 16 v))) H1 → va_D A (ws.set q0 (a, .inr (12, fs.set 16 v))) → va_S A s.heap H1 locs1 → W p l e R s m args below meth c H1 locs1 cells slots Q (F0 m (pc + 3) ls rest)) : W p l e R s m args below meth c H locs cells slots Q (F0 m pc ls (v :: .ref a :: rest)) := va_put (D := D) (ci := 12) (C := RX12) (T := TX12) (N := 36) (ty := .int) hx hb hts iX12 tyX12 tyX12_ok nmX12 hown hK hP hD hS q0 he rfl 16 (by decide) (hts _ k_1091) (fun _ h9 => h9) rfl (by decide +kernel) hn hfit hl hdg kk
theorem gf_X12_32 (hx : p.tables.exec = Jvm.exec) (hb : c.code = cc) (hts : ∀ w ∈ gT, w.before args s = true) (hown : s.vm.findClass RX12 = some m.cls) (hK : va_K D classes (tysOf tc) s) (hP : va_P D classes ws H) (q0 : Nat) {fs : List Value} {v : Value} (he : ws[q0]? = some (a, .inr (12, fs))) (hv : fs[17]? = some v) (hdg : decode cc pc = .ok (.getfield 32, 3)) (kk : W p l e R s m args below meth c H locs cells slots Q (F0 m (pc + 3) ls (v :: rest))) : W p l e R s m args below meth c H locs cells slots Q (F0 m pc ls (.ref a :: rest)) := va_get (D := D) (ci := 12) (C := RX12) (T := TX12) (N := 36) hx hb hts iX12 hown hK hP q0 he rfl 17 (by decide) (hts _ k_1092) (fun _ h9 => h9) hv hdg kk
theorem pf_X12_32 (hx : p.tables.exec = Jvm.exec) (hb : c.code = cc) (hts : ∀ w ∈ gT, w.before args s = true) (hown : s.vm.findClass RX12 = some m.cls) (hin2 : meth.name = "<init>") (hK : va_K D classes (tysOf tc) s) (hP : va_P D classes ws H) (hD : va_D A ws) (hS : va_S A s.heap H locs) (q0 : Nat) {fs : List Value} {v : Value} {ty : FieldType} (he : ws[q0]? = some (a, .inr (12, fs))) (hl : 17 < fs.length) (hd : parseFieldDescriptor (TX12 17).2.2.1 = some ty) (hn : narrow ty v = v) (hfit : fits ty v = true) (hdg : decode cc pc = .ok (.putfield 32, 3)) (kk : ∀ (H1 : Heap) (locs1 : List Loc), va_P D classes (ws.set q0 (a, .inr (12, fs.set 17 v))) H1 → va_D A (ws.set q0 (a, .inr (12, fs.set 17 v))) → va_S A s.heap H1 locs1 → W p l e R s m args below meth c H1 locs1 cells slots Q (F0 m (pc + 3) ls rest)) : W p l e R s m args below meth c H locs cells slots Q (F0 m pc ls (v :: .ref a :: rest)) := va_putF (D := D) (ci := 12) (C := RX12) (T := TX12) (N := 36) hx hb hts iX12 tyX12 tyX12_ok nmX12 hown hK hP hD hS q0 he rfl 17 (by decide) (hts _ k_1092) (fun _ h9 => h9) rfl hin2 rfl hd hn hfit hl hdg kk
theorem gf_X12_268 (hx : p.tables.exec = Jvm.exec) (hb : c.code = cc) (hts : ∀ w ∈ gT, w.before args s = true) (hown : s.vm.findClass RX12 = some m.cls) (hK : va_K D classes (tysOf tc) s) (hP : va_P D classes ws H) (q0 : Nat) {fs : List Value} {v : Value} (he : ws[q0]? = some (a, .inr (12, fs))) (hv : fs[18]? = some v) (hdg : decode cc pc = .ok (.getfield 268, 3)) (kk : W p l e R s m args below meth c H locs cells slots Q (F0 m (pc + 3) ls (v :: rest))) : W p l e R s m args below meth c H locs cells slots Q (F0 m pc ls (.ref a :: rest)) := va_get (D := D) (ci := 12) (C := RX12) (T := TX12) (N := 36) hx hb hts iX12 hown hK hP q0 he rfl 18 (by decide) (hts _ k_1093) (fun _ h9 => h9) hv hdg kk
theorem pf_X12_268 (hx : p.tables.exec = Jvm.exec) (hb : c.code = cc) (hts : ∀ w ∈ gT, w.before args s = true) (hown : s.vm.findClass RX12 = some m.cls) (hK : va_K D classes (tysOf tc) s) (hP : va_P D classes ws H) (hD : va_D A ws) (hS : va_S A s.heap H locs) (q0 : Nat) {fs : List Value} {v : Value} (he : ws[q0]? = some (a, .inr (12, fs))) (hl : 18 < fs.length) (hn : narrow .int v = v) (hfit : fits .int v = true) (hdg : decode cc pc = .ok (.putfield 268, 3)) (kk : ∀ (H1 : Heap) (locs1 : List Loc), va_P D classes (ws.set q0 (a, .inr (12, fs.set 18 v))) H1 → va_D A (ws.set q0 (a, .inr (12, fs.set 18 v))) → va_S A s.heap H1 locs1 → W p l e R s m args below meth c H1 locs1 cells slots Q (F0 m (pc + 3) ls rest)) : W p l e R s m args below meth c H locs cells slots Q (F0 m pc ls (v :: .ref a :: rest)) := va_put (D := D) (ci := 12) (C := RX12) (T := TX12) (N := 36) (ty := .int) hx hb hts iX12 tyX12 tyX12_ok nmX12 hown hK hP hD hS q0 he rfl 18 (by decide) (hts _ k_1093) (fun _ h9 => h9) rfl (by decide +kernel) hn hfit hl hdg kk
theorem gf_X12_36 (hx : p.tables.exec = Jvm.exec) (hb : c.code = cc) (hts : ∀ w ∈ gT, w.before args s = true) (hown : s.vm.findClass RX12 = some m.cls) (hK : va_K D classes (tysOf tc) s) (hP : va_P D classes ws H) (q0 : Nat) {fs : List Value} {v : Value} (he : ws[q0]? = some (a, .inr (12, fs))) (hv : fs[19]? = some v) (hdg : decode cc pc = .ok (.getfield 36, 3)) (kk : W p l e R s m args below meth c H locs cells slots Q (F0 m (pc + 3) ls (v :: rest))) : W p l e R s m args below meth c H locs cells slots Q (F0 m pc ls (.ref a :: rest)) := va_get (D := D) (ci := 12) (C := RX12) (T := TX12) (N := 36) hx hb hts iX12 hown hK hP q0 he rfl 19 (by decide) (hts _ k_1094) (fun _ h9 => h9) hv hdg kk
theorem pf_X12_36 (hx : p.tables.exec = Jvm.exec) (hb : c.code = cc) (hts : ∀ w ∈ gT, w.before args s = true) (hown : s.vm.findClass RX12 = some m.cls) (hin2 : meth.name = "<init>") (hK : va_K D classes (tysOf tc) s) (hP : va_P D classes ws H) (hD : va_D A ws) (hS : va_S A s.heap H locs) (q0 : Nat) {fs : List Value} {v : Value} {ty : FieldType} (he : ws[q0]? = some (a, .inr (12, fs))) (hl : 19 < fs.length) (hd : parseFieldDescriptor (TX12 19).2.2.1 = some ty) (hn : narrow ty v = v) (hfit : fits ty v = true) (hdg : decode cc pc = .ok (.putfield 36, 3)) (kk : ∀ (H1 : Heap) (locs1 : List Loc), va_P D classes (ws.set q0 (a, .inr (12, fs.set 19 v))) H1 → va_D A (ws.set q0 (a, .inr (12, fs.set 19 v))) → va_S A s.heap H1 locs1 → W p l e R s m args below meth c H1 locs1 cells slots Q (F0 m (pc + 3) ls rest)) : W p l e R s m args below meth c H locs cells slots Q (F0 m pc ls (v :: .ref a :: rest)) := va_putF (D := D) (ci := 12) (C := RX12) (T := TX12) (N := 36) hx hb hts iX12 tyX12 tyX12_ok nmX12 hown hK hP hD hS q0 he rfl 19 (by decide) (hts _ k_1094) (fun _ h9 => h9) rfl hin2 rfl hd hn hfit hl hdg kk
theorem gf_X12_39 (hx : p.tables.exec = Jvm.exec) (hb : c.code = cc) (hts : ∀ w ∈ gT, w.before args s = true) (hown : s.vm.findClass RX12 = some m.cls) (hK : va_K D classes (tysOf tc) s) (hP : va_P D classes ws H) (q0 : Nat) {fs : List Value} {v : Value} (he : ws[q0]? = some (a, .inr (12, fs))) (hv : fs[20]? = some v) (hdg : decode cc pc = .ok (.getfield 39, 3)) (kk : W p l e R s m args below meth c H locs cells slots Q (F0 m (pc + 3) ls (v :: rest))) : W p l e R s m args below meth c H locs cells slots Q (F0 m pc ls (.ref a :: rest)) := va_get (D := D) (ci := 12) (C := RX12) (T := TX12) (N := 36) hx hb hts iX12 hown hK hP q0 he rfl 20 (by decide) (hts _ k_1095) (fun _ h9 => h9) hv hdg kk
theorem pf_X12_39 (hx : p.tables.exec = Jvm.exec) (hb : c.code = cc) (hts : ∀ w ∈ gT, w.before args s = true) (hown : s.vm.findClass RX12 = some m.cls) (hin2 : meth.name = "<init>") (hK : va_K D classes (tysOf tc) s) (hP : va_P D classes ws H) (hD : va_D A ws) (hS : va_S A s.heap H locs) (q0 : Nat) {fs : List Value} {v : Value} {ty : FieldType} (he : ws[q0]? = some (a, .inr (12, fs))) (hl : 20 < fs.length) (hd : parseFieldDescriptor (TX12 20).2.2.1 = some ty) (hn : narrow ty v = v) (hfit : fits ty v = true) (hdg : decode cc pc = .ok (.putfield 39, 3)) (kk : ∀ (H1 : Heap) (locs1 : List Loc), va_P D classes (ws.set q0 (a, .inr (12, fs.set 20 v))) H1 → va_D A (ws.set q0 (a, .inr (12, fs.set 20 v))) → va_S A s.heap H1 locs1 → W p l e R s m args below meth c H1 locs1 cells slots Q (F0 m (pc + 3) ls rest)) : W p l e R s m args below meth c H locs cells slots Q (F0 m pc ls (v :: .ref a :: rest)) := va_putF (D := D) (ci := 12) (C := RX12) (T := TX12) (N := 36) hx hb hts iX12 tyX12 tyX12_ok nmX12 hown hK hP hD hS q0 he rfl 20 (by decide) (hts _ k_1095) (fun _ h9 => h9) rfl hin2 rfl hd hn hfit hl hdg kk
theorem gf_X12_42 (hx : p.tables.exec = Jvm.exec) (hb : c.code = cc) (hts : ∀ w ∈ gT, w.before args s = true) (hown : s.vm.findClass RX12 = some m.cls) (hK : va_K D classes (tysOf tc) s) (hP : va_P D classes ws H) (q0 : Nat) {fs : List Value} {v : Value} (he : ws[q0]? = some (a, .inr (12, fs))) (hv : fs[21]? = some v) (hdg : decode cc pc = .ok (.getfield 42, 3)) (kk : W p l e R s m args below meth c H locs cells slots Q (F0 m (pc + 3) ls (v :: rest))) : W p l e R s m args below meth c H locs cells slots Q (F0 m pc ls (.ref a :: rest)) := va_get (D := D) (ci := 12) (C := RX12) (T := TX12) (N := 36) hx hb hts iX12 hown hK hP q0 he rfl 21 (by decide) (hts _ k_1096) (fun _ h9 => h9) hv hdg kk
theorem pf_X12_42 (hx : p.tables.exec = Jvm.exec) (hb : c.code = cc) (hts : ∀ w ∈ gT, w.before args s = true) (hown : s.vm.findClass RX12 = some m.cls) (hK : va_K D classes (tysOf tc) s) (hP : va_P D classes ws H) (hD : va_D A ws) (hS : va_S A s.heap H locs) (q0 : Nat) {fs : List Value} {v : Value} (he : ws[q0]? = some (a, .inr (12, fs))) (hl : 21 < fs.length) (hn : narrow .int v = v) (hfit : fits .int v = true) (hdg : decode cc pc = .ok (.putfield 42, 3)) (kk : ∀ (H1 : Heap) (locs1 : List Loc), va_P D classes (ws.set q0 (a, .inr (12, fs.set 21 v))) H1 → va_D A (ws.set q0 (a, .inr (12, fs.set 21 v))) → va_S A s.heap H1 locs1 → W p l e R s m args below meth c H1 locs1 cells slots Q (F0 m (pc + 3) ls rest)) : W p l e R s m args below meth c H locs cells slots Q (F0 m pc ls (v :: .ref a :: rest)) := va_put (D := D) (ci := 12) (C := RX12) (T := TX12) (N := 36) (ty := .int) hx hb hts iX12 tyX12 tyX12_ok nmX12 hown hK hP hD hS q0 he rfl 21 (by decide) (hts _ k_1096) (fun _ h9 => h9) rfl (by decide +kernel) hn hfit hl hdg kk
theorem gf_X12_414 (hx : p.tables.exec = Jvm.exec) (hb : c.code = cc) (hts : ∀ w ∈ gT, w.before args s = true) (hown : s.vm.findClass RX12 = some m.cls) (hK : va_K D classes (tysOf tc) s) (hP : va_P D classes ws H) (q0 : Nat) {fs : List Value} {v : Value} (he : ws[q0]? = some (a, .inr (12, fs))) (hv : fs[22]? = some v) (hdg : decode cc pc = .ok (.getfield 414, 3)) (kk : W p l e R s m args below meth c H locs cells slots Q (F0 m (pc + 3) ls (v :: rest))) : W p l e R s m args below meth c H locs cells slots Q (F0 m pc ls (.ref a :: rest)) := va_get (D := D) (ci := 12) (C := RX12) (T := TX12) (N := 36) hx hb hts iX12 hown hK hP q0 he rfl 22 (by decide) (hts _ k_1097) (fun _ h9 => h9) hv hdg kk
theorem pf_X12_414 (hx : p.tables.exec = Jvm.exec) (hb : c.code = cc) (hts : ∀ w ∈ gT, w.before args s = true) (hown : s.vm.findClass RX12 = some m.cls) (hK : va_K D classes (tysOf tc) s) (hP : va_P D classes ws H) (hD : va_D A ws) (hS : va_S A s.heap H locs) (q0 : Nat) {fs : List Value} {v : Value} (he : ws[q0]? = some (a, .inr (12, fs))) (hl : 22 < fs.length) (hn : narrow .int v = v) (hfit : fits .int v = true) (hdg : decode cc pc = .ok (.putfield 414, 3)) (kk : ∀ (H1 : Heap) (locs1 : List Loc), va_P D classes (ws.set q0 (a, .inr (12, fs.set 22 v))) H1 → va_D A (ws.set q0 (a, .inr (12, fs.set 22 v))) → va_S A s.heap H1 locs1 → W p l e R s m args below meth c H1 locs1 cells slots Q (F0 m (pc + 3) ls rest)) : W p l e R s m args below meth c H locs cells slots Q (F0 m pc ls (v :: .ref a :: rest)) := va_put (D := D) (ci := 12) (C := RX12) (T := TX12) (N := 36) (ty := .int) hx hb hts iX12 tyX12 tyX12_ok nmX12 hown hK hP hD hS q0 he rfl 22 (by decide) (hts _ k_1097) (fun _ h9 => h9) rfl (by decide +kernel) hn hfit hl hdg kk
theorem gf_X12_324 (hx : p.tables.exec = Jvm.exec) (hb : c.code = cc) (hts : ∀ w ∈ gT, w.before args s = true) (hown : s.vm.findClass RX12 = some m.cls) (hK : va_K D classes (tysOf tc) s) (hP : va_P D classes ws H) (q0 : Nat) {fs : List Value} {v : Value} (he : ws[q0]? = some (a, .inr (12, fs))) (hv : fs[23]? = some v) (hdg : decode cc pc = .ok (.getfield 324, 3)) (kk : W p l e R s m args below meth c H locs cells slots Q (F0 m (pc + 3) ls (v :: rest))) : W p l e R s m args below meth c H locs cells slots Q (F0 m pc ls (.ref a :: rest)) := va_get (D := D) (ci := 12) (C := RX12) (T := TX12) (N := 36) hx hb hts iX12 hown hK hP q0 he rfl 23 (by decide) (hts _ k_1098) (fun _ h9 => h9) hv hdg kk
theorem pf_X12_324 (hx : p.tables.exec = Jvm.exec) (hb : c.code = cc) (hts : ∀ w ∈ gT, w.before args s = true) (hown : s.vm.findClass RX12 = some m.cls) (hK : va_K D classes (tysOf tc) s) (hP : va_P D classes ws H) (hD : va_D A ws) (hS : va_S A s.heap H locs) (q0 : Nat) {fs : List Value} {v : Value} (he : ws[q0]? = some (a, .inr (12, fs))) (hl : 23 < fs.length) (hn : narrow .int v = v) (hfit : fits .int v = true) (hdg : decode cc pc = .ok (.putfield 324, 3)) (kk : ∀ (H1 : Heap) (locs1 : List Loc), va_P D classes (ws.set q0 (a, .inr (12, fs.set 23 v))) H1 → va_D A (ws.set q0 (a, .inr (12, fs.set 23 v))) → va_S A s.heap H1 locs1 → W p l e R s m args below meth c H1 locs1 cells slots Q (F0 m (pc + 3) ls rest)) : W p l e R s m args below meth c H locs cells slots Q (F0 m pc ls (v :: .ref a :: rest)) := va_put (D := D) (ci := 12) (C := RX12) (T := TX12) (N := 36) (ty := .int) hx hb hts iX12 tyX12 tyX12_ok nmX12 hown hK hP hD hS q0 he rfl 23 (by decide) (hts _ k_1098) (fun _ h9 => h9) rfl (by decide +kernel) hn hfit hl hdg kk
theorem gf_X12_46 (hx : p.tables.exec = Jvm.exec) (hb : c.code = cc) (hts : ∀ w ∈ gT, w.before args s = true) (hown : s.vm.findClass RX12 = some m.cls) (hK : va_K D classes (tysOf tc) s) (hP : va_P D classes ws H) (q0 : Nat) {fs : List Value} {v : Value} (he : ws[q0]? = some (a, .inr (12, fs))) (hv : fs[24]? = some v) (hdg : decode cc pc = .ok (.getfield 46, 3)) (kk : W p l e R s m args below meth c H locs cells slots Q (F0 m (pc + 3) ls (v :: rest))) : W p l e R s m args below meth c H locs cells slots Q (F0 m pc ls (.ref a :: rest)) := va_get (D := D) (ci := 12) (C := RX12) (T := TX12) (N := 36) hx hb hts iX12 hown hK hP q0 he rfl 24 (by decide) (hts _ k_1099) (fun _ h9 => h9) hv hdg kk
theorem pf_X12_46 (hx : p.tables.exec = Jvm.exec) (hb : c.code = cc) (hts : ∀ w ∈ gT, w.before args s = true) (hown : s.vm.findClass RX12 = some m.cls) (hin2 : meth.name = "<init>") (hK : va_K D classes (tysOf tc) s) (hP : va_P D classes ws H) (hD : va_D A ws) (hS : va_S A s.heap H locs) (q0 : Nat) {fs : List Value} {v : Value} {ty : FieldType} (he : ws[q0]? = some (a, .inr (12, fs))) (hl : 24 < fs.length) (hd : parseFieldDescriptor (TX12 24).2.2.1 = some ty) (hn : narrow ty v = v) (hfit : fits ty v = true) (hdg : decode cc pc = .ok (.putfield 46, 3)) (kk : ∀ (H1 : Heap) (locs1 : List Loc), va_P D classes (ws.set q0 (a, .inr (12, fs.set 24 v))) H1 → va_D A (ws.set q0 (a, .inr (12, fs.set 24 v))) → va_S A s.heap H1 locs1 → W p l e R s m args below meth c H1 locs1 cells slots Q (F0 m (pc + 3) ls rest)) : W p l e R s m args below meth c H locs cells slots Q (F0 m pc ls (v :: .ref a :: rest)) := va_putF (D := D) (ci := 12) (C := RX12) (T := TX12) (N := 36) hx hb hts iX12 tyX12 tyX12_ok nmX12 hown hK hP hD hS q0 he rfl 24 (by decide) (hts _ k_1099) (fun _ h9 => h9) rfl hin2 rfl hd hn hfit hl hdg kk
theorem gf_X12_265 (hx : p.tables.exec = Jvm.exec) (hb : c.code = cc) (hts : ∀ w ∈ gT, w.before args s = true) (hown : s.vm.findClass RX12 = some m.cls) (hK : va_K D classes (tysOf tc) s) (hP : va_P D classes ws H) (q0 : Nat) {fs : List Value} {v : Value} (he : ws[q0]? = some (a, .inr (12, fs))) (hv : fs[25]? = some v) (hdg : decode cc pc = .ok (.getfield 265, 3)) (kk : W p l e R s m args below meth c H locs cells slots Q (F0 m (pc + 3) ls (v :: rest))) : W p l e R s m args below meth c H locs cells slots Q (F0 m pc ls (.ref a :: rest)) := va_get (D := D) (ci := 12) (C := RX12) (T := TX12) (N := 36) hx hb hts iX12 hown hK hP q0 he rfl 25 (by decide) (hts _ k_1100) (fun _ h9 => h9) hv hdg kk
theorem pf_X12_265 (hx : p.tables.exec = Jvm.exec) (hb : c.code = cc) (hts : ∀ w ∈ gT, w.before args s = true) (hown : s.vm.findClass RX12 = some m.cls) (hK : va_K D classes (tysOf tc) s) (hP : va_P D classes ws H) (hD : va_D A ws) (hS : va_S A s.heap H locs) (q0 : Nat) {fs : List Value} {v : Value} (he : ws[q0]? = some (a, .inr (12, fs))) (hl : 25 < fs.length) (hn : narrow .int v = v) (hfit : fits .int v = true) (hdg : decode cc pc = .ok (.putfield 265, 3)) (kk : ∀ (H1 : Heap) (locs1 : List Loc), va_P D classes (ws.set q0 (a, .inr (12, fs.set 25 v))) H1 → va_D A (ws.set q0 (a, .inr (12, fs.set 25 v))) → va_S A s.heap H1 locs1 → W p l e R s m args below meth c H1 locs1 cells slots Q (F0 m (pc + 3) ls rest)) : W p l e R s m args below meth c H locs cells slots Q (F0 m pc ls (v :: .ref a :: rest)) := va_put (D := D) (ci := 12) (C := RX12) (T := TX12) (N := 36) (ty := .int) hx hb hts iX12 tyX12 tyX12_ok nmX12 hown hK hP hD hS q0 he rfl 25 (by decide) (hts _ k_1100) (fun _ h9 => h9) rfl (by decide +kernel) hn hfit hl hdg kk
theorem gf_X12_49 (hx : p.tables.exec = Jvm.exec) (hb : c.code = cc) (hts : ∀ w ∈ gT, w.before args s = true) (hown : s.vm.findClass RX12 = some m.cls) (hK : va_K D classes (tysOf tc) s) (hP : va_P D classes ws H) (q0 : Nat) {fs : List Value} {v : Value} (he : ws[q0]? = some (a, .inr (12, fs))) (hv : fs[26]? = some v) (hdg : decode cc pc = .ok (.getfield 49, 3)) (kk : W p l e R s m args below meth c H locs cells slots Q (F0 m (pc + 3) ls (v :: rest))) : W p l e R s m args below meth c H locs cells slots Q (F0 m pc ls (.ref a :: rest)) := va_get (D := D) (ci := 12) (C := RX12) (T := TX12) (N := 36) hx hb hts iX12 hown hK hP q0 he rfl 26 (by decide) (hts _ k_1101) (fun _ h9 => h9) hv hdg kk
theorem pf_X12_49 (hx : p.tables.exec = Jvm.exec) (hb : c.code = cc) (hts : ∀ w ∈ gT, w.before args s = true) (hown : s.vm.findClass RX12 = some m.cls) (hin2 : meth.name = "<init>") (hK : va_K D classes (tysOf tc) s) (hP : va_P D classes ws H) (hD : va_D A ws) (hS : va_S A s.heap H locs) (q0 : Nat) {fs : List Value} {v : Value} {ty : FieldType} (he : ws[q0]? = some (a, .inr (12, fs))) (hl : 26 < fs.length) (hd : parseFieldDescriptor (TX12 26).2.2.1 = some ty) (hn : narrow ty v = v) (hfit : fits ty v = true) (hdg : decode cc pc = .ok (.putfield 49, 3)) (kk : ∀ (H1 : Heap) (locs1 : List Loc), va_P D classes (ws.set q0 (a, .inr (12, fs.set 26 v))) H1 → va_D A (ws.set q0 (a, .inr (12, fs.set 26 v))) → va_S A s.heap H1 locs1 → W p l e R s m args below meth c H1 locs1 cells slots Q (F0 m (pc + 3) ls rest)) : W p l e R s m args below meth c H locs cells slots Q (F0 m pc ls (v :: .ref a :: rest)) := va_putF (D := D) (ci := 12) (C := RX12) (T := TX12) (N := 36) hx hb hts iX12 tyX12 tyX12_ok nmX12 hown hK hP hD hS q0 he rfl 26 (by decide) (hts _ k_1101) (fun _ h9 => h9) rfl hin2 rfl hd hn hfit hl hdg kk
theorem gf_X12_52 (hx : p.tables.exec = Jvm.exec) (hb : c.code = cc) (hts : ∀ w ∈ gT, w.before args s = true) (hown : s.vm.findClass RX12 = some m.cls) (hK : va_K D classes (tysOf tc) s) (hP : va_P D classes ws H) (q0 : Nat) {fs : List Value} {v : Value} (he : ws[q0]? = some (a, .inr (12, fs))) (hv : fs[27]? = some v) (hdg : decode cc pc = .ok (.getfield 52, 3)) (kk : W p l e R s m args below meth c H locs cells slots Q (F0 m (pc + 3) ls (v :: rest))) : W p l e R s m args below meth c H locs cells slots Q (F0 m pc ls (.ref a :: rest)) := va_get (D := D) (ci := 12) (C := RX12) (T := TX12) (N := 36) hx hb hts iX12 hown hK hP q0 he rfl 27 (by decide) (hts _ k_1102) (fun _ h9 => h9) hv hdg kk
theorem pf_X12_52 (hx : p.tables.exec = Jvm.exec) (hb : c.code = cc) (hts : ∀ w ∈ gT, w.before args s = true) (hown : s.vm.findClass RX12 = some m.cls) (hin2 : meth.name = "<init>") (hK : va_K D classes (tysOf tc) s) (hP : va_P D classes ws H) (hD : va_D A ws) (hS : va_S A s.heap H locs) (q0 : Nat) {fs : List Value} {v : Value} {ty : FieldType} (he : ws[q0]? = some (a, .inr (12, fs))) (hl : 27 < fs.length) (hd : parseFieldDescriptor (TX12 27).2.2.1 = some ty) (hn : narrow ty v = v) (hfit : fits ty v = true) (hdg : decode cc pc = .ok (.putfield 52, 3)) (kk : ∀ (H1 : Heap) (locs1 : List Loc), va_P D classes (ws.set q0 (a, .inr (12, fs.set 27 v))) H1 → va_D A (ws.set q0 (a, .inr (12, fs.set 27 v))) → va_S A s.heap H1 locs1 → W p l e R s m args below meth c H1 locs1 cells slots Q (F0 m (pc + 3) ls rest)) : W p l e R s m args below meth c H locs cells slots Q (F0 m pc ls (v :: .ref a :: rest)) := va_putF (D := D) (ci := 12) (C := RX12) (T := TX12) (N := 36) hx hb hts iX12 tyX12 tyX12_ok nmX12 hown hK hP hD hS q0 he rfl 27 (by decide) (hts _ k_1102) (fun _ h9 => h9) rfl hin2 rfl hd hn hfit hl hdg kk
theorem gf_X12_55 (hx : p.tables.exec = Jvm.exec) (hb : c.code = cc) (hts : ∀ w ∈ gT, w.before args s = true) (hown : s.vm.findClass RX12 = some m.cls) (hK : va_K D classes (tysOf tc) s) (hP : va_P D classes ws H) (q0 : Nat) {fs : List Value} {v : Value} (he : ws[q0]? = some (a, .inr (12, fs))) (hv : fs[28]? = some v) (hdg : decode cc pc = .ok (.getfield 55, 3)) (kk : W p l e R s m args below meth c H locs cells slots Q (F0 m (pc + 3) ls (v :: rest))) : W p l e R s m args below meth c H locs cells slots Q (F0 m pc ls (.ref a :: rest)) := va_get (D := D) (ci := 12) (C := RX12) (T := TX12) (N := 36) hx hb hts iX12 hown hK hP q0 he rfl 28 (by decide) (hts _ k_1103) (fun _ h9 => h9) hv hdg kk
theorem pf_X12_55 (hx : p.tables.exec = Jvm.exec) (hb : c.code = cc) (hts : ∀ w ∈ gT, w.before args s = true) (hown : s.vm.findClass RX12 = some m.cls) (hin2 : meth.name = "<init>") (hK : va_K D classes (tysOf tc) s) (hP : va_P D classes ws H) (hD : va_D A ws) (hS : va_S A s.heap H locs) (q0 : Nat) {fs : List Value} {v : Value} {ty : FieldType} (he : ws[q0]? = some (a, .inr (12, fs))) (hl : 28 < fs.length) (hd : parseFieldDescriptor (TX12 28).2.2.1 = some ty) (hn : narrow ty v = v) (hfit : fits ty v = true) (hdg : decode cc pc = .ok (.putfield 55, 3)) (kk : ∀ (H1 : Heap) (locs1 : List Loc), va_P D classes (ws.set q0 (a, .inr (12, fs.set 28 v))) H1 → va_D A (ws.set q0 (a, .inr (12, fs.set 28 v))) → va_S A s.heap H1 locs1 → W p l e R s m args below meth c H1 locs1 cells slots Q (F0 m (pc + 3) ls rest)) : W p l e R s m args below meth c H locs cells slots Q (F0 m pc ls (v :: .ref a :: rest)) := va_putF (D := D) (ci := 12) (C := RX12) (T := TX12) (N := 36) hx hb hts iX12 tyX12 tyX12_ok nmX12 hown hK hP hD hS q0 he rfl 28 (by decide) (hts _ k_1103) (fun _ h9 => h9) rfl hin2 rfl hd hn hfit hl hdg kk
theorem gf_X12_58 (hx : p.tables.exec = Jvm.exec) (hb : c.code = cc) (hts : ∀ w ∈ gT, w.before args s = true) (hown : s.vm.findClass RX12 = some m.cls) (hK : va_K D classes (tysOf tc) s) (hP : va_P D classes ws H) (q0 : Nat) {fs : List Value} {v : Value} (he : ws[q0]? = some (a, .inr (12, fs))) (hv : fs[29]? = some v) (hdg : decode cc pc = .ok (.getfield 58, 3)) (kk : W p l e R s m args below meth c H locs cells slots Q (F0 m (pc + 3) ls (v :: rest))) : W p l e R s m args below meth c H locs cells slots Q (F0 m pc ls (.ref a :: rest)) := va_get (D := D) (ci := 12) (C := RX12) (T := TX12) (N := 36) hx hb hts iX12 hown hK hP q0 he rfl 29 (by decide) (hts _ k_1104) (fun _ h9 => h9) hv hdg kk
theorem pf_X12_58 (hx : p.tables.exec = Jvm.exec) (hb : c.code = cc) (hts : ∀ w ∈ gT, w.before args s = true) (hown : s.vm.findClass RX12 = some m.cls) (hin2 : meth.name = "<init>") (hK : va_K D classes (tysOf tc) s) (hP : va_P D classes ws H) (hD : va_D A ws) (hS : va_S A s.heap H locs) (q0 : Nat) {fs : List Value} {v : Value} {ty : FieldType} (he : ws[q0]? = some (a, .inr (12, fs))) (hl : 29 < fs.length) (hd : parseFieldDescriptor (TX12 29).2.2.1 = some ty) (hn : narrow ty v = v) (hfit : fits ty v = true) (hdg : decode cc pc = .ok (.putfield 58, 3)) (kk : ∀ (H1 : Heap) (locs1 : List Loc), va_P D classes (ws.set q0 (a, .inr (12, fs.set 29 v))) H1 → va_D A (ws.set q0 (a, .inr (12, fs.set 29 v))) → va_S A s.heap H1 locs1 → W p l e R s m args below meth c H1 locs1 cells slots Q (F0 m (pc + 3) ls rest)) : W p l e R s m args below meth c H locs cells slots Q (F0 m pc ls (v :: .ref a :: rest)) := va_putF (D := D) (ci := 12) (C := RX12) (T := TX12) (N := 36) hx hb hts iX12 tyX12 tyX12_ok nmX12 hown hK hP hD hS q0 he rfl 29 (by decide) (hts _ k_1104) (fun _ h9 => h9) rfl hin2 rfl hd hn hfit hl hdg kk
theorem gf_X12_62 (hx : p.tables.exec = Jvm.exec) (hb : c.code = cc) (hts : ∀ w ∈ gT, w.before args s = true) (hown : s.vm.findClass RX12 = some m.cls) (hK : va_K D classes (tysOf tc) s) (hP : va_P D classes ws H) (q0 : Nat) {fs : List Value} {v : Value} (he : ws[q0]? = some (a, .inr (12, fs))) (hv : fs[30]? = some v) (hdg : decode cc pc = .ok (.getfield 62, 3)) (kk : W p l e R s m args below meth c H locs cells slots Q (F0 m (pc + 3) ls (v :: rest))) : W p l e R s m args below meth c H locs cells slots Q (F0 m pc ls (.ref a :: rest)) := va_get (D := D) (ci := 12) (C := RX12) (T := TX12) (N := 36) hx hb hts iX12 hown hK hP q0 he rfl 30 (by decide) (hts _ k_1105) (fun _ h9 => h9) hv hdg kk
theorem pf_X12_62 (hx : p.tables.exec = Jvm.exec) (hb : c.code = cc) (hts : ∀ w ∈ gT, w.before args s = true) (hown : s.vm.findClass RX12 = some m.cls) (hin2 : meth.name = "<init>") (hK : va_K D classes (tysOf tc) s) (hP : va_P D classes ws H) (hD : va_D A ws) (hS : va_S A s.heap H locs) (q0 : Nat) {fs : List Value} {v : Value} {ty : FieldType} (he : ws[q0]? = some (a, .inr (12, fs))) (hl : 30 < fs.length) (hd : parseFieldDescriptor (TX12 30).2.2.1 = some ty) (hn : narrow ty v = v) (hfit : fits ty v = true) (hdg : decode cc pc = .ok (.putfield 62, 3)) (kk : ∀ (H1 : Heap) (locs1 : List Loc), va_P D classes (ws.set q0 (a, .inr (12, fs.set 30 v))) H1 → va_D A (ws.set q0 (a, .inr (12, fs.set 30 v))) → va_S A s.heap H1 locs1 → W p l e R s m args below meth c H1 locs1 cells slots Q (F0 m (pc + 3) ls rest)) : W p l e R s m args below meth c H locs cells slots Q (F0 m pc ls (v :: .ref a :: rest)) := va_putF (D := D) (ci := 12) (C := RX12) (T := TX12) (N := 36) hx hb hts iX12 tyX12 tyX12_ok nmX12 hown hK hP hD hS q0 he rfl 30 (by decide) (hts _ k_1105) (fun _ h9 => h9) rfl hin2 rfl hd hn hfit hl hdg kk
theorem gf_X12_417 (hx : p.tables.exec = Jvm.exec) (hb : c.code = cc) (hts : ∀ w ∈ gT, w.before args s = true) (hown : s.vm.findClass RX12 = some m.cls) (hK : va_K D classes (tysOf tc) s) (hP : va_P D classes ws H) (q0 : Nat) {fs : List Value} {v : Value} (he : ws[q0]? = some (a, .inr (12, fs))) (hv : fs[31]? = some v) (hdg : decode cc pc = .ok (.getfield 417, 3)) (kk : W p l e R s m args below meth c H locs cells slots Q (F0 m (pc + 3) ls (v :: rest))) : W p l e R s m args below meth c H locs cells slots Q (F0 m pc ls (.ref a :: rest)) := va_get (D := D) (ci := 12) (C := RX12) (T := TX12) (N := 36) hx hb hts iX12 hown hK hP q0 he rfl 31 (by decide) (hts _ k_1106) (fun _ h9 => h9) hv hdg kk
theorem pf_X12_417 (hx : p.tables.exec = Jvm.exec) (hb : c.code = cc) (hts : ∀ w ∈ gT, w.before args s = true) (hown : s.vm.findClass RX12 = some m.cls) (hK : va_K D classes (tysOf tc) s) (hP : va_P D classes ws H) (hD : va_D A ws) (hS : va_S A s.heap H locs) (q0 : Nat) {fs : List Value} {v : Value} (he : ws[q0]? = some (a, .inr (12, fs))) (hl : 31 < fs.length) (hn : narrow .long v = v) (hfit : fits .long v = true) (hdg : decode cc pc = .ok (.putfield 417, 3)) (kk : ∀ (H1 : Heap) (locs1 : List Loc), va_P D classes (ws.set q0 (a, .inr (12, fs.set 31 v))) H1 → va_D A (ws.set q0 (a, .inr (12, fs.set 31 v))) → va_S A s.heap H1 locs1 → W p l e R s m args below meth c H1 locs1 cells slots Q (F0 m (pc + 3) ls rest)) : W p l e R s m args below meth c H locs cells slots Q (F0 m pc ls (v :: .ref a :: rest)) := va_put (D := D) (ci := 12) (C := RX12) (T := TX12) (N := 36) (ty := .long) hx hb hts iX12 tyX12 tyX12_ok nmX12 hown hK hP hD hS q0 he rfl 31 (by decide) (hts _ k_1106) (fun _ h9 => h9) rfl (by decide +kernel) hn hfit hl hdg kk
theorem gf_X12_65 (hx : p.tables.exec = Jvm.exec) (hb : c.code = cc) (hts : ∀ w ∈ gT, w.before args s = true) (hown : s.vm.findClass RX12 = some m.cls) (hK : va_K D classes (tysOf tc) s) (hP : va_P D classes ws H) (q0 : Nat) {fs : List Value} {v : Value} (he : ws[q0]? = some (a, .inr (12, fs))) (hv : fs[32]? = some v) (hdg : decode cc pc = .ok (.getfield 65, 3)) (kk : W p l e R s m args below meth c H locs cells slots Q (F0 m (pc + 3) ls (v :: rest))) : W p l e R s m args below meth c H locs cells slots Q (F0 m pc ls (.ref a :: rest)) := va_get (D := D) (ci := 12) (C := RX12) (T := TX12) (N := 36) hx hb hts iX12 hown hK hP q0 he rfl 32 (by decide) (hts _ k_1107) (fun _ h9 => h9) hv hdg kk
theorem pf_X12_65 (hx : p.tables.exec = Jvm.exec) (hb : c.code = cc) (hts : ∀ w ∈ gT, w.before args s = true) (hown : s.vm.findClass RX12 = some m.cls) (hin2 : meth.name = "<init>") (hK : va_K D classes (tysOf tc) s) (hP : va_P D classes ws H) (hD : va_D A ws) (hS : va_S A s.heap H locs) (q0 : Nat) {fs : List Value} {v : Value} {ty : FieldType} (he : ws[q0]? = some (a, .inr (12, fs))) (hl : 32 < fs.length) (hd : parseFieldDescriptor (TX12 32).2.2.1 = some ty) (hn : narrow ty v = v) (hfit : fits ty v = true) (hdg : decode cc pc = .ok (.putfield 65, 3)) (kk : ∀ (H1 : Heap) (locs1 : List Loc), va_P D classes (ws.set q0 (a, .inr (12, fs.set 32 v))) H1 → va_D A (ws.set q0 (a, .inr (12, fs.set 32 v))) → va_S A s.heap H1 locs1 → W p l e R s m args below meth c H1 locs1 cells slots Q (F0 m (pc + 3) ls rest)) : W p l e R s m args below meth c H locs cells slots Q (F0 m pc ls (v :: .ref a :: rest)) := va_putF (D := D) (ci := 12) (C := RX12) (T := TX12) (N := 36) hx hb hts iX12 tyX12 tyX12_ok nmX12 hown hK hP hD hS q0 he rfl 32 (by decide) (hts _ k_1107) (fun _ h9 => h9) rfl hin2 rfl hd hn hfit hl hdg kk
theorem gf_X12_68 (hx : p.tables.exec = Jvm.exec) (hb : c.code = cc) (hts : ∀ w ∈ gT, w.before args s = true) (hown : s.vm.findClass RX12 = some m.cls) (hK : va_K D classes (tysOf tc) s) (hP : va_P D classes ws H) (q0 : Nat) {fs : List Value} {v : Value} (he : ws[q0]? = some (a, .inr (12, fs))) (hv : fs[33]? = some v) (hdg : decode cc pc = .ok (.getfield 68, 3)) (kk : W p l e R s m args below meth c H locs cells slots Q (F0 m (pc + 3) ls (v :: rest))) : W p l e R s m args below meth c H locs cells slots Q (F0 m pc ls (.ref a :: rest)) := va_get (D := D) (ci := 12) (C := RX12) (T := TX12) (N := 36) hx hb hts iX12 hown hK hP q0 he rfl 33 (by decide) (hts _ k_1108) (fun _ h9 => h9) hv hdg kk
theorem pf_X12_68 (hx : p.tables.exec = Jvm.exec) (hb : c.code = cc) (hts : ∀ w ∈ gT, w.before args s = true) (hown : s.vm.findClass RX12 = some m.cls) (hin2 : meth.name = "<init>") (hK : va_K D classes (tysOf tc) s) (hP : va_P D classes ws H) (hD : va_D A ws) (hS : va_S A s.heap H locs) (q0 : Nat) {fs : List Value} {v : Value} {ty : FieldType} (he : ws[q0]? = some (a, .inr (12, fs))) (hl : 33 < fs.length) (hd : parseFieldDescriptor (TX12 33).2.2.1 = some ty) (hn : narrow ty v = v) (hfit : fits ty v = true) (hdg : decode cc pc = .ok (.putfield 68, 3)) (kk : ∀ (H1 : Heap) (locs1 : List Loc), va_P D classes (ws.set q0 (a, .inr (12, fs.set 33 v))) H1 → va_D A (ws.set q0 (a, .inr (12, fs.set 33 v))) → va_S A s.heap H1 locs1 → W p l e R s m args below meth c H1 locs1 cells slots Q (F0 m (pc + 3) ls rest)) : W p l e R s m args below meth c H locs cells slots Q (F0 m pc ls (v :: .ref a :: rest)) := va_putF (D := D) (ci := 12) (C := RX12) (T := TX12) (N := 36) hx hb hts iX12 tyX12 tyX12_ok nmX12 hown hK hP hD hS q0 he rfl 33 (by decide) (hts _ k_1108) (fun _ h9 => h9) rfl hin2 rfl hd hn hfit hl hdg kk
theorem gf_X12_71 (hx : p.tables.exec = Jvm.exec) (hb : c.code = cc) (hts : ∀ w ∈ gT, w.before args s = true) (hown : s.vm.findClass RX12 = some m.cls) (hK : va_K D classes (tysOf tc) s) (hP : va_P D classes ws H) (q0 : Nat) {fs : List Value} {v : Value} (he : ws[q0]? = some (a, .inr (12, fs))) (hv : fs[34]? = some v) (hdg : decode cc pc = .ok (.getfield 71, 3)) (kk : W p l e R s m args below meth c H locs cells slots Q (F0 m (pc + 3) ls (v :: rest))) : W p l e R s m args below meth c H locs cells slots Q (F0 m pc ls (.ref a :: rest)) := va_get (D := D) (ci := 12) (C := RX12) (T := TX12) (N := 36) hx hb hts iX12 hown hK hP q0 he rfl 34 (by decide) (hts _ k_1109) (fun _ h9 => h9) hv hdg kk
theorem pf_X12_71 (hx : p.tables.exec = Jvm.exec) (hb : c.code = cc) (hts : ∀ w ∈ gT, w.before args s = true) (hown : s.vm.findClass RX12 = some m.cls) (hin2 : meth.name = "<init>") (hK : va_K D classes (tysOf tc) s) (hP : va_P D classes ws H) (hD : va_D A ws) (hS : va_S A s.heap H locs) (q0 : Nat) {fs : List Value} {v : Value} {ty : FieldType} (he : ws[q0]? = some (a, .inr (12, fs))) (hl : 34 < fs.length) (hd : parseFieldDescriptor (TX12 34).2.2.1 = some ty) (hn : narrow ty v = v) (hfit : fits ty v = true) (hdg : decode cc pc = .ok (.putfield 71, 3)) (kk : ∀ (H1 : Heap) (locs1 : List Loc), va_P D classes (ws.set q0 (a, .inr (12, fs.set 34 v))) H1 → va_D A (ws.set q0 (a, .inr (12, fs.set 34 v))) → va_S A s.heap H1 locs1 → W p l e R s m args below meth c H1 locs1 cells slots Q (F0 m (pc + 3) ls rest)) : W p l e R s m args below meth c H locs cells slots Q (F0 m pc ls (v :: .ref a :: rest)) := va_putF (D := D) (ci := 12) (C := RX12) (T := TX12) (N := 36) hx hb hts iX12 tyX12 tyX12_ok nmX12 hown hK hP hD hS q0 he rfl 34 (by decide) (hts _ k_1109) (fun _ h9 => h9) rfl hin2 rfl hd hn hfit hl hdg kk
theorem gf_X12_74 (hx : p.tables.exec = Jvm.exec) (hb : c.code = cc) (hts : ∀ w ∈ gT, w.before args s = true) (hown : s.vm.findClass RX12 = some m.cls) (hK : va_K D classes (tysOf tc) s) (hP : va_P D classes ws H) (q0 : Nat) {fs : List Value} {v : Value} (he : ws[q0]? = some (a, .inr (12, fs))) (hv : fs[35]? = some v) (hdg : decode cc pc = .ok (.getfield 74, 3)) (kk : W p l e R s m args below meth c H locs cells slots Q (F0 m (pc + 3) ls (v :: rest))) : W p l e R s m args below meth c H locs cells slots Q (F0 m pc ls (.ref a :: rest)) := va_get (D := D) (ci := 12) (C := RX12) (T := TX12) (N := 36) hx hb hts iX12 hown hK hP q0 he rfl 35 (by decide) (hts _ k_1110) (fun _ h9 => h9) hv hdg kk
theorem pf_X12_74 (hx : p.tables.exec = Jvm.exec) (hb : c.code = cc) (hts : ∀ w ∈ gT, w.before args s = true) (hown : s.vm.findClass RX12 = some m.cls) (hin2 : meth.name = "<init>") (hK : va_K D classes (tysOf tc) s) (hP : va_P D classes ws H) (hD : va_D A ws) (hS : va_S A s.heap H locs) (q0 : Nat) {fs : List Value} {v : Value} {ty : FieldType} (he : ws[q0]? = some (a, .inr (12, fs))) (hl : 35 < fs.length) (hd : parseFieldDescriptor (TX12 35).2.2.1 = some ty) (hn : narrow ty v = v) (hfit : fits ty v = true) (hdg : decode cc pc = .ok (.putfield 74, 3)) (kk : ∀ (H1 : Heap) (locs1 : List Loc), va_P D classes (ws.set q0 (a, .inr (12, fs.set 35 v))) H1 → va_D A (ws.set q0 (a, .inr (12, fs.set 35 v))) → va_S A s.heap H1 locs1 → W p l e R s m args below meth c H1 locs1 cells slots Q (F0 m (pc + 3) ls rest)) : W p l e R s m args below meth c H locs cells slots Q (F0 m pc ls (v :: .ref a :: rest)) := va_putF (D := D) (ci := 12) (C := RX12) (T := TX12) (N := 36) hx hb hts iX12 tyX12 tyX12_ok nmX12 hown hK hP hD hS q0 he rfl 35 (by decide) (hts _ k_1110) (fun _ h9 => h9) rfl hin2 rfl hd hn hfit hl hdg kk
end FLD
theorem dfX0 : ∀ j, j < 1 → defaultValue (tyX0 j) = vp_V [.null] j := by decide +kernel
theorem dfX1 : ∀ j, j < 3 → defaultValue (tyX1 j) = vp_V [.null, .null, .null] j := by decide +kernel
theorem dfX2 : ∀ j, j < 4 → defaultValue (tyX2 j) = vp_V [.null, .null, .null, .int 0] j := by decide +kernel
theorem dfX3 : ∀ j, j < 4 → defaultValue (tyX3 j) = vp_V [.null, .null, .null, .int 0] j := by decide +kernel
theorem dfX4 : ∀ j, j < 3 → defaultValue (tyX4 j) = vp_V [.null, .null, .long 0] j := by decide +kernel
theorem dfX5 : ∀ j, j < 3 → defaultValue (tyX5 j) = vp_V [.null, .int 0, .int 0] j := by decide +kernel
theorem dfX6 : ∀ j, j < 2 → defaultValue (tyX6 j) = vp_V [.null, .null] j := by decide +kernel
theorem dfX7 : ∀ j, j < 3 → defaultValue (tyX7 j) = vp_V [.null, .int 0, .int 0] j := by decide +kernel
theorem dfX8 : ∀ j, j < 5 → defaultValue (tyX8 j) = vp_V [.null, .null, .null, .int 0, .int 0] j := by decide +kernel
theorem dfX9 : ∀ j, j < 14 → defaultValue (tyX9 j) = vp_V [.int 0, .int 0, .int 0, .int 0, .int 0, .int 0, .null, .null, .null, .null, .null, .null, .null, .null] j := by decide +kernel
theorem dfX10 : ∀ j, j < 6 → defaultValue (tyX10 j) = vp_V [.null, .int 0, .int 0, .int 0, .int 0, .int 0] j := by decide +kernel
theorem dfX11 : ∀ j, j < 12 → defaultValue (tyX11 j) = vp_V [.null, .null, .null, .null, .int 0, .null, .null, .null, .null, .null, .null, .null] j := by decide +kernel
theorem dfX12 : ∀ j, j < 36 → defaultValue (tyX12 j) = vp_V [.null, .int 0, .int 0, .null, .null, .null, .null, .null, .int 0, .int 0, .int 0, .int 0, .int 0, .int 0, .int 0, .null, .int 0, .null, .int 0, .null, .null, .int 0, .int 0, .int 0, .null, .int 0, .null, .null, .null, .null, .null, .long 0, .null, .null, .null, .null] j := by decide +kernel
theorem pl_X11_init : PlainC yX11_init 0 := by decide +kernel
theorem pl_X11_ahead : PlainC yX11_ahead 3 := by decide +kernel
theorem pl_X11_back : PlainC yX11_back 1 := by decide +kernel
theorem pl_X11_best : PlainC yX11_best 2 := by decide +kernel
theorem pl_X11_book : PlainC yX11_book 0 := by decide +kernel
theorem pl_X11_buyer : PlainC yX11_buyer 2 := by decide +kernel
theorem pl_X11_buys : PlainC yX11_buys 1 := by decide +kernel
theorem pl_X11_calm : PlainC yX11_calm 2 := by decide +kernel
theorem pl_X11_change : PlainC yX11_change 2 := by decide +kernel
theorem pl_X11_count : PlainC yX11_count 1 := by decide +kernel
theorem pl_X11_day : PlainC yX11_day 0 := by decide +kernel
theorem pl_X11_empty : PlainC yX11_empty 0 := by decide +kernel
theorem pl_X11_end : PlainC yX11_end 1 := by decide +kernel
theorem pl_X11_feed : PlainC yX11_feed 5 := by decide +kernel
theorem pl_X11_fines : PlainC yX11_fines 2 := by decide +kernel
theorem pl_X11_force : PlainC yX11_force 1 := by decide +kernel
theorem pl_X11_guard : PlainC yX11_guard 2 := by decide +kernel
theorem pl_X11_image : PlainC yX11_image 1 := by decide +kernel
theorem pl_X11_isWithin : PlainC yX11_isWithin 3 := by decide +kernel
theorem pl_X11_least : PlainC yX11_least 2 := by decide +kernel
theorem pl_X11_look : PlainC yX11_look 1 := by decide +kernel
theorem pl_X11_note : PlainC yX11_note 3 := by decide +kernel
theorem pl_X11_page : PlainC yX11_page 2 := by decide +kernel
theorem pl_X11_peak : PlainC yX11_peak 2 := by decide +kernel
theorem pl_X11_rests : PlainC yX11_rests 4 := by decide +kernel
theorem pl_X11_ring : PlainC yX11_ring 1 := by decide +kernel
theorem pl_X11_rule : PlainC yX11_rule 0 := by decide +kernel
theorem pl_X11_ruleInForce : PlainC yX11_ruleInForce 0 := by decide +kernel
theorem pl_X11_ruled : PlainC yX11_ruled 1 := by decide +kernel
theorem pl_X11_seed : PlainC yX11_seed 1 := by decide +kernel
theorem pl_X11_sell : PlainC yX11_sell 1 := by decide +kernel
theorem pl_X11_sky : PlainC yX11_sky 2 := by decide +kernel
theorem pl_X11_soothe : PlainC yX11_soothe 2 := by decide +kernel
theorem pl_X11_summers : PlainC yX11_summers 4 := by decide +kernel
theorem pl_X11_tells : PlainC yX11_tells 2 := by decide +kernel
theorem pl_X11_undo : PlainC yX11_undo 0 := by decide +kernel
theorem pl_X11_watch : PlainC yX11_watch 2 := by decide +kernel
theorem pl_X0_init : PlainC yX0_init 0 := by decide +kernel
theorem pl_X0_read : PlainC yX0_read 1 := by decide +kernel
theorem pl_X0_readBook : PlainC yX0_readBook 1 := by decide +kernel
theorem pl_X0_readBuyer : PlainC yX0_readBuyer 1 := by decide +kernel
theorem pl_X0_readClause : PlainC yX0_readClause 2 := by decide +kernel
theorem pl_X0_readSky : PlainC yX0_readSky 1 := by decide +kernel
theorem pl_X0_readWatch : PlainC yX0_readWatch 1 := by decide +kernel
theorem pl_X1_init : PlainC yX1_init 0 := by decide +kernel
theorem pl_X1_bestDay : PlainC yX1_bestDay 4 := by decide +kernel
theorem pl_X1_clockOfPurchase : PlainC yX1_clockOfPurchase 4 := by decide +kernel
theorem pl_X1_gain : PlainC yX1_gain 2 := by decide +kernel
theorem pl_X1_grainsOf : PlainC yX1_grainsOf 2 := by decide +kernel
theorem pl_X1_isRest : PlainC yX1_isRest 1 := by decide +kernel
theorem pl_X1_leastTemper : PlainC yX1_leastTemper 4 := by decide +kernel
theorem pl_X1_playAll : PlainC yX1_playAll 5 := by decide +kernel
theorem pl_X1_restAnswer : PlainC yX1_restAnswer 1 := by decide +kernel
theorem pl_X1_setsOf : PlainC yX1_setsOf 3 := by decide +kernel
theorem pl_X1_sizeOf : PlainC yX1_sizeOf 1 := by decide +kernel
theorem pl_X1_smallestGuard : PlainC yX1_smallestGuard 3 := by decide +kernel
theorem pl_X1_whomToSoothe : PlainC yX1_whomToSoothe 4 := by decide +kernel
theorem pl_X2_init : PlainC yX2_init 0 := by decide +kernel
theorem pl_X2_agrees : PlainC yX2_agrees 2 := by decide +kernel
theorem pl_X2_dayToLook : PlainC yX2_dayToLook 1 := by decide +kernel
theorem pl_X2_firstFitting : PlainC yX2_firstFitting 0 := by decide +kernel
theorem pl_X2_mostAlike : PlainC yX2_mostAlike 1 := by decide +kernel
theorem pl_X2_weigh : PlainC yX2_weigh 3 := by decide +kernel
theorem pl_X2_whoOn : PlainC yX2_whoOn 2 := by decide +kernel
theorem pl_X3_init : PlainC yX3_init 0 := by decide +kernel
theorem pl_X3_add : PlainC yX3_add 3 := by decide +kernel
theorem pl_X3_copyFrom : PlainC yX3_copyFrom 1 := by decide +kernel
theorem pl_X4_init : PlainC yX4_init 0 := by decide +kernel
theorem pl_X4_aheadOf : PlainC yX4_aheadOf 5 := by decide +kernel
theorem pl_X4_commonDivisor : PlainC yX4_commonDivisor 2 := by decide +kernel
theorem pl_X4_draw : PlainC yX4_draw 0 := by decide +kernel
theorem pl_X4_drawSky : PlainC yX4_drawSky 1 := by decide +kernel
theorem pl_X4_drawnSummers : PlainC yX4_drawnSummers 6 := by decide +kernel
theorem pl_X4_firstEmptyShelf : PlainC yX4_firstEmptyShelf 2 := by decide +kernel
theorem pl_X4_firstPurchase : PlainC yX4_firstPurchase 3 := by decide +kernel
theorem pl_X4_firstRing : PlainC yX4_firstRing 3 := by decide +kernel
theorem pl_X4_highestDay : PlainC yX4_highestDay 4 := by decide +kernel
theorem pl_X4_weatherFraction : PlainC yX4_weatherFraction 4 := by decide +kernel
theorem pl_X5_init : PlainC yX5_init 0 := by decide +kernel
theorem pl_X5_giveBack : PlainC yX5_giveBack 1 := by decide +kernel
theorem pl_X5_keep : PlainC yX5_keep 1 := by decide +kernel
theorem pl_X6_init : PlainC yX6_init 1 := by decide +kernel
theorem pl_X6_holds : PlainC yX6_holds 3 := by decide +kernel
theorem pl_X6_joined : PlainC yX6_joined 3 := by decide +kernel
theorem pl_X6_sumFor : PlainC yX6_sumFor 2 := by decide +kernel
theorem pl_X7_init : PlainC yX7_init 0 := by decide +kernel
theorem pl_X7_arithmetic : PlainC yX7_arithmetic 1 := by decide +kernel
theorem pl_X7_comparison : PlainC yX7_comparison 1 := by decide +kernel
theorem pl_X7_countOne : PlainC yX7_countOne 1 := by decide +kernel
theorem pl_X7_put : PlainC yX7_put 1 := by decide +kernel
theorem pl_X7_read : PlainC yX7_read 1 := by decide +kernel
theorem pl_X7_readFact : PlainC yX7_readFact 2 := by decide +kernel
theorem pl_X7_readSum : PlainC yX7_readSum 1 := by decide +kernel
theorem pl_X7_readTest : PlainC yX7_readTest 2 := by decide +kernel
theorem pl_X7_readValue : PlainC yX7_readValue 1 := by decide +kernel
theorem pl_X8_init : PlainC yX8_init 0 := by decide +kernel
theorem pl_X8_copyFrom : PlainC yX8_copyFrom 1 := by decide +kernel
theorem pl_X9_init : PlainC yX9_init 0 := by decide +kernel
theorem pl_X9_canBuy : PlainC yX9_canBuy 1 := by decide +kernel
theorem pl_X9_changeTempers : PlainC yX9_changeTempers 1 := by decide +kernel
theorem pl_X9_clear : PlainC yX9_clear 0 := by decide +kernel
theorem pl_X9_clockOn : PlainC yX9_clockOn 1 := by decide +kernel
theorem pl_X9_copyFrom : PlainC yX9_copyFrom 1 := by decide +kernel
theorem pl_X9_daysSince : PlainC yX9_daysSince 1 := by decide +kernel
theorem pl_X9_everybody : PlainC yX9_everybody 0 := by decide +kernel
theorem pl_X9_fineOf : PlainC yX9_fineOf 2 := by decide +kernel
theorem pl_X9_goThroughDay : PlainC yX9_goThroughDay 1 := by decide +kernel
theorem pl_X9_handOver : PlainC yX9_handOver 1 := by decide +kernel
theorem pl_X9_hasBuyer : PlainC yX9_hasBuyer 1 := by decide +kernel
theorem pl_X9_hasClock : PlainC yX9_hasClock 1 := by decide +kernel
theorem pl_X9_isTold : PlainC yX9_isTold 0 := by decide +kernel
theorem pl_X9_likeness : PlainC yX9_likeness 0 := by decide +kernel
theorem pl_X9_soldWithin : PlainC yX9_soldWithin 2 := by decide +kernel
theorem pl_X9_stillOn : PlainC yX9_stillOn 1 := by decide +kernel
theorem pl_X9_timesMet : PlainC yX9_timesMet 0 := by decide +kernel
theorem pl_X9_whoCanBuy : PlainC yX9_whoCanBuy 0 := by decide +kernel
theorem pl_X9_wordOf : PlainC yX9_wordOf 2 := by decide +kernel
theorem pl_X10_init : PlainC yX10_init 0 := by decide +kernel
theorem pl_X10_add : PlainC yX10_add 1 := by decide +kernel
theorem pl_X10_begin : PlainC yX10_begin 0 := by decide +kernel
theorem pl_X10_byteAt : PlainC yX10_byteAt 1 := by decide +kernel
theorem pl_X10_fail : PlainC yX10_fail 1 := by decide +kernel
theorem pl_X10_finish : PlainC yX10_finish 0 := by decide +kernel
theorem pl_X10_hasRoom : PlainC yX10_hasRoom 0 := by decide +kernel
theorem pl_X10_isDigit : PlainC yX10_isDigit 1 := by decide +kernel
theorem pl_X10_isLetter : PlainC yX10_isLetter 1 := by decide +kernel
theorem pl_X10_isPartOf : PlainC yX10_isPartOf 3 := by decide +kernel
theorem pl_X10_isWord : PlainC yX10_isWord 1 := by decide +kernel
theorem pl_X10_numberHere : PlainC yX10_numberHere 2 := by decide +kernel
theorem pl_X10_step : PlainC yX10_step 0 := by decide +kernel
theorem pl_X10_takeNumber : PlainC yX10_takeNumber 2 := by decide +kernel
theorem pl_X10_takes : PlainC yX10_takes 1 := by decide +kernel
theorem pl_X10_takesWord : PlainC yX10_takesWord 1 := by decide +kernel
theorem pl_X10_wordAmong : PlainC yX10_wordAmong 1 := by decide +kernel
theorem pl_X12_init : PlainC yX12_init 0 := by decide +kernel
theorem pl_X12_ahead : PlainC yX12_ahead 3 := by decide +kernel
theorem pl_X12_alikeAt : PlainC yX12_alikeAt 1 := by decide +kernel
theorem pl_X12_areAlike : PlainC yX12_areAlike 2 := by decide +kernel
theorem pl_X12_areNotesSo : PlainC yX12_areNotesSo 1 := by decide +kernel
theorem pl_X12_back : PlainC yX12_back 1 := by decide +kernel
theorem pl_X12_begins : PlainC yX12_begins 0 := by decide +kernel
theorem pl_X12_best : PlainC yX12_best 2 := by decide +kernel
theorem pl_X12_bits : PlainC yX12_bits 1 := by decide +kernel
theorem pl_X12_book : PlainC yX12_book 0 := by decide +kernel
theorem pl_X12_bookLineHere : PlainC yX12_bookLineHere 1 := by decide +kernel
theorem pl_X12_boughtBy : PlainC yX12_boughtBy 1 := by decide +kernel
theorem pl_X12_buyer : PlainC yX12_buyer 2 := by decide +kernel
theorem pl_X12_buys : PlainC yX12_buys 1 := by decide +kernel
theorem pl_X12_buysIn : PlainC yX12_buysIn 2 := by decide +kernel
theorem pl_X12_calm : PlainC yX12_calm 2 := by decide +kernel
theorem pl_X12_canBuy : PlainC yX12_canBuy 1 := by decide +kernel
theorem pl_X12_cellHere : PlainC yX12_cellHere 3 := by decide +kernel
theorem pl_X12_change : PlainC yX12_change 2 := by decide +kernel
theorem pl_X12_clauseHere : PlainC yX12_clauseHere 0 := by decide +kernel
theorem pl_X12_clock : PlainC yX12_clock 0 := by decide +kernel
theorem pl_X12_closes : PlainC yX12_closes 0 := by decide +kernel
theorem pl_X12_comes : PlainC yX12_comes 1 := by decide +kernel
theorem pl_X12_common : PlainC yX12_common 2 := by decide +kernel
theorem pl_X12_compare : PlainC yX12_compare 0 := by decide +kernel
theorem pl_X12_count : PlainC yX12_count 1 := by decide +kernel
theorem pl_X12_day : PlainC yX12_day 0 := by decide +kernel
theorem pl_X12_draw : PlainC yX12_draw 1 := by decide +kernel
theorem pl_X12_empty : PlainC yX12_empty 0 := by decide +kernel
theorem pl_X12_end : PlainC yX12_end 1 := by decide +kernel
theorem pl_X12_fact : PlainC yX12_fact 0 := by decide +kernel
theorem pl_X12_fails : PlainC yX12_fails 2 := by decide +kernel
theorem pl_X12_feed : PlainC yX12_feed 5 := by decide +kernel
theorem pl_X12_fillsFits : PlainC yX12_fillsFits 0 := by decide +kernel
theorem pl_X12_fines : PlainC yX12_fines 2 := by decide +kernel
theorem pl_X12_force : PlainC yX12_force 1 := by decide +kernel
theorem pl_X12_four : PlainC yX12_four 1 := by decide +kernel
theorem pl_X12_grainsOf : PlainC yX12_grainsOf 1 := by decide +kernel
theorem pl_X12_guard : PlainC yX12_guard 2 := by decide +kernel
theorem pl_X12_image : PlainC yX12_image 1 := by decide +kernel
theorem pl_X12_in : PlainC yX12_in 3 := by decide +kernel
theorem pl_X12_isBook : PlainC yX12_isBook 0 := by decide +kernel
theorem pl_X12_isBookHere : PlainC yX12_isBookHere 1 := by decide +kernel
theorem pl_X12_isBookWord : PlainC yX12_isBookWord 0 := by decide +kernel
theorem pl_X12_isBuyHere : PlainC yX12_isBuyHere 0 := by decide +kernel
theorem pl_X12_isBuyer : PlainC yX12_isBuyer 1 := by decide +kernel
theorem pl_X12_isBuyerHere : PlainC yX12_isBuyerHere 1 := by decide +kernel
theorem pl_X12_isClock : PlainC yX12_isClock 1 := by decide +kernel
theorem pl_X12_isDigit : PlainC yX12_isDigit 1 := by decide +kernel
theorem pl_X12_isInside : PlainC yX12_isInside 0 := by decide +kernel
theorem pl_X12_isLetter : PlainC yX12_isLetter 1 := by decide +kernel
theorem pl_X12_isMet : PlainC yX12_isMet 1 := by decide +kernel
theorem pl_X12_isOf : PlainC yX12_isOf 2 := by decide +kernel
theorem pl_X12_isRest : PlainC yX12_isRest 2 := by decide +kernel
theorem pl_X12_isRule : PlainC yX12_isRule 1 := by decide +kernel
theorem pl_X12_isSkyHere : PlainC yX12_isSkyHere 0 := by decide +kernel
theorem pl_X12_isWatchHere : PlainC yX12_isWatchHere 0 := by decide +kernel
theorem pl_X12_isWilling : PlainC yX12_isWilling 1 := by decide +kernel
theorem pl_X12_isWord : PlainC yX12_isWord 1 := by decide +kernel
theorem pl_X12_keeps : PlainC yX12_keeps 0 := by decide +kernel
theorem pl_X12_keepsAct : PlainC yX12_keepsAct 0 := by decide +kernel
theorem pl_X12_lastOf : PlainC yX12_lastOf 1 := by decide +kernel
theorem pl_X12_layDown : PlainC yX12_layDown 1 := by decide +kernel
theorem pl_X12_laysBack : PlainC yX12_laysBack 0 := by decide +kernel
theorem pl_X12_least : PlainC yX12_least 2 := by decide +kernel
theorem pl_X12_look : PlainC yX12_look 1 := by decide +kernel
theorem pl_X12_makes : PlainC yX12_makes 1 := by decide +kernel
theorem pl_X12_metAll : PlainC yX12_metAll 0 := by decide +kernel
theorem pl_X12_metOf : PlainC yX12_metOf 1 := by decide +kernel
theorem pl_X12_note : PlainC yX12_note 3 := by decide +kernel
theorem pl_X12_numberHere : PlainC yX12_numberHere 2 := by decide +kernel
theorem pl_X12_one : PlainC yX12_one 3 := by decide +kernel
theorem pl_X12_opens : PlainC yX12_opens 1 := by decide +kernel
theorem pl_X12_page : PlainC yX12_page 2 := by decide +kernel
theorem pl_X12_passWord : PlainC yX12_passWord 0 := by decide +kernel
theorem pl_X12_passes : PlainC yX12_passes 0 := by decide +kernel
theorem pl_X12_passesAll : PlainC yX12_passesAll 1 := by decide +kernel
theorem pl_X12_peak : PlainC yX12_peak 2 := by decide +kernel
theorem pl_X12_pop : PlainC yX12_pop 0 := by decide +kernel
theorem pl_X12_push : PlainC yX12_push 1 := by decide +kernel
theorem pl_X12_puts : PlainC yX12_puts 2 := by decide +kernel
theorem pl_X12_readsAll : PlainC yX12_readsAll 0 := by decide +kernel
theorem pl_X12_reckons : PlainC yX12_reckons 3 := by decide +kernel
theorem pl_X12_rests : PlainC yX12_rests 4 := by decide +kernel
theorem pl_X12_ring : PlainC yX12_ring 1 := by decide +kernel
theorem pl_X12_rule : PlainC yX12_rule 0 := by decide +kernel
theorem pl_X12_ruled : PlainC yX12_ruled 1 := by decide +kernel
theorem pl_X12_see : PlainC yX12_see 0 := by decide +kernel
theorem pl_X12_seed : PlainC yX12_seed 1 := by decide +kernel
theorem pl_X12_sell : PlainC yX12_sell 1 := by decide +kernel
theorem pl_X12_sinceOf : PlainC yX12_sinceOf 1 := by decide +kernel
theorem pl_X12_sky : PlainC yX12_sky 2 := by decide +kernel
theorem pl_X12_soldAll : PlainC yX12_soldAll 0 := by decide +kernel
theorem pl_X12_soldIn : PlainC yX12_soldIn 1 := by decide +kernel
theorem pl_X12_soothe : PlainC yX12_soothe 2 := by decide +kernel
theorem pl_X12_spot : PlainC yX12_spot 2 := by decide +kernel
theorem pl_X12_strength : PlainC yX12_strength 1 := by decide +kernel
theorem pl_X12_sum : PlainC yX12_sum 0 := by decide +kernel
theorem pl_X12_summedBy : PlainC yX12_summedBy 1 := by decide +kernel
theorem pl_X12_summers : PlainC yX12_summers 4 := by decide +kernel
theorem pl_X12_takes : PlainC yX12_takes 1 := by decide +kernel
theorem pl_X12_takesWord : PlainC yX12_takesWord 1 := by decide +kernel
theorem pl_X12_tells : PlainC yX12_tells 2 := by decide +kernel
theorem pl_X12_temperOf : PlainC yX12_temperOf 1 := by decide +kernel
theorem pl_X12_term : PlainC yX12_term 0 := by decide +kernel
theorem pl_X12_tested : PlainC yX12_tested 0 := by decide +kernel
theorem pl_X12_undo : PlainC yX12_undo 0 := by decide +kernel
theorem pl_X12_value : PlainC yX12_value 0 := by decide +kernel
theorem pl_X12_valueOf : PlainC yX12_valueOf 1 := by decide +kernel
theorem pl_X12_watch : PlainC yX12_watch 2 := by decide +kernel
theorem pl_X12_weathers : PlainC yX12_weathers 0 := by decide +kernel
theorem pl_X12_wordHere : PlainC yX12_wordHere 0 := by decide +kernel
theorem pl_J6_bitCount_0f7a4 : PlainC yJ6_bitCount_0f7a4 1 := by decide +kernel
theorem pl_J9_max_7cf53 : PlainC yJ9_max_7cf53 2 := by decide +kernel
theorem pl_J9_min_7cf53 : PlainC yJ9_min_7cf53 2 := by decide +kernel
theorem pl_J0_charAt_5068e : PlainC yJ0_charAt_5068e 1 := by decide +kernel
theorem pl_J0_checkIndex_df160 : PlainC yJ0_checkIndex_df160 2 := by decide +kernel
theorem pl_J0_coder_7d493 : PlainC yJ0_coder_7d493 0 := by decide +kernel
theorem pl_J0_isLatin1_aae02 : PlainC yJ0_isLatin1_aae02 0 := by decide +kernel
theorem pl_J0_length_8abf5 : PlainC yJ0_length_8abf5 0 := by decide +kernel
theorem pl_J1_charAt_3b067 : PlainC yJ1_charAt_3b067 2 := by decide +kernel
theorem pl_J2_charAt_3b067 : PlainC yJ2_charAt_3b067 2 := by decide +kernel
theorem pl_J2_checkIndex_2214a : PlainC yJ2_checkIndex_2214a 2 := by decide +kernel
theorem pl_J2_getChar_3b067 : PlainC yJ2_getChar_3b067 2 := by decide +kernel
theorem pl_J2_length_9d52b : PlainC yJ2_length_9d52b 1 := by decide +kernel
theorem pl_J7_copyOf_59c91 : PlainC yJ7_copyOf_59c91 2 := by decide +kernel
theorem pl_J3_checkIndex_8e157 : PlainC yJ3_checkIndex_8e157 3 := by decide +kernel
end
section
section LYS
variable {p : Program} {l : Launch} {e : Env} {R : Room} {s : State} {m : MethodId} {args : Array Value} {below : List Frame} {meth : Method} {c : Code} {H : Heap} {locs : List Loc} {cells slots : Nat} {Q : State → Prop} {pc : Nat} {ls : Array Slot} {rest : List Value}
theorem lv_val {x v : Value} (h : x = v) (k : W p l e R s m args below meth c H locs cells slots Q (F0 m pc ls (v :: rest))) : W p l e R s m args below meth c H locs cells slots Q (F0 m pc ls (x :: rest)) := h ▸ k
end LYS
theorem dX0_init_0 : decode cX0_init 0 = .ok (.aload_n 0, 1) := by decide +kernel
theorem dX0_init_1 : decode cX0_init 1 = .ok (.invokespecial 3, 3) := by decide +kernel
theorem dX0_init_4 : decode cX0_init 4 = .ok (.aload_n 0, 1) := by decide +kernel
theorem dX0_init_5 : decode cX0_init 5 = .ok (.new 9, 3) := by decide +kernel
theorem dX0_init_8 : decode cX0_init 8 = .ok (.dup, 1) := by decide +kernel
theorem dX0_init_9 : decode cX0_init 9 = .ok (.invokespecial 11, 3) := by decide +kernel
theorem dX0_init_12 : decode cX0_init 12 = .ok (.putfield 12, 3) := by decide +kernel
theorem dX0_init_15 : decode cX0_init 15 = .ok (.return_, 1) := by decide +kernel
theorem dX10_init_0 : decode cX10_init 0 = .ok (.aload_n 0, 1) := by decide +kernel
theorem dX10_init_1 : decode cX10_init 1 = .ok (.invokespecial 3, 3) := by decide +kernel
theorem dX10_init_4 : decode cX10_init 4 = .ok (.aload_n 0, 1) := by decide +kernel
theorem dX10_init_5 : decode cX10_init 5 = .ok (.sipush 400, 3) := by decide +kernel
theorem dX10_init_8 : decode cX10_init 8 = .ok (.newarray .int, 2) := by decide +kernel
theorem dX10_init_10 : decode cX10_init 10 = .ok (.putfield 9, 3) := by decide +kernel
theorem dX10_init_13 : decode cX10_init 13 = .ok (.aload_n 0, 1) := by decide +kernel
theorem dX10_init_14 : decode cX10_init 14 = .ok (.iconst 0, 1) := by decide +kernel
theorem dX10_init_15 : decode cX10_init 15 = .ok (.putfield 15, 3) := by decide +kernel
theorem dX10_init_18 : decode cX10_init 18 = .ok (.aload_n 0, 1) := by decide +kernel
theorem dX10_init_19 : decode cX10_init 19 = .ok (.iconst 0, 1) := by decide +kernel
theorem dX10_init_20 : decode cX10_init 20 = .ok (.putfield 19, 3) := by decide +kernel
theorem dX10_init_23 : decode cX10_init 23 = .ok (.aload_n 0, 1) := by decide +kernel
theorem dX10_init_24 : decode cX10_init 24 = .ok (.iconst 0, 1) := by decide +kernel
theorem dX10_init_25 : decode cX10_init 25 = .ok (.putfield 22, 3) := by decide +kernel
theorem dX10_init_28 : decode cX10_init 28 = .ok (.aload_n 0, 1) := by decide +kernel
theorem dX10_init_29 : decode cX10_init 29 = .ok (.iconst (-1), 1) := by decide +kernel
theorem dX10_init_30 : decode cX10_init 30 = .ok (.putfield 25, 3) := by decide +kernel
theorem dX10_init_33 : decode cX10_init 33 = .ok (.aload_n 0, 1) := by decide +kernel
theorem dX10_init_34 : decode cX10_init 34 = .ok (.iconst 0, 1) := by decide +kernel
theorem dX10_init_35 : decode cX10_init 35 = .ok (.putfield 28, 3) := by decide +kernel
theorem dX10_init_38 : decode cX10_init 38 = .ok (.return_, 1) := by decide +kernel
theorem dX1_init_0 : decode cX1_init 0 = .ok (.aload_n 0, 1) := by decide +kernel
theorem dX1_init_1 : decode cX1_init 1 = .ok (.invokespecial 3, 3) := by decide +kernel
theorem dX1_init_4 : decode cX1_init 4 = .ok (.aload_n 0, 1) := by decide +kernel
theorem dX1_init_5 : decode cX1_init 5 = .ok (.new 9, 3) := by decide +kernel
theorem dX1_init_8 : decode cX1_init 8 = .ok (.dup, 1) := by decide +kernel
theorem dX1_init_9 : decode cX1_init 9 = .ok (.invokespecial 11, 3) := by decide +kernel
theorem dX1_init_12 : decode cX1_init 12 = .ok (.putfield 12, 3) := by decide +kernel
theorem dX1_init_15 : decode cX1_init 15 = .ok (.aload_n 0, 1) := by decide +kernel
theorem dX1_init_16 : decode cX1_init 16 = .ok (.bipush 25, 2) := by decide +kernel
theorem dX1_init_18 : decode cX1_init 18 = .ok (.newarray .int, 2) := by decide +kernel
theorem dX1_init_20 : decode cX1_init 20 = .ok (.putfield 18, 3) := by decide +kernel
theorem dX1_init_23 : decode cX1_init 23 = .ok (.aload_n 0, 1) := by decide +kernel
theorem dX1_init_24 : decode cX1_init 24 = .ok (.bipush 25, 2) := by decide +kernel
theorem dX1_init_26 : decode cX1_init 26 = .ok (.newarray .int, 2) := by decide +kernel
theorem dX1_init_28 : decode cX1_init 28 = .ok (.putfield 22, 3) := by decide +kernel
theorem dX1_init_31 : decode cX1_init 31 = .ok (.return_, 1) := by decide +kernel
theorem dX2_init_0 : decode cX2_init 0 = .ok (.aload_n 0, 1) := by decide +kernel
theorem dX2_init_1 : decode cX2_init 1 = .ok (.invokespecial 5, 3) := by decide +kernel
theorem dX2_init_4 : decode cX2_init 4 = .ok (.aload_n 0, 1) := by decide +kernel
theorem dX2_init_5 : decode cX2_init 5 = .ok (.new 11, 3) := by decide +kernel
theorem dX2_init_8 : decode cX2_init 8 = .ok (.dup, 1) := by decide +kernel
theorem dX2_init_9 : decode cX2_init 9 = .ok (.invokespecial 13, 3) := by decide +kernel
theorem dX2_init_12 : decode cX2_init 12 = .ok (.putfield 14, 3) := by decide +kernel
theorem dX2_init_15 : decode cX2_init 15 = .ok (.aload_n 0, 1) := by decide +kernel
theorem dX2_init_16 : decode cX2_init 16 = .ok (.sipush 427, 3) := by decide +kernel
theorem dX2_init_19 : decode cX2_init 19 = .ok (.newarray .int, 2) := by decide +kernel
theorem dX2_init_21 : decode cX2_init 21 = .ok (.putfield 18, 3) := by decide +kernel
theorem dX2_init_24 : decode cX2_init 24 = .ok (.aload_n 0, 1) := by decide +kernel
theorem dX2_init_25 : decode cX2_init 25 = .ok (.bipush 7, 2) := by decide +kernel
theorem dX2_init_27 : decode cX2_init 27 = .ok (.newarray .boolean, 2) := by decide +kernel
theorem dX2_init_29 : decode cX2_init 29 = .ok (.putfield 22, 3) := by decide +kernel
theorem dX2_init_32 : decode cX2_init 32 = .ok (.aload_n 0, 1) := by decide +kernel
theorem dX2_init_33 : decode cX2_init 33 = .ok (.iconst 0, 1) := by decide +kernel
theorem dX2_init_34 : decode cX2_init 34 = .ok (.putfield 26, 3) := by decide +kernel
theorem dX2_init_37 : decode cX2_init 37 = .ok (.return_, 1) := by decide +kernel
theorem dX3_init_0 : decode cX3_init 0 = .ok (.aload_n 0, 1) := by decide +kernel
theorem dX3_init_1 : decode cX3_init 1 = .ok (.invokespecial 1, 3) := by decide +kernel
theorem dX3_init_4 : decode cX3_init 4 = .ok (.aload_n 0, 1) := by decide +kernel
theorem dX3_init_5 : decode cX3_init 5 = .ok (.bipush 10, 2) := by decide +kernel
theorem dX3_init_7 : decode cX3_init 7 = .ok (.newarray .int, 2) := by decide +kernel
theorem dX3_init_9 : decode cX3_init 9 = .ok (.putfield 9, 3) := by decide +kernel
theorem dX3_init_12 : decode cX3_init 12 = .ok (.aload_n 0, 1) := by decide +kernel
theorem dX3_init_13 : decode cX3_init 13 = .ok (.bipush 10, 2) := by decide +kernel
theorem dX3_init_15 : decode cX3_init 15 = .ok (.newarray .int, 2) := by decide +kernel
theorem dX3_init_17 : decode cX3_init 17 = .ok (.putfield 13, 3) := by decide +kernel
theorem dX3_init_20 : decode cX3_init 20 = .ok (.aload_n 0, 1) := by decide +kernel
theorem dX3_init_21 : decode cX3_init 21 = .ok (.bipush 10, 2) := by decide +kernel
theorem dX3_init_23 : decode cX3_init 23 = .ok (.newarray .int, 2) := by decide +kernel
theorem dX3_init_25 : decode cX3_init 25 = .ok (.putfield 16, 3) := by decide +kernel
theorem dX3_init_28 : decode cX3_init 28 = .ok (.aload_n 0, 1) := by decide +kernel
theorem dX3_init_29 : decode cX3_init 29 = .ok (.iconst 0, 1) := by decide +kernel
theorem dX3_init_30 : decode cX3_init 30 = .ok (.putfield 19, 3) := by decide +kernel
theorem dX3_init_33 : decode cX3_init 33 = .ok (.return_, 1) := by decide +kernel
theorem dX4_init_0 : decode cX4_init 0 = .ok (.aload_n 0, 1) := by decide +kernel
theorem dX4_init_1 : decode cX4_init 1 = .ok (.invokespecial 3, 3) := by decide +kernel
theorem dX4_init_4 : decode cX4_init 4 = .ok (.aload_n 0, 1) := by decide +kernel
theorem dX4_init_5 : decode cX4_init 5 = .ok (.new 9, 3) := by decide +kernel
theorem dX4_init_8 : decode cX4_init 8 = .ok (.dup, 1) := by decide +kernel
theorem dX4_init_9 : decode cX4_init 9 = .ok (.invokespecial 11, 3) := by decide +kernel
theorem dX4_init_12 : decode cX4_init 12 = .ok (.putfield 12, 3) := by decide +kernel
theorem dX4_init_15 : decode cX4_init 15 = .ok (.aload_n 0, 1) := by decide +kernel
theorem dX4_init_16 : decode cX4_init 16 = .ok (.bipush 61, 2) := by decide +kernel
theorem dX4_init_18 : decode cX4_init 18 = .ok (.newarray .long, 2) := by decide +kernel
theorem dX4_init_20 : decode cX4_init 20 = .ok (.putfield 18, 3) := by decide +kernel
theorem dX4_init_23 : decode cX4_init 23 = .ok (.aload_n 0, 1) := by decide +kernel
theorem dX4_init_24 : decode cX4_init 24 = .ok (.lconst 0, 1) := by decide +kernel
theorem dX4_init_25 : decode cX4_init 25 = .ok (.putfield 22, 3) := by decide +kernel
theorem dX4_init_28 : decode cX4_init 28 = .ok (.return_, 1) := by decide +kernel
theorem dX5_init_0 : decode cX5_init 0 = .ok (.aload_n 0, 1) := by decide +kernel
theorem dX5_init_1 : decode cX5_init 1 = .ok (.invokespecial 3, 3) := by decide +kernel
theorem dX5_init_4 : decode cX5_init 4 = .ok (.aload_n 0, 1) := by decide +kernel
theorem dX5_init_5 : decode cX5_init 5 = .ok (.bipush 20, 2) := by decide +kernel
theorem dX5_init_7 : decode cX5_init 7 = .ok (.anewarray 11, 3) := by decide +kernel
theorem dX5_init_10 : decode cX5_init 10 = .ok (.putfield 13, 3) := by decide +kernel
theorem dX5_init_13 : decode cX5_init 13 = .ok (.aload_n 0, 1) := by decide +kernel
theorem dX5_init_14 : decode cX5_init 14 = .ok (.iconst 0, 1) := by decide +kernel
theorem dX5_init_15 : decode cX5_init 15 = .ok (.putfield 17, 3) := by decide +kernel
theorem dX5_init_18 : decode cX5_init 18 = .ok (.aload_n 0, 1) := by decide +kernel
theorem dX5_init_19 : decode cX5_init 19 = .ok (.iconst 0, 1) := by decide +kernel
theorem dX5_init_20 : decode cX5_init 20 = .ok (.putfield 21, 3) := by decide +kernel
theorem dX5_init_23 : decode cX5_init 23 = .ok (.return_, 1) := by decide +kernel
theorem dX7_init_0 : decode cX7_init 0 = .ok (.aload_n 0, 1) := by decide +kernel
theorem dX7_init_1 : decode cX7_init 1 = .ok (.invokespecial 3, 3) := by decide +kernel
theorem dX7_init_4 : decode cX7_init 4 = .ok (.aload_n 0, 1) := by decide +kernel
theorem dX7_init_5 : decode cX7_init 5 = .ok (.sipush 400, 3) := by decide +kernel
theorem dX7_init_8 : decode cX7_init 8 = .ok (.newarray .int, 2) := by decide +kernel
theorem dX7_init_10 : decode cX7_init 10 = .ok (.putfield 9, 3) := by decide +kernel
theorem dX7_init_13 : decode cX7_init 13 = .ok (.aload_n 0, 1) := by decide +kernel
theorem dX7_init_14 : decode cX7_init 14 = .ok (.iconst 0, 1) := by decide +kernel
theorem dX7_init_15 : decode cX7_init 15 = .ok (.putfield 15, 3) := by decide +kernel
theorem dX7_init_18 : decode cX7_init 18 = .ok (.aload_n 0, 1) := by decide +kernel
theorem dX7_init_19 : decode cX7_init 19 = .ok (.iconst 0, 1) := by decide +kernel
theorem dX7_init_20 : decode cX7_init 20 = .ok (.putfield 19, 3) := by decide +kernel
theorem dX7_init_23 : decode cX7_init 23 = .ok (.return_, 1) := by decide +kernel
theorem dX8_init_0 : decode cX8_init 0 = .ok (.aload_n 0, 1) := by decide +kernel
theorem dX8_init_1 : decode cX8_init 1 = .ok (.invokespecial 3, 3) := by decide +kernel
theorem dX8_init_4 : decode cX8_init 4 = .ok (.aload_n 0, 1) := by decide +kernel
theorem dX8_init_5 : decode cX8_init 5 = .ok (.new 9, 3) := by decide +kernel
theorem dX8_init_8 : decode cX8_init 8 = .ok (.dup, 1) := by decide +kernel
theorem dX8_init_9 : decode cX8_init 9 = .ok (.invokespecial 11, 3) := by decide +kernel
theorem dX8_init_12 : decode cX8_init 12 = .ok (.putfield 12, 3) := by decide +kernel
theorem dX8_init_15 : decode cX8_init 15 = .ok (.aload_n 0, 1) := by decide +kernel
theorem dX8_init_16 : decode cX8_init 16 = .ok (.new 9, 3) := by decide +kernel
theorem dX8_init_19 : decode cX8_init 19 = .ok (.dup, 1) := by decide +kernel
theorem dX8_init_20 : decode cX8_init 20 = .ok (.invokespecial 11, 3) := by decide +kernel
theorem dX8_init_23 : decode cX8_init 23 = .ok (.putfield 18, 3) := by decide +kernel
theorem dX8_init_26 : decode cX8_init 26 = .ok (.aload_n 0, 1) := by decide +kernel
theorem dX8_init_27 : decode cX8_init 27 = .ok (.new 21, 3) := by decide +kernel
theorem dX8_init_30 : decode cX8_init 30 = .ok (.dup, 1) := by decide +kernel
theorem dX8_init_31 : decode cX8_init 31 = .ok (.invokespecial 23, 3) := by decide +kernel
theorem dX8_init_34 : decode cX8_init 34 = .ok (.putfield 24, 3) := by decide +kernel
theorem dX8_init_37 : decode cX8_init 37 = .ok (.aload_n 0, 1) := by decide +kernel
theorem dX8_init_38 : decode cX8_init 38 = .ok (.iconst (-1), 1) := by decide +kernel
theorem dX8_init_39 : decode cX8_init 39 = .ok (.putfield 28, 3) := by decide +kernel
theorem dX8_init_42 : decode cX8_init 42 = .ok (.aload_n 0, 1) := by decide +kernel
theorem dX8_init_43 : decode cX8_init 43 = .ok (.iconst 0, 1) := by decide +kernel
theorem dX8_init_44 : decode cX8_init 44 = .ok (.putfield 32, 3) := by decide +kernel
theorem dX8_init_47 : decode cX8_init 47 = .ok (.return_, 1) := by decide +kernel
theorem dX9_init_0 : decode cX9_init 0 = .ok (.aload_n 0, 1) := by decide +kernel
theorem dX9_init_1 : decode cX9_init 1 = .ok (.invokespecial 3, 3) := by decide +kernel
theorem dX9_init_4 : decode cX9_init 4 = .ok (.aload_n 0, 1) := by decide +kernel
theorem dX9_init_5 : decode cX9_init 5 = .ok (.iconst 0, 1) := by decide +kernel
theorem dX9_init_6 : decode cX9_init 6 = .ok (.putfield 9, 3) := by decide +kernel
theorem dX9_init_9 : decode cX9_init 9 = .ok (.aload_n 0, 1) := by decide +kernel
theorem dX9_init_10 : decode cX9_init 10 = .ok (.iconst 0, 1) := by decide +kernel
theorem dX9_init_11 : decode cX9_init 11 = .ok (.putfield 15, 3) := by decide +kernel
theorem dX9_init_14 : decode cX9_init 14 = .ok (.aload_n 0, 1) := by decide +kernel
theorem dX9_init_15 : decode cX9_init 15 = .ok (.iconst 0, 1) := by decide +kernel
theorem dX9_init_16 : decode cX9_init 16 = .ok (.putfield 18, 3) := by decide +kernel
theorem dX9_init_19 : decode cX9_init 19 = .ok (.aload_n 0, 1) := by decide +kernel
theorem dX9_init_20 : decode cX9_init 20 = .ok (.iconst 0, 1) := by decide +kernel
theorem dX9_init_21 : decode cX9_init 21 = .ok (.putfield 21, 3) := by decide +kernel
theorem dX9_init_24 : decode cX9_init 24 = .ok (.aload_n 0, 1) := by decide +kernel
theorem dX9_init_25 : decode cX9_init 25 = .ok (.iconst 0, 1) := by decide +kernel
theorem dX9_init_26 : decode cX9_init 26 = .ok (.putfield 24, 3) := by decide +kernel
theorem dX9_init_29 : decode cX9_init 29 = .ok (.aload_n 0, 1) := by decide +kernel
theorem dX9_init_30 : decode cX9_init 30 = .ok (.iconst 0, 1) := by decide +kernel
theorem dX9_init_31 : decode cX9_init 31 = .ok (.putfield 27, 3) := by decide +kernel
theorem dX9_init_34 : decode cX9_init 34 = .ok (.aload_n 0, 1) := by decide +kernel
theorem dX9_init_35 : decode cX9_init 35 = .ok (.bipush 10, 2) := by decide +kernel
theorem dX9_init_37 : decode cX9_init 37 = .ok (.newarray .int, 2) := by decide +kernel
theorem dX9_init_39 : decode cX9_init 39 = .ok (.putfield 30, 3) := by decide +kernel
theorem dX9_init_42 : decode cX9_init 42 = .ok (.aload_n 0, 1) := by decide +kernel
theorem dX9_init_43 : decode cX9_init 43 = .ok (.bipush 10, 2) := by decide +kernel
theorem dX9_init_45 : decode cX9_init 45 = .ok (.newarray .int, 2) := by decide +kernel
theorem dX9_init_47 : decode cX9_init 47 = .ok (.putfield 34, 3) := by decide +kernel
theorem dX9_init_50 : decode cX9_init 50 = .ok (.aload_n 0, 1) := by decide +kernel
theorem dX9_init_51 : decode cX9_init 51 = .ok (.bipush 6, 2) := by decide +kernel
theorem dX9_init_53 : decode cX9_init 53 = .ok (.newarray .int, 2) := by decide +kernel
theorem dX9_init_55 : decode cX9_init 55 = .ok (.putfield 37, 3) := by decide +kernel
theorem dX9_init_58 : decode cX9_init 58 = .ok (.aload_n 0, 1) := by decide +kernel
theorem dX9_init_59 : decode cX9_init 59 = .ok (.bipush 6, 2) := by decide +kernel
theorem dX9_init_61 : decode cX9_init 61 = .ok (.newarray .int, 2) := by decide +kernel
theorem dX9_init_63 : decode cX9_init 63 = .ok (.putfield 40, 3) := by decide +kernel
theorem dX9_init_66 : decode cX9_init 66 = .ok (.aload_n 0, 1) := by decide +kernel
theorem dX9_init_67 : decode cX9_init 67 = .ok (.bipush 6, 2) := by decide +kernel
theorem dX9_init_69 : decode cX9_init 69 = .ok (.newarray .int, 2) := by decide +kernel
theorem dX9_init_71 : decode cX9_init 71 = .ok (.putfield 43, 3) := by decide +kernel
theorem dX9_init_74 : decode cX9_init 74 = .ok (.aload_n 0, 1) := by decide +kernel
theorem dX9_init_75 : decode cX9_init 75 = .ok (.bipush 6, 2) := by decide +kernel
theorem dX9_init_77 : decode cX9_init 77 = .ok (.newarray .int, 2) := by decide +kernel
theorem dX9_init_79 : decode cX9_init 79 = .ok (.putfield 46, 3) := by decide +kernel
theorem dX9_init_82 : decode cX9_init 82 = .ok (.aload_n 0, 1) := by decide +kernel
theorem dX9_init_83 : decode cX9_init 83 = .ok (.bipush 6, 2) := by decide +kernel
theorem dX9_init_85 : decode cX9_init 85 = .ok (.newarray .int, 2) := by decide +kernel
theorem dX9_init_87 : decode cX9_init 87 = .ok (.putfield 49, 3) := by decide +kernel
theorem dX9_init_90 : decode cX9_init 90 = .ok (.aload_n 0, 1) := by decide +kernel
theorem dX9_init_91 : decode cX9_init 91 = .ok (.bipush 6, 2) := by decide +kernel
theorem dX9_init_93 : decode cX9_init 93 = .ok (.newarray .int, 2) := by decide +kernel
theorem dX9_init_95 : decode cX9_init 95 = .ok (.putfield 52, 3) := by decide +kernel
theorem dX9_init_98 : decode cX9_init 98 = .ok (.return_, 1) := by decide +kernel
set_option maxHeartbeats 4000000 in
set_option maxRecDepth 100000 in
theorem ct_X9_init (l : Launch) (D : va_G) (tc : Nat → ClassId) (sk : (Nat → Nat) × (Nat → Nat)) (h0 : Nat)  : Ct l yX9_init cX9_init 1 none { frames := 1, cells := 8, slots := 56, locals := 12 } D tc sk [.ref h0] [(h0, .inr (9, [.int 0, .int 0, .int 0, .int 0, .int 0, .int 0, .null, .null, .null, .null, .null, .null, .null, .null]))] (fun (v : Option Value) (u : (Nat) × (Nat) × (Nat) × (Nat) × (Nat) × (Nat) × (Nat) × (Nat)) => match u with | (b1, b2, b3, b4, b5, b6, b7, b8) => v = none) (fun (u : (Nat) × (Nat) × (Nat) × (Nat) × (Nat) × (Nat) × (Nat) × (Nat)) => match u with | (b1, b2, b3, b4, b5, b6, b7, b8) => [(h0, .inr (9, [.int 0, .int 0, .int 0, .int 0, .int 0, .int 0, .ref b1, .ref b2, .ref b3, .ref b4, .ref b5, .ref b6, .ref b7, .ref b8])), (b1, .inl (tc 0, 10, .inl (fun _ => 0))), (b2, .inl (tc 0, 10, .inl (fun _ => 0))), (b3, .inl (tc 0, 6, .inl (fun _ => 0))), (b4, .inl (tc 0, 6, .inl (fun _ => 0))), (b5, .inl (tc 0, 6, .inl (fun _ => 0))), (b6, .inl (tc 0, 6, .inl (fun _ => 0))), (b7, .inl (tc 0, 6, .inl (fun _ => 0))), (b8, .inl (tc 0, 6, .inl (fun _ => 0)))]) 8 56 := by
  refine Ct.start (by decide) (Nat.le_of_ble_eq_true rfl) (fun p e s m below meth c A ls hx hb hr hlk hin hml hown hts hK hX hP hD hA hl hS => ?_)
  have hl : lv_has ls 1 [(0, .ref h0)] := hl
  refine lv_aload_n hx hb dX9_init_0 rfl (lv_at hl 0 rfl) ?_
  refine W.objInit hx hb hown (hts _ k_168) (hts _ k_122) (hts _ k_123) rfl (by rw [hml]; exact hl.1) rfl dX9_init_1 (Nat.le_of_ble_eq_true rfl) (Nat.le_of_ble_eq_true rfl) ?_
  refine W.eq (g2 := F0 m 4 ls []) rfl ?_
  refine lv_aload_n hx hb dX9_init_4 rfl (lv_at hl 0 rfl) ?_
  refine lv_iconst (v := 0) hx hb dX9_init_5 (by decide) ?_
  refine pf_X9_9 hx hb hts hown hK hP hD hS 0 rfl (Nat.le_of_ble_eq_true rfl) rfl rfl dX9_init_6 (fun H locs hP hD hS => ?_)
  have hP : va_P D classes [(h0, .inr (9, [.int 0, .int 0, .int 0, .int 0, .int 0, .int 0, .null, .null, .null, .null, .null, .null, .null, .null]))] H := hP
  have hD : va_D A [(h0, .inr (9, [.int 0, .int 0, .int 0, .int 0, .int 0, .int 0, .null, .null, .null, .null, .null, .null, .null, .null]))] := hD
  refine lv_aload_n hx hb dX9_init_9 rfl (lv_at hl 0 rfl) ?_
  refine lv_iconst (v := 0) hx hb dX9_init_10 (by decide) ?_
  refine pf_X9_15 hx hb hts hown hK hP hD hS 0 rfl (Nat.le_of_ble_eq_true rfl) rfl rfl dX9_init_11 (fun H locs hP hD hS => ?_)
  have hP : va_P D classes [(h0, .inr (9, [.int 0, .int 0, .int 0, .int 0, .int 0, .int 0, .null, .null, .null, .null, .null, .null, .null, .null]))] H := hP
  have hD : va_D A [(h0, .inr (9, [.int 0, .int 0, .int 0, .int 0, .int 0, .int 0, .null, .null, .null, .null, .null, .null, .null, .null]))] := hD
  refine lv_aload_n hx hb dX9_init_14 rfl (lv_at hl 0 rfl) ?_
  refine lv_iconst (v := 0) hx hb dX9_init_15 (by decide) ?_
  refine pf_X9_18 hx hb hts hown hK hP hD hS 0 rfl (Nat.le_of_ble_eq_true rfl) rfl rfl dX9_init_16 (fun H locs hP hD hS => ?_)
  have hP : va_P D classes [(h0, .inr (9, [.int 0, .int 0, .int 0, .int 0, .int 0, .int 0, .null, .null, .null, .null, .null, .null, .null, .null]))] H := hP
  have hD : va_D A [(h0, .inr (9, [.int 0, .int 0, .int 0, .int 0, .int 0, .int 0, .null, .null, .null, .null, .null, .null, .null, .null]))] := hD
  refine lv_aload_n hx hb dX9_init_19 rfl (lv_at hl 0 rfl) ?_
  refine lv_iconst (v := 0) hx hb dX9_init_20 (by decide) ?_
  refine pf_X9_21 hx hb hts hown hK hP hD hS 0 rfl (Nat.le_of_ble_eq_true rfl) rfl rfl dX9_init_21 (fun H locs hP hD hS => ?_)
  have hP : va_P D classes [(h0, .inr (9, [.int 0, .int 0, .int 0, .int 0, .int 0, .int 0, .null, .null, .null, .null, .null, .null, .null, .null]))] H := hP
  have hD : va_D A [(h0, .inr (9, [.int 0, .int 0, .int 0, .int 0, .int 0, .int 0, .null, .null, .null, .null, .null, .null, .null, .null]))] := hD
  refine lv_aload_n hx hb dX9_init_24 rfl (lv_at hl 0 rfl) ?_
  refine lv_iconst (v := 0) hx hb dX9_init_25 (by decide) ?_
  refine pf_X9_24 hx hb hts hown hK hP hD hS 0 rfl (Nat.le_of_ble_eq_true rfl) rfl rfl dX9_init_26 (fun H locs hP hD hS => ?_)
  have hP : va_P D classes [(h0, .inr (9, [.int 0, .int 0, .int 0, .int 0, .int 0, .int 0, .null, .null, .null, .null, .null, .null, .null, .null]))] H := hP
  have hD : va_D A [(h0, .inr (9, [.int 0, .int 0, .int 0, .int 0, .int 0, .int 0, .null, .null, .null, .null, .null, .null, .null, .null]))] := hD
  refine lv_aload_n hx hb dX9_init_29 rfl (lv_at hl 0 rfl) ?_
  refine lv_iconst (v := 0) hx hb dX9_init_30 (by decide) ?_
  refine pf_X9_27 hx hb hts hown hK hP hD hS 0 rfl (Nat.le_of_ble_eq_true rfl) rfl rfl dX9_init_31 (fun H locs hP hD hS => ?_)
  have hP : va_P D classes [(h0, .inr (9, [.int 0, .int 0, .int 0, .int 0, .int 0, .int 0, .null, .null, .null, .null, .null, .null, .null, .null]))] H := hP
  have hD : va_D A [(h0, .inr (9, [.int 0, .int 0, .int 0, .int 0, .int 0, .int 0, .null, .null, .null, .null, .null, .null, .null, .null]))] := hD
  refine lv_aload_n hx hb dX9_init_34 rfl (lv_at hl 0 rfl) ?_
  refine lv_bipush (v := 10) hx hb dX9_init_35 (by decide) ?_
  refine nwA (atype := .int) (a0 := (10, .inl (fun _ => 0))) hx hb (hts _ k_156) rfl hK hP hD hS hA 0 rfl (fun _ => rfl) (by decide) (by decide) (by decide) (Nat.le_of_ble_eq_true rfl) (Nat.le_of_ble_eq_true rfl) dX9_init_37 (fun q_1 H hP hD hS => ?_)
  have hP : va_P D classes [(h0, .inr (9, [.int 0, .int 0, .int 0, .int 0, .int 0, .int 0, .null, .null, .null, .null, .null, .null, .null, .null])), (q_1, .inl (tc 0, 10, .inl (fun _ => 0)))] H := hP
  have hD : va_D A [(h0, .inr (9, [.int 0, .int 0, .int 0, .int 0, .int 0, .int 0, .null, .null, .null, .null, .null, .null, .null, .null])), (q_1, .inl (tc 0, 10, .inl (fun _ => 0)))] := hD
  refine pf_X9_30 (ty := (.array .int)) hx hb hts hown hin hK hP hD hS 0 rfl (Nat.le_of_ble_eq_true rfl) (by decide +kernel) rfl rfl dX9_init_39 (fun H locs hP hD hS => ?_)
  have hP : va_P D classes [(h0, .inr (9, [.int 0, .int 0, .int 0, .int 0, .int 0, .int 0, .ref q_1, .null, .null, .null, .null, .null, .null, .null])), (q_1, .inl (tc 0, 10, .inl (fun _ => 0)))] H := hP
  have hD : va_D A [(h0, .inr (9, [.int 0, .int 0, .int 0, .int 0, .int 0, .int 0, .ref q_1, .null, .null, .null, .null, .null, .null, .null])), (q_1, .inl (tc 0, 10, .inl (fun _ => 0)))] := hD
  refine lv_aload_n hx hb dX9_init_42 rfl (lv_at hl 0 rfl) ?_
  refine lv_bipush (v := 10) hx hb dX9_init_43 (by decide) ?_
  refine nwA (atype := .int) (a0 := (10, .inl (fun _ => 0))) hx hb (hts _ k_156) rfl hK hP hD hS hA 0 rfl (fun _ => rfl) (by decide) (by decide) (by decide) (Nat.le_of_ble_eq_true rfl) (Nat.le_of_ble_eq_true rfl) dX9_init_45 (fun q_2 H hP hD hS => ?_)
  have hP : va_P D classes [(h0, .inr (9, [.int 0, .int 0, .int 0, .int 0, .int 0, .int 0, .ref q_1, .null, .null, .null, .null, .null, .null, .null])), (q_1, .inl (tc 0, 10, .inl (fun _ => 0))), (q_2, .inl (tc 0, 10, .inl (fun _ => 0)))] H := hP
  have hD : va_D A [(h0, .inr (9, [.int 0, .int 0, .int 0, .int 0, .int 0, .int 0, .ref q_1, .null, .null, .null, .null, .null, .null, .null])), (q_1, .inl (tc 0, 10, .inl (fun _ => 0))), (q_2, .inl (tc 0, 10, .inl (fun _ => 0)))] := hD
  refine pf_X9_34 (ty := (.array .int)) hx hb hts hown hin hK hP hD hS 0 rfl (Nat.le_of_ble_eq_true rfl) (by decide +kernel) rfl rfl dX9_init_47 (fun H locs hP hD hS => ?_)
  have hP : va_P D classes [(h0, .inr (9, [.int 0, .int 0, .int 0, .int 0, .int 0, .int 0, .ref q_1, .ref q_2, .null, .null, .null, .null, .null, .null])), (q_1, .inl (tc 0, 10, .inl (fun _ => 0))), (q_2, .inl (tc 0, 10, .inl (fun _ => 0)))] H := hP
  have hD : va_D A [(h0, .inr (9, [.int 0, .int 0, .int 0, .int 0, .int 0, .int 0, .ref q_1, .ref q_2, .null, .null, .null, .null, .null, .null])), (q_1, .inl (tc 0, 10, .inl (fun _ => 0))), (q_2, .inl (tc 0, 10, .inl (fun _ => 0)))] := hD
  refine lv_aload_n hx hb dX9_init_50 rfl (lv_at hl 0 rfl) ?_
  refine lv_bipush (v := 6) hx hb dX9_init_51 (by decide) ?_
  refine nwA (atype := .int) (a0 := (6, .inl (fun _ => 0))) hx hb (hts _ k_156) rfl hK hP hD hS hA 0 rfl (fun _ => rfl) (by decide) (by decide) (by decide) (Nat.le_of_ble_eq_true rfl) (Nat.le_of_ble_eq_true rfl) dX9_init_53 (fun q_3 H hP hD hS => ?_)
  have hP : va_P D classes [(h0, .inr (9, [.int 0, .int 0, .int 0, .int 0, .int 0, .int 0, .ref q_1, .ref q_2, .null, .null, .null, .null, .null, .null])), (q_1, .inl (tc 0, 10, .inl (fun _ => 0))), (q_2, .inl (tc 0, 10, .inl (fun _ => 0))), (q_3, .inl (tc 0, 6, .inl (fun _ => 0)))] H := hP
  have hD : va_D A [(h0, .inr (9, [.int 0, .int 0, .int 0, .int 0, .int 0, .int 0, .ref q_1, .ref q_2, .null, .null, .null, .null, .null, .null])), (q_1, .inl (tc 0, 10, .inl (fun _ => 0))), (q_2, .inl (tc 0, 10, .inl (fun _ => 0))), (q_3, .inl (tc 0, 6, .inl (fun _ => 0)))] := hD
  refine pf_X9_37 (ty := (.array .int)) hx hb hts hown hin hK hP hD hS 0 rfl (Nat.le_of_ble_eq_true rfl) (by decide +kernel) rfl rfl dX9_init_55 (fun H locs hP hD hS => ?_)
  have hP : va_P D classes [(h0, .inr (9, [.int 0, .int 0, .int 0, .int 0, .int 0, .int 0, .ref q_1, .ref q_2, .ref q_3, .null, .null, .null, .null, .null])), (q_1, .inl (tc 0, 10, .inl (fun _ => 0))), (q_2, .inl (tc 0, 10, .inl (fun _ => 0))), (q_3, .inl (tc 0, 6, .inl (fun _ => 0)))] H := hP
  have hD : va_D A [(h0, .inr (9, [.int 0, .int 0, .int 0, .int 0, .int 0, .int 0, .ref q_1, .ref q_2, .ref q_3, .null, .null, .null, .null, .null])), (q_1, .inl (tc 0, 10, .inl (fun _ => 0))), (q_2, .inl (tc 0, 10, .inl (fun _ => 0))), (q_3, .inl (tc 0, 6, .inl (fun _ => 0)))] := hD
  refine lv_aload_n hx hb dX9_init_58 rfl (lv_at hl 0 rfl) ?_
  refine lv_bipush (v := 6) hx hb dX9_init_59 (by decide) ?_
  refine nwA (atype := .int) (a0 := (6, .inl (fun _ => 0))) hx hb (hts _ k_156) rfl hK hP hD hS hA 0 rfl (fun _ => rfl) (by decide) (by decide) (by decide) (Nat.le_of_ble_eq_true rfl) (Nat.le_of_ble_eq_true rfl) dX9_init_61 (fun q_4 H hP hD hS => ?_)
  have hP : va_P D classes [(h0, .inr (9, [.int 0, .int 0, .int 0, .int 0, .int 0, .int 0, .ref q_1, .ref q_2, .ref q_3, .null, .null, .null, .null, .null])), (q_1, .inl (tc 0, 10, .inl (fun _ => 0))), (q_2, .inl (tc 0, 10, .inl (fun _ => 0))), (q_3, .inl (tc 0, 6, .inl (fun _ => 0))), (q_4, .inl (tc 0, 6, .inl (fun _ => 0)))] H := hP
  have hD : va_D A [(h0, .inr (9, [.int 0, .int 0, .int 0, .int 0, .int 0, .int 0, .ref q_1, .ref q_2, .ref q_3, .null, .null, .null, .null, .null])), (q_1, .inl (tc 0, 10, .inl (fun _ => 0))), (q_2, .inl (tc 0, 10, .inl (fun _ => 0))), (q_3, .inl (tc 0, 6, .inl (fun _ => 0))), (q_4, .inl (tc 0, 6, .inl (fun _ => 0)))] := hD
  refine pf_X9_40 (ty := (.array .int)) hx hb hts hown hin hK hP hD hS 0 rfl (Nat.le_of_ble_eq_true rfl) (by decide +kernel) rfl rfl dX9_init_63 (fun H locs hP hD hS => ?_)
  have hP : va_P D classes [(h0, .inr (9, [.int 0, .int 0, .int 0, .int 0, .int 0, .int 0, .ref q_1, .ref q_2, .ref q_3, .ref q_4, .null, .null, .null, .null])), (q_1, .inl (tc 0, 10, .inl (fun _ => 0))), (q_2, .inl (tc 0, 10, .inl (fun _ => 0))), (q_3, .inl (tc 0, 6, .inl (fun _ => 0))), (q_4, .inl (tc 0, 6, .inl (fun _ => 0)))] H := hP
  have hD : va_D A [(h0, .inr (9, [.int 0, .int 0, .int 0, .int 0, .int 0, .int 0, .ref q_1, .ref q_2, .ref q_3, .ref q_4, .null, .null, .null, .null])), (q_1, .inl (tc 0, 10, .inl (fun _ => 0))), (q_2, .inl (tc 0, 10, .inl (fun _ => 0))), (q_3, .inl (tc 0, 6, .inl (fun _ => 0))), (q_4, .inl (tc 0, 6, .inl (fun _ => 0)))] := hD
  refine lv_aload_n hx hb dX9_init_66 rfl (lv_at hl 0 rfl) ?_
  refine lv_bipush (v := 6) hx hb dX9_init_67 (by decide) ?_
  refine nwA (atype := .int) (a0 := (6, .inl (fun _ => 0))) hx hb (hts _ k_156) rfl hK hP hD hS hA 0 rfl (fun _ => rfl) (by decide) (by decide) (by decide) (Nat.le_of_ble_eq_true rfl) (Nat.le_of_ble_eq_true rfl) dX9_init_69 (fun q_5 H hP hD hS => ?_)
  have hP : va_P D classes [(h0, .inr (9, [.int 0, .int 0, .int 0, .int 0, .int 0, .int 0, .ref q_1, .ref q_2, .ref q_3, .ref q_4, .null, .null, .null, .null])), (q_1, .inl (tc 0, 10, .inl (fun _ => 0))), (q_2, .inl (tc 0, 10, .inl (fun _ => 0))), (q_3, .inl (tc 0, 6, .inl (fun _ => 0))), (q_4, .inl (tc 0, 6, .inl (fun _ => 0))), (q_5, .inl (tc 0, 6, .inl (fun _ => 0)))] H := hP
  have hD : va_D A [(h0, .inr (9, [.int 0, .int 0, .int 0, .int 0, .int 0, .int 0, .ref q_1, .ref q_2, .ref q_3, .ref q_4, .null, .null, .null, .null])), (q_1, .inl (tc 0, 10, .inl (fun _ => 0))), (q_2, .inl (tc 0, 10, .inl (fun _ => 0))), (q_3, .inl (tc 0, 6, .inl (fun _ => 0))), (q_4, .inl (tc 0, 6, .inl (fun _ => 0))), (q_5, .inl (tc 0, 6, .inl (fun _ => 0)))] := hD
  refine pf_X9_43 (ty := (.array .int)) hx hb hts hown hin hK hP hD hS 0 rfl (Nat.le_of_ble_eq_true rfl) (by decide +kernel) rfl rfl dX9_init_71 (fun H locs hP hD hS => ?_)
  have hP : va_P D classes [(h0, .inr (9, [.int 0, .int 0, .int 0, .int 0, .int 0, .int 0, .ref q_1, .ref q_2, .ref q_3, .ref q_4, .ref q_5, .null, .null, .null])), (q_1, .inl (tc 0, 10, .inl (fun _ => 0))), (q_2, .inl (tc 0, 10, .inl (fun _ => 0))), (q_3, .inl (tc 0, 6, .inl (fun _ => 0))), (q_4, .inl (tc 0, 6, .inl (fun _ => 0))), (q_5, .inl (tc 0, 6, .inl (fun _ => 0)))] H := hP
  have hD : va_D A [(h0, .inr (9, [.int 0, .int 0, .int 0, .int 0, .int 0, .int 0, .ref q_1, .ref q_2, .ref q_3, .ref q_4, .ref q_5, .null, .null, .null])), (q_1, .inl (tc 0, 10, .inl (fun _ => 0))), (q_2, .inl (tc 0, 10, .inl (fun _ => 0))), (q_3, .inl (tc 0, 6, .inl (fun _ => 0))), (q_4, .inl (tc 0, 6, .inl (fun _ => 0))), (q_5, .inl (tc 0, 6, .inl (fun _ => 0)))] := hD
  refine lv_aload_n hx hb dX9_init_74 rfl (lv_at hl 0 rfl) ?_
  refine lv_bipush (v := 6) hx hb dX9_init_75 (by decide) ?_
  refine nwA (atype := .int) (a0 := (6, .inl (fun _ => 0))) hx hb (hts _ k_156) rfl hK hP hD hS hA 0 rfl (fun _ => rfl) (by decide) (by decide) (by decide) (Nat.le_of_ble_eq_true rfl) (Nat.le_of_ble_eq_true rfl) dX9_init_77 (fun q_6 H hP hD hS => ?_)
  have hP : va_P D classes [(h0, .inr (9, [.int 0, .int 0, .int 0, .int 0, .int 0, .int 0, .ref q_1, .ref q_2, .ref q_3, .ref q_4, .ref q_5, .null, .null, .null])), (q_1, .inl (tc 0, 10, .inl (fun _ => 0))), (q_2, .inl (tc 0, 10, .inl (fun _ => 0))), (q_3, .inl (tc 0, 6, .inl (fun _ => 0))), (q_4, .inl (tc 0, 6, .inl (fun _ => 0))), (q_5, .inl (tc 0, 6, .inl (fun _ => 0))), (q_6, .inl (tc 0, 6, .inl (fun _ => 0)))] H := hP
  have hD : va_D A [(h0, .inr (9, [.int 0, .int 0, .int 0, .int 0, .int 0, .int 0, .ref q_1, .ref q_2, .ref q_3, .ref q_4, .ref q_5, .null, .null, .null])), (q_1, .inl (tc 0, 10, .inl (fun _ => 0))), (q_2, .inl (tc 0, 10, .inl (fun _ => 0))), (q_3, .inl (tc 0, 6, .inl (fun _ => 0))), (q_4, .inl (tc 0, 6, .inl (fun _ => 0))), (q_5, .inl (tc 0, 6, .inl (fun _ => 0))), (q_6, .inl (tc 0, 6, .inl (fun _ => 0)))] := hD
  refine pf_X9_46 (ty := (.array .int)) hx hb hts hown hin hK hP hD hS 0 rfl (Nat.le_of_ble_eq_true rfl) (by decide +kernel) rfl rfl dX9_init_79 (fun H locs hP hD hS => ?_)
  have hP : va_P D classes [(h0, .inr (9, [.int 0, .int 0, .int 0, .int 0, .int 0, .int 0, .ref q_1, .ref q_2, .ref q_3, .ref q_4, .ref q_5, .ref q_6, .null, .null])), (q_1, .inl (tc 0, 10, .inl (fun _ => 0))), (q_2, .inl (tc 0, 10, .inl (fun _ => 0))), (q_3, .inl (tc 0, 6, .inl (fun _ => 0))), (q_4, .inl (tc 0, 6, .inl (fun _ => 0))), (q_5, .inl (tc 0, 6, .inl (fun _ => 0))), (q_6, .inl (tc 0, 6, .inl (fun _ => 0)))] H := hP
  have hD : va_D A [(h0, .inr (9, [.int 0, .int 0, .int 0, .int 0, .int 0, .int 0, .ref q_1, .ref q_2, .ref q_3, .ref q_4, .ref q_5, .ref q_6, .null, .null])), (q_1, .inl (tc 0, 10, .inl (fun _ => 0))), (q_2, .inl (tc 0, 10, .inl (fun _ => 0))), (q_3, .inl (tc 0, 6, .inl (fun _ => 0))), (q_4, .inl (tc 0, 6, .inl (fun _ => 0))), (q_5, .inl (tc 0, 6, .inl (fun _ => 0))), (q_6, .inl (tc 0, 6, .inl (fun _ => 0)))] := hD
  refine lv_aload_n hx hb dX9_init_82 rfl (lv_at hl 0 rfl) ?_
  refine lv_bipush (v := 6) hx hb dX9_init_83 (by decide) ?_
  refine nwA (atype := .int) (a0 := (6, .inl (fun _ => 0))) hx hb (hts _ k_156) rfl hK hP hD hS hA 0 rfl (fun _ => rfl) (by decide) (by decide) (by decide) (Nat.le_of_ble_eq_true rfl) (Nat.le_of_ble_eq_true rfl) dX9_init_85 (fun q_7 H hP hD hS => ?_)
  have hP : va_P D classes [(h0, .inr (9, [.int 0, .int 0, .int 0, .int 0, .int 0, .int 0, .ref q_1, .ref q_2, .ref q_3, .ref q_4, .ref q_5, .ref q_6, .null, .null])), (q_1, .inl (tc 0, 10, .inl (fun _ => 0))), (q_2, .inl (tc 0, 10, .inl (fun _ => 0))), (q_3, .inl (tc 0, 6, .inl (fun _ => 0))), (q_4, .inl (tc 0, 6, .inl (fun _ => 0))), (q_5, .inl (tc 0, 6, .inl (fun _ => 0))), (q_6, .inl (tc 0, 6, .inl (fun _ => 0))), (q_7, .inl (tc 0, 6, .inl (fun _ => 0)))] H := hP
  have hD : va_D A [(h0, .inr (9, [.int 0, .int 0, .int 0, .int 0, .int 0, .int 0, .ref q_1, .ref q_2, .ref q_3, .ref q_4, .ref q_5, .ref q_6, .null, .null])), (q_1, .inl (tc 0, 10, .inl (fun _ => 0))), (q_2, .inl (tc 0, 10, .inl (fun _ => 0))), (q_3, .inl (tc 0, 6, .inl (fun _ => 0))), (q_4, .inl (tc 0, 6, .inl (fun _ => 0))), (q_5, .inl (tc 0, 6, .inl (fun _ => 0))), (q_6, .inl (tc 0, 6, .inl (fun _ => 0))), (q_7, .inl (tc 0, 6, .inl (fun _ => 0)))] := hD
  refine pf_X9_49 (ty := (.array .int)) hx hb hts hown hin hK hP hD hS 0 rfl (Nat.le_of_ble_eq_true rfl) (by decide +kernel) rfl rfl dX9_init_87 (fun H locs hP hD hS => ?_)
  have hP : va_P D classes [(h0, .inr (9, [.int 0, .int 0, .int 0, .int 0, .int 0, .int 0, .ref q_1, .ref q_2, .ref q_3, .ref q_4, .ref q_5, .ref q_6, .ref q_7, .null])), (q_1, .inl (tc 0, 10, .inl (fun _ => 0))), (q_2, .inl (tc 0, 10, .inl (fun _ => 0))), (q_3, .inl (tc 0, 6, .inl (fun _ => 0))), (q_4, .inl (tc 0, 6, .inl (fun _ => 0))), (q_5, .inl (tc 0, 6, .inl (fun _ => 0))), (q_6, .inl (tc 0, 6, .inl (fun _ => 0))), (q_7, .inl (tc 0, 6, .inl (fun _ => 0)))] H := hP
  have hD : va_D A [(h0, .inr (9, [.int 0, .int 0, .int 0, .int 0, .int 0, .int 0, .ref q_1, .ref q_2, .ref q_3, .ref q_4, .ref q_5, .ref q_6, .ref q_7, .null])), (q_1, .inl (tc 0, 10, .inl (fun _ => 0))), (q_2, .inl (tc 0, 10, .inl (fun _ => 0))), (q_3, .inl (tc 0, 6, .inl (fun _ => 0))), (q_4, .inl (tc 0, 6, .inl (fun _ => 0))), (q_5, .inl (tc 0, 6, .inl (fun _ => 0))), (q_6, .inl (tc 0, 6, .inl (fun _ => 0))), (q_7, .inl (tc 0, 6, .inl (fun _ => 0)))] := hD
  refine lv_aload_n hx hb dX9_init_90 rfl (lv_at hl 0 rfl) ?_
  refine lv_bipush (v := 6) hx hb dX9_init_91 (by decide) ?_
  refine nwA (atype := .int) (a0 := (6, .inl (fun _ => 0))) hx hb (hts _ k_156) rfl hK hP hD hS hA 0 rfl (fun _ => rfl) (by decide) (by decide) (by decide) (Nat.le_of_ble_eq_true rfl) (Nat.le_of_ble_eq_true rfl) dX9_init_93 (fun q_8 H hP hD hS => ?_)
  have hP : va_P D classes [(h0, .inr (9, [.int 0, .int 0, .int 0, .int 0, .int 0, .int 0, .ref q_1, .ref q_2, .ref q_3, .ref q_4, .ref q_5, .ref q_6, .ref q_7, .null])), (q_1, .inl (tc 0, 10, .inl (fun _ => 0))), (q_2, .inl (tc 0, 10, .inl (fun _ => 0))), (q_3, .inl (tc 0, 6, .inl (fun _ => 0))), (q_4, .inl (tc 0, 6, .inl (fun _ => 0))), (q_5, .inl (tc 0, 6, .inl (fun _ => 0))), (q_6, .inl (tc 0, 6, .inl (fun _ => 0))), (q_7, .inl (tc 0, 6, .inl (fun _ => 0))), (q_8, .inl (tc 0, 6, .inl (fun _ => 0)))] H := hP
  have hD : va_D A [(h0, .inr (9, [.int 0, .int 0, .int 0, .int 0, .int 0, .int 0, .ref q_1, .ref q_2, .ref q_3, .ref q_4, .ref q_5, .ref q_6, .ref q_7, .null])), (q_1, .inl (tc 0, 10, .inl (fun _ => 0))), (q_2, .inl (tc 0, 10, .inl (fun _ => 0))), (q_3, .inl (tc 0, 6, .inl (fun _ => 0))), (q_4, .inl (tc 0, 6, .inl (fun _ => 0))), (q_5, .inl (tc 0, 6, .inl (fun _ => 0))), (q_6, .inl (tc 0, 6, .inl (fun _ => 0))), (q_7, .inl (tc 0, 6, .inl (fun _ => 0))), (q_8, .inl (tc 0, 6, .inl (fun _ => 0)))] := hD
  refine pf_X9_52 (ty := (.array .int)) hx hb hts hown hin hK hP hD hS 0 rfl (Nat.le_of_ble_eq_true rfl) (by decide +kernel) rfl rfl dX9_init_95 (fun H locs hP hD hS => ?_)
  have hP : va_P D classes [(h0, .inr (9, [.int 0, .int 0, .int 0, .int 0, .int 0, .int 0, .ref q_1, .ref q_2, .ref q_3, .ref q_4, .ref q_5, .ref q_6, .ref q_7, .ref q_8])), (q_1, .inl (tc 0, 10, .inl (fun _ => 0))), (q_2, .inl (tc 0, 10, .inl (fun _ => 0))), (q_3, .inl (tc 0, 6, .inl (fun _ => 0))), (q_4, .inl (tc 0, 6, .inl (fun _ => 0))), (q_5, .inl (tc 0, 6, .inl (fun _ => 0))), (q_6, .inl (tc 0, 6, .inl (fun _ => 0))), (q_7, .inl (tc 0, 6, .inl (fun _ => 0))), (q_8, .inl (tc 0, 6, .inl (fun _ => 0)))] H := hP
  have hD : va_D A [(h0, .inr (9, [.int 0, .int 0, .int 0, .int 0, .int 0, .int 0, .ref q_1, .ref q_2, .ref q_3, .ref q_4, .ref q_5, .ref q_6, .ref q_7, .ref q_8])), (q_1, .inl (tc 0, 10, .inl (fun _ => 0))), (q_2, .inl (tc 0, 10, .inl (fun _ => 0))), (q_3, .inl (tc 0, 6, .inl (fun _ => 0))), (q_4, .inl (tc 0, 6, .inl (fun _ => 0))), (q_5, .inl (tc 0, 6, .inl (fun _ => 0))), (q_6, .inl (tc 0, 6, .inl (fun _ => 0))), (q_7, .inl (tc 0, 6, .inl (fun _ => 0))), (q_8, .inl (tc 0, 6, .inl (fun _ => 0)))] := hD
  exact retV hx hb hr hlk hP hD hS (q_1, q_2, q_3, q_4, q_5, q_6, q_7, q_8) rfl [0, 1, 2, 3, 4, 5, 6, 7, 8] rfl rfl dX9_init_98 (Nat.le_of_ble_eq_true rfl) (Nat.le_of_ble_eq_true rfl) rfl
set_option maxHeartbeats 4000000 in
set_option maxRecDepth 100000 in
theorem ct_X10_init (l : Launch) (D : va_G) (tc : Nat → ClassId) (sk : (Nat → Nat) × (Nat → Nat)) (h0 : Nat)  : Ct l yX10_init cX10_init 1 none { frames := 1, cells := 1, slots := 400, locals := 12 } D tc sk [.ref h0] [(h0, .inr (10, [.null, .int 0, .int 0, .int 0, .int 0, .int 0]))] (fun (v : Option Value) (b1 : Nat) => v = none) (fun (b1 : Nat) => [(h0, .inr (10, [.ref b1, .int 0, .int 0, .int 0, .int (-1), .int 0])), (b1, .inl (tc 0, 400, .inl (fun _ => 0)))]) 1 400 := by
  refine Ct.start (by decide) (Nat.le_of_ble_eq_true rfl) (fun p e s m below meth c A ls hx hb hr hlk hin hml hown hts hK hX hP hD hA hl hS => ?_)
  have hl : lv_has ls 1 [(0, .ref h0)] := hl
  refine lv_aload_n hx hb dX10_init_0 rfl (lv_at hl 0 rfl) ?_
  refine W.objInit hx hb hown (hts _ k_129) (hts _ k_122) (hts _ k_123) rfl (by rw [hml]; exact hl.1) rfl dX10_init_1 (Nat.le_of_ble_eq_true rfl) (Nat.le_of_ble_eq_true rfl) ?_
  refine W.eq (g2 := F0 m 4 ls []) rfl ?_
  refine lv_aload_n hx hb dX10_init_4 rfl (lv_at hl 0 rfl) ?_
  refine lv_sipush (v := 400) hx hb dX10_init_5 (by decide) ?_
  refine nwA (atype := .int) (a0 := (400, .inl (fun _ => 0))) hx hb (hts _ k_156) rfl hK hP hD hS hA 0 rfl (fun _ => rfl) (by decide) (by decide) (by decide) (Nat.le_of_ble_eq_true rfl) (Nat.le_of_ble_eq_true rfl) dX10_init_8 (fun q_1 H hP hD hS => ?_)
  have hP : va_P D classes [(h0, .inr (10, [.null, .int 0, .int 0, .int 0, .int 0, .int 0])), (q_1, .inl (tc 0, 400, .inl (fun _ => 0)))] H := hP
  have hD : va_D A [(h0, .inr (10, [.null, .int 0, .int 0, .int 0, .int 0, .int 0])), (q_1, .inl (tc 0, 400, .inl (fun _ => 0)))] := hD
  refine pf_X10_9 (ty := (.array .int)) hx hb hts hown hin hK hP hD hS 0 rfl (Nat.le_of_ble_eq_true rfl) (by decide +kernel) rfl rfl dX10_init_10 (fun H locs hP hD hS => ?_)
  have hP : va_P D classes [(h0, .inr (10, [.ref q_1, .int 0, .int 0, .int 0, .int 0, .int 0])), (q_1, .inl (tc 0, 400, .inl (fun _ => 0)))] H := hP
  have hD : va_D A [(h0, .inr (10, [.ref q_1, .int 0, .int 0, .int 0, .int 0, .int 0])), (q_1, .inl (tc 0, 400, .inl (fun _ => 0)))] := hD
  refine lv_aload_n hx hb dX10_init_13 rfl (lv_at hl 0 rfl) ?_
  refine lv_iconst (v := 0) hx hb dX10_init_14 (by decide) ?_
  refine pf_X10_15 hx hb hts hown hK hP hD hS 0 rfl (Nat.le_of_ble_eq_true rfl) rfl rfl dX10_init_15 (fun H locs hP hD hS => ?_)
  have hP : va_P D classes [(h0, .inr (10, [.ref q_1, .int 0, .int 0, .int 0, .int 0, .int 0])), (q_1, .inl (tc 0, 400, .inl (fun _ => 0)))] H := hP
  have hD : va_D A [(h0, .inr (10, [.ref q_1, .int 0, .int 0, .int 0, .int 0, .int 0])), (q_1, .inl (tc 0, 400, .inl (fun _ => 0)))] := hD
  refine lv_aload_n hx hb dX10_init_18 rfl (lv_at hl 0 rfl) ?_
  refine lv_iconst (v := 0) hx hb dX10_init_19 (by decide) ?_
  refine pf_X10_19 hx hb hts hown hK hP hD hS 0 rfl (Nat.le_of_ble_eq_true rfl) rfl rfl dX10_init_20 (fun H locs hP hD hS => ?_)
  have hP : va_P D classes [(h0, .inr (10, [.ref q_1, .int 0, .int 0, .int 0, .int 0, .int 0])), (q_1, .inl (tc 0, 400, .inl (fun _ => 0)))] H := hP
  have hD : va_D A [(h0, .inr (10, [.ref q_1, .int 0, .int 0, .int 0, .int 0, .int 0])), (q_1, .inl (tc 0, 400, .inl (fun _ => 0)))] := hD
  refine lv_aload_n hx hb dX10_init_23 rfl (lv_at hl 0 rfl) ?_
  refine lv_iconst (v := 0) hx hb dX10_init_24 (by decide) ?_
  refine pf_X10_22 hx hb hts hown hK hP hD hS 0 rfl (Nat.le_of_ble_eq_true rfl) rfl rfl dX10_init_25 (fun H locs hP hD hS => ?_)
  have hP : va_P D classes [(h0, .inr (10, [.ref q_1, .int 0, .int 0, .int 0, .int 0, .int 0])), (q_1, .inl (tc 0, 400, .inl (fun _ => 0)))] H := hP
  have hD : va_D A [(h0, .inr (10, [.ref q_1, .int 0, .int 0, .int 0, .int 0, .int 0])), (q_1, .inl (tc 0, 400, .inl (fun _ => 0)))] := hD
  refine lv_aload_n hx hb dX10_init_28 rfl (lv_at hl 0 rfl) ?_
  refine lv_iconst (v := (-1)) hx hb dX10_init_29 (by decide) ?_
  refine pf_X10_25 hx hb hts hown hK hP hD hS 0 rfl (Nat.le_of_ble_eq_true rfl) rfl rfl dX10_init_30 (fun H locs hP hD hS => ?_)
  have hP : va_P D classes [(h0, .inr (10, [.ref q_1, .int 0, .int 0, .int 0, .int (-1), .int 0])), (q_1, .inl (tc 0, 400, .inl (fun _ => 0)))] H := hP
  have hD : va_D A [(h0, .inr (10, [.ref q_1, .int 0, .int 0, .int 0, .int (-1), .int 0])), (q_1, .inl (tc 0, 400, .inl (fun _ => 0)))] := hD
  refine lv_aload_n hx hb dX10_init_33 rfl (lv_at hl 0 rfl) ?_
  refine lv_iconst (v := 0) hx hb dX10_init_34 (by decide) ?_
  refine pf_X10_28 hx hb hts hown hK hP hD hS 0 rfl (Nat.le_of_ble_eq_true rfl) rfl rfl dX10_init_35 (fun H locs hP hD hS => ?_)
  have hP : va_P D classes [(h0, .inr (10, [.ref q_1, .int 0, .int 0, .int 0, .int (-1), .int 0])), (q_1, .inl (tc 0, 400, .inl (fun _ => 0)))] H := hP
  have hD : va_D A [(h0, .inr (10, [.ref q_1, .int 0, .int 0, .int 0, .int (-1), .int 0])), (q_1, .inl (tc 0, 400, .inl (fun _ => 0)))] := hD
  exact retV hx hb hr hlk hP hD hS q_1 rfl [0, 1] rfl rfl dX10_init_38 (Nat.le_of_ble_eq_true rfl) (Nat.le_of_ble_eq_true rfl) rfl
set_option maxHeartbeats 4000000 in
set_option maxRecDepth 100000 in
theorem ct_X3_init (l : Launch) (D : va_G) (tc : Nat → ClassId) (sk : (Nat → Nat) × (Nat → Nat)) (h0 : Nat)  : Ct l yX3_init cX3_init 1 none { frames := 1, cells := 3, slots := 30, locals := 12 } D tc sk [.ref h0] [(h0, .inr (3, [.null, .null, .null, .int 0]))] (fun (v : Option Value) (u : (Nat) × (Nat) × (Nat)) => match u with | (b1, b2, b3) => v = none) (fun (u : (Nat) × (Nat) × (Nat)) => match u with | (b1, b2, b3) => [(h0, .inr (3, [.ref b1, .ref b2, .ref b3, .int 0])), (b1, .inl (tc 0, 10, .inl (fun _ => 0))), (b2, .inl (tc 0, 10, .inl (fun _ => 0))), (b3, .inl (tc 0, 10, .inl (fun _ => 0)))]) 3 30 := by
  refine Ct.start (by decide) (Nat.le_of_ble_eq_true rfl) (fun p e s m below meth c A ls hx hb hr hlk hin hml hown hts hK hX hP hD hA hl hS => ?_)
  have hl : lv_has ls 1 [(0, .ref h0)] := hl
  refine lv_aload_n hx hb dX3_init_0 rfl (lv_at hl 0 rfl) ?_
  refine W.objInit hx hb hown (hts _ k_283) (hts _ k_122) (hts _ k_123) rfl (by rw [hml]; exact hl.1) rfl dX3_init_1 (Nat.le_of_ble_eq_true rfl) (Nat.le_of_ble_eq_true rfl) ?_
  refine W.eq (g2 := F0 m 4 ls []) rfl ?_
  refine lv_aload_n hx hb dX3_init_4 rfl (lv_at hl 0 rfl) ?_
  refine lv_bipush (v := 10) hx hb dX3_init_5 (by decide) ?_
  refine nwA (atype := .int) (a0 := (10, .inl (fun _ => 0))) hx hb (hts _ k_156) rfl hK hP hD hS hA 0 rfl (fun _ => rfl) (by decide) (by decide) (by decide) (Nat.le_of_ble_eq_true rfl) (Nat.le_of_ble_eq_true rfl) dX3_init_7 (fun q_1 H hP hD hS => ?_)
  have hP : va_P D classes [(h0, .inr (3, [.null, .null, .null, .int 0])), (q_1, .inl (tc 0, 10, .inl (fun _ => 0)))] H := hP
  have hD : va_D A [(h0, .inr (3, [.null, .null, .null, .int 0])), (q_1, .inl (tc 0, 10, .inl (fun _ => 0)))] := hD
  refine pf_X3_9 (ty := (.array .int)) hx hb hts hown hin hK hP hD hS 0 rfl (Nat.le_of_ble_eq_true rfl) (by decide +kernel) rfl rfl dX3_init_9 (fun H locs hP hD hS => ?_)
  have hP : va_P D classes [(h0, .inr (3, [.ref q_1, .null, .null, .int 0])), (q_1, .inl (tc 0, 10, .inl (fun _ => 0)))] H := hP
  have hD : va_D A [(h0, .inr (3, [.ref q_1, .null, .null, .int 0])), (q_1, .inl (tc 0, 10, .inl (fun _ => 0)))] := hD
  refine lv_aload_n hx hb dX3_init_12 rfl (lv_at hl 0 rfl) ?_
  refine lv_bipush (v := 10) hx hb dX3_init_13 (by decide) ?_
  refine nwA (atype := .int) (a0 := (10, .inl (fun _ => 0))) hx hb (hts _ k_156) rfl hK hP hD hS hA 0 rfl (fun _ => rfl) (by decide) (by decide) (by decide) (Nat.le_of_ble_eq_true rfl) (Nat.le_of_ble_eq_true rfl) dX3_init_15 (fun q_2 H hP hD hS => ?_)
  have hP : va_P D classes [(h0, .inr (3, [.ref q_1, .null, .null, .int 0])), (q_1, .inl (tc 0, 10, .inl (fun _ => 0))), (q_2, .inl (tc 0, 10, .inl (fun _ => 0)))] H := hP
  have hD : va_D A [(h0, .inr (3, [.ref q_1, .null, .null, .int 0])), (q_1, .inl (tc 0, 10, .inl (fun _ => 0))), (q_2, .inl (tc 0, 10, .inl (fun _ => 0)))] := hD
  refine pf_X3_13 (ty := (.array .int)) hx hb hts hown hin hK hP hD hS 0 rfl (Nat.le_of_ble_eq_true rfl) (by decide +kernel) rfl rfl dX3_init_17 (fun H locs hP hD hS => ?_)
  have hP : va_P D classes [(h0, .inr (3, [.ref q_1, .ref q_2, .null, .int 0])), (q_1, .inl (tc 0, 10, .inl (fun _ => 0))), (q_2, .inl (tc 0, 10, .inl (fun _ => 0)))] H := hP
  have hD : va_D A [(h0, .inr (3, [.ref q_1, .ref q_2, .null, .int 0])), (q_1, .inl (tc 0, 10, .inl (fun _ => 0))), (q_2, .inl (tc 0, 10, .inl (fun _ => 0)))] := hD
  refine lv_aload_n hx hb dX3_init_20 rfl (lv_at hl 0 rfl) ?_
  refine lv_bipush (v := 10) hx hb dX3_init_21 (by decide) ?_
  refine nwA (atype := .int) (a0 := (10, .inl (fun _ => 0))) hx hb (hts _ k_156) rfl hK hP hD hS hA 0 rfl (fun _ => rfl) (by decide) (by decide) (by decide) (Nat.le_of_ble_eq_true rfl) (Nat.le_of_ble_eq_true rfl) dX3_init_23 (fun q_3 H hP hD hS => ?_)
  have hP : va_P D classes [(h0, .inr (3, [.ref q_1, .ref q_2, .null, .int 0])), (q_1, .inl (tc 0, 10, .inl (fun _ => 0))), (q_2, .inl (tc 0, 10, .inl (fun _ => 0))), (q_3, .inl (tc 0, 10, .inl (fun _ => 0)))] H := hP
  have hD : va_D A [(h0, .inr (3, [.ref q_1, .ref q_2, .null, .int 0])), (q_1, .inl (tc 0, 10, .inl (fun _ => 0))), (q_2, .inl (tc 0, 10, .inl (fun _ => 0))), (q_3, .inl (tc 0, 10, .inl (fun _ => 0)))] := hD
  refine pf_X3_16 (ty := (.array .int)) hx hb hts hown hin hK hP hD hS 0 rfl (Nat.le_of_ble_eq_true rfl) (by decide +kernel) rfl rfl dX3_init_25 (fun H locs hP hD hS => ?_)
  have hP : va_P D classes [(h0, .inr (3, [.ref q_1, .ref q_2, .ref q_3, .int 0])), (q_1, .inl (tc 0, 10, .inl (fun _ => 0))), (q_2, .inl (tc 0, 10, .inl (fun _ => 0))), (q_3, .inl (tc 0, 10, .inl (fun _ => 0)))] H := hP
  have hD : va_D A [(h0, .inr (3, [.ref q_1, .ref q_2, .ref q_3, .int 0])), (q_1, .inl (tc 0, 10, .inl (fun _ => 0))), (q_2, .inl (tc 0, 10, .inl (fun _ => 0))), (q_3, .inl (tc 0, 10, .inl (fun _ => 0)))] := hD
  refine lv_aload_n hx hb dX3_init_28 rfl (lv_at hl 0 rfl) ?_
  refine lv_iconst (v := 0) hx hb dX3_init_29 (by decide) ?_
  refine pf_X3_19 hx hb hts hown hK hP hD hS 0 rfl (Nat.le_of_ble_eq_true rfl) rfl rfl dX3_init_30 (fun H locs hP hD hS => ?_)
  have hP : va_P D classes [(h0, .inr (3, [.ref q_1, .ref q_2, .ref q_3, .int 0])), (q_1, .inl (tc 0, 10, .inl (fun _ => 0))), (q_2, .inl (tc 0, 10, .inl (fun _ => 0))), (q_3, .inl (tc 0, 10, .inl (fun _ => 0)))] H := hP
  have hD : va_D A [(h0, .inr (3, [.ref q_1, .ref q_2, .ref q_3, .int 0])), (q_1, .inl (tc 0, 10, .inl (fun _ => 0))), (q_2, .inl (tc 0, 10, .inl (fun _ => 0))), (q_3, .inl (tc 0, 10, .inl (fun _ => 0)))] := hD
  exact retV hx hb hr hlk hP hD hS (q_1, q_2, q_3) rfl [0, 1, 2, 3] rfl rfl dX3_init_33 (Nat.le_of_ble_eq_true rfl) (Nat.le_of_ble_eq_true rfl) rfl
set_option maxHeartbeats 4000000 in
set_option maxRecDepth 100000 in
theorem ct_X0_init (l : Launch) (D : va_G) (tc : Nat → ClassId) (sk : (Nat → Nat) × (Nat → Nat)) (h0 : Nat)  : Ct l yX0_init cX0_init 1 none { frames := 2, cells := 9, slots := 70, locals := 32 } D tc sk [.ref h0] [(h0, .inr (0, [.null]))] (fun (v : Option Value) (u : (Nat) × (Nat) × (Nat) × (Nat) × (Nat) × (Nat) × (Nat) × (Nat) × (Nat)) => match u with | (b0, b1, b2, b3, b4, b5, b6, b7, b8) => v = none) (fun (u : (Nat) × (Nat) × (Nat) × (Nat) × (Nat) × (Nat) × (Nat) × (Nat) × (Nat)) => match u with | (b0, b1, b2, b3, b4, b5, b6, b7, b8) => [(h0, .inr (0, [.ref b0])), (b0, .inr (9, [.int 0, .int 0, .int 0, .int 0, .int 0, .int 0, .ref b1, .ref b2, .ref b3, .ref b4, .ref b5, .ref b6, .ref b7, .ref b8])), (b1, .inl (tc 0, 10, .inl (fun _ => 0))), (b2, .inl (tc 0, 10, .inl (fun _ => 0))), (b3, .inl (tc 0, 6, .inl (fun _ => 0))), (b4, .inl (tc 0, 6, .inl (fun _ => 0))), (b5, .inl (tc 0, 6, .inl (fun _ => 0))), (b6, .inl (tc 0, 6, .inl (fun _ => 0))), (b7, .inl (tc 0, 6, .inl (fun _ => 0))), (b8, .inl (tc 0, 6, .inl (fun _ => 0)))]) 9 70 := by
  refine Ct.start (by decide) (Nat.le_of_ble_eq_true rfl) (fun p e s m below meth c A ls hx hb hr hlk hin hml hown hts hK hX hP hD hA hl hS => ?_)
  have hl : lv_has ls 1 [(0, .ref h0)] := hl
  refine lv_aload_n hx hb dX0_init_0 rfl (lv_at hl 0 rfl) ?_
  refine W.objInit hx hb hown (hts _ k_162) (hts _ k_122) (hts _ k_123) rfl (by rw [hml]; exact hl.1) rfl dX0_init_1 (Nat.le_of_ble_eq_true rfl) (Nat.le_of_ble_eq_true rfl) ?_
  refine W.eq (g2 := F0 m 4 ls []) rfl ?_
  refine lv_aload_n hx hb dX0_init_4 rfl (lv_at hl 0 rfl) ?_
  refine va_new (ci := 9) (fs := [.int 0, .int 0, .int 0, .int 0, .int 0, .int 0, .null, .null, .null, .null, .null, .null, .null, .null]) (C := RX9) (T := TX9) (N := 14) hx hb hts iX9 tyX9 tyX9_ok hown (hts _ k_163) (hts _ k_164) (hts _ k_98) hK hP hD hS hA rfl dfX9 (Nat.le_of_ble_eq_true rfl) (Nat.le_of_ble_eq_true rfl) dX0_init_5 (fun q_1 H hP hD hS => ?_)
  have hP : va_P D classes [(h0, .inr (0, [.null])), (q_1, .inr (9, [.int 0, .int 0, .int 0, .int 0, .int 0, .int 0, .null, .null, .null, .null, .null, .null, .null, .null]))] H := hP
  have hD : va_D A [(h0, .inr (0, [.null])), (q_1, .inr (9, [.int 0, .int 0, .int 0, .int 0, .int 0, .int 0, .null, .null, .null, .null, .null, .null, .null, .null]))] := hD
  refine lv_dup hx hb dX0_init_8 rfl ?_
  refine cN (a := q_1) (As := []) (rest := [.ref q_1, .ref h0]) (wr := [(h0, .inr (0, [.null]))]) ⟨hx, hb, hml, hown, hts⟩ hK hX hA (ct_X9_init l D tc sk q_1) k_167 (by decide) k_166 k_98 rfl pl_X9_init ⟨Nat.le_of_ble_eq_true rfl, Nat.le_of_ble_eq_true rfl⟩ rfl rfl  hP hD hS [1] [0] rfl rfl rfl rfl rfl (by decide) rfl hl.1 rfl (Nat.le_of_ble_eq_true rfl) dX0_init_9 ⟨Nat.le_of_ble_eq_true rfl, Nat.le_of_ble_eq_true rfl⟩ (fun v_2 u_3 H locs hv_4 hP hD hS => ?_)
  obtain ⟨b_5, b_6, b_7, b_8, b_9, b_10, b_11, b_12⟩ := u_3
  obtain rfl : v_2 = none := hv_4
  refine W.eq (g2 := F0 m 12 ls [.ref q_1, .ref h0]) rfl ?_
  have hP : va_P D classes [(h0, .inr (0, [.null])), (q_1, .inr (9, [.int 0, .int 0, .int 0, .int 0, .int 0, .int 0, .ref b_5, .ref b_6, .ref b_7, .ref b_8, .ref b_9, .ref b_10, .ref b_11, .ref b_12])), (b_5, .inl (tc 0, 10, .inl (fun _ => 0))), (b_6, .inl (tc 0, 10, .inl (fun _ => 0))), (b_7, .inl (tc 0, 6, .inl (fun _ => 0))), (b_8, .inl (tc 0, 6, .inl (fun _ => 0))), (b_9, .inl (tc 0, 6, .inl (fun _ => 0))), (b_10, .inl (tc 0, 6, .inl (fun _ => 0))), (b_11, .inl (tc 0, 6, .inl (fun _ => 0))), (b_12, .inl (tc 0, 6, .inl (fun _ => 0)))] H := hP
  have hD : va_D A [(h0, .inr (0, [.null])), (q_1, .inr (9, [.int 0, .int 0, .int 0, .int 0, .int 0, .int 0, .ref b_5, .ref b_6, .ref b_7, .ref b_8, .ref b_9, .ref b_10, .ref b_11, .ref b_12])), (b_5, .inl (tc 0, 10, .inl (fun _ => 0))), (b_6, .inl (tc 0, 10, .inl (fun _ => 0))), (b_7, .inl (tc 0, 6, .inl (fun _ => 0))), (b_8, .inl (tc 0, 6, .inl (fun _ => 0))), (b_9, .inl (tc 0, 6, .inl (fun _ => 0))), (b_10, .inl (tc 0, 6, .inl (fun _ => 0))), (b_11, .inl (tc 0, 6, .inl (fun _ => 0))), (b_12, .inl (tc 0, 6, .inl (fun _ => 0)))] := hD
  refine pf_X0_12 (ty := (.object "PoisonBook$Shop")) hx hb hts hown hin hK hP hD hS 0 rfl (Nat.le_of_ble_eq_true rfl) (by decide +kernel) rfl rfl dX0_init_12 (fun H locs hP hD hS => ?_)
  have hP : va_P D classes [(h0, .inr (0, [.ref q_1])), (q_1, .inr (9, [.int 0, .int 0, .int 0, .int 0, .int 0, .int 0, .ref b_5, .ref b_6, .ref b_7, .ref b_8, .ref b_9, .ref b_10, .ref b_11, .ref b_12])), (b_5, .inl (tc 0, 10, .inl (fun _ => 0))), (b_6, .inl (tc 0, 10, .inl (fun _ => 0))), (b_7, .inl (tc 0, 6, .inl (fun _ => 0))), (b_8, .inl (tc 0, 6, .inl (fun _ => 0))), (b_9, .inl (tc 0, 6, .inl (fun _ => 0))), (b_10, .inl (tc 0, 6, .inl (fun _ => 0))), (b_11, .inl (tc 0, 6, .inl (fun _ => 0))), (b_12, .inl (tc 0, 6, .inl (fun _ => 0)))] H := hP
  have hD : va_D A [(h0, .inr (0, [.ref q_1])), (q_1, .inr (9, [.int 0, .int 0, .int 0, .int 0, .int 0, .int 0, .ref b_5, .ref b_6, .ref b_7, .ref b_8, .ref b_9, .ref b_10, .ref b_11, .ref b_12])), (b_5, .inl (tc 0, 10, .inl (fun _ => 0))), (b_6, .inl (tc 0, 10, .inl (fun _ => 0))), (b_7, .inl (tc 0, 6, .inl (fun _ => 0))), (b_8, .inl (tc 0, 6, .inl (fun _ => 0))), (b_9, .inl (tc 0, 6, .inl (fun _ => 0))), (b_10, .inl (tc 0, 6, .inl (fun _ => 0))), (b_11, .inl (tc 0, 6, .inl (fun _ => 0))), (b_12, .inl (tc 0, 6, .inl (fun _ => 0)))] := hD
  exact retV hx hb hr hlk hP hD hS (q_1, b_5, b_6, b_7, b_8, b_9, b_10, b_11, b_12) rfl [0, 1, 2, 3, 4, 5, 6, 7, 8, 9] rfl rfl dX0_init_15 (Nat.le_of_ble_eq_true rfl) (Nat.le_of_ble_eq_true rfl) rfl
set_option maxHeartbeats 4000000 in
set_option maxRecDepth 100000 in
theorem ct_X7_init (l : Launch) (D : va_G) (tc : Nat → ClassId) (sk : (Nat → Nat) × (Nat → Nat)) (h0 : Nat)  : Ct l yX7_init cX7_init 1 none { frames := 1, cells := 1, slots := 400, locals := 12 } D tc sk [.ref h0] [(h0, .inr (7, [.null, .int 0, .int 0]))] (fun (v : Option Value) (b1 : Nat) => v = none) (fun (b1 : Nat) => [(h0, .inr (7, [.ref b1, .int 0, .int 0])), (b1, .inl (tc 0, 400, .inl (fun _ => 0)))]) 1 400 := by
  refine Ct.start (by decide) (Nat.le_of_ble_eq_true rfl) (fun p e s m below meth c A ls hx hb hr hlk hin hml hown hts hK hX hP hD hA hl hS => ?_)
  have hl : lv_has ls 1 [(0, .ref h0)] := hl
  refine lv_aload_n hx hb dX7_init_0 rfl (lv_at hl 0 rfl) ?_
  refine W.objInit hx hb hown (hts _ k_257) (hts _ k_122) (hts _ k_123) rfl (by rw [hml]; exact hl.1) rfl dX7_init_1 (Nat.le_of_ble_eq_true rfl) (Nat.le_of_ble_eq_true rfl) ?_
  refine W.eq (g2 := F0 m 4 ls []) rfl ?_
  refine lv_aload_n hx hb dX7_init_4 rfl (lv_at hl 0 rfl) ?_
  refine lv_sipush (v := 400) hx hb dX7_init_5 (by decide) ?_
  refine nwA (atype := .int) (a0 := (400, .inl (fun _ => 0))) hx hb (hts _ k_156) rfl hK hP hD hS hA 0 rfl (fun _ => rfl) (by decide) (by decide) (by decide) (Nat.le_of_ble_eq_true rfl) (Nat.le_of_ble_eq_true rfl) dX7_init_8 (fun q_1 H hP hD hS => ?_)
  have hP : va_P D classes [(h0, .inr (7, [.null, .int 0, .int 0])), (q_1, .inl (tc 0, 400, .inl (fun _ => 0)))] H := hP
  have hD : va_D A [(h0, .inr (7, [.null, .int 0, .int 0])), (q_1, .inl (tc 0, 400, .inl (fun _ => 0)))] := hD
  refine pf_X7_9 (ty := (.array .int)) hx hb hts hown hin hK hP hD hS 0 rfl (Nat.le_of_ble_eq_true rfl) (by decide +kernel) rfl rfl dX7_init_10 (fun H locs hP hD hS => ?_)
  have hP : va_P D classes [(h0, .inr (7, [.ref q_1, .int 0, .int 0])), (q_1, .inl (tc 0, 400, .inl (fun _ => 0)))] H := hP
  have hD : va_D A [(h0, .inr (7, [.ref q_1, .int 0, .int 0])), (q_1, .inl (tc 0, 400, .inl (fun _ => 0)))] := hD
  refine lv_aload_n hx hb dX7_init_13 rfl (lv_at hl 0 rfl) ?_
  refine lv_iconst (v := 0) hx hb dX7_init_14 (by decide) ?_
  refine pf_X7_15 hx hb hts hown hK hP hD hS 0 rfl (Nat.le_of_ble_eq_true rfl) rfl rfl dX7_init_15 (fun H locs hP hD hS => ?_)
  have hP : va_P D classes [(h0, .inr (7, [.ref q_1, .int 0, .int 0])), (q_1, .inl (tc 0, 400, .inl (fun _ => 0)))] H := hP
  have hD : va_D A [(h0, .inr (7, [.ref q_1, .int 0, .int 0])), (q_1, .inl (tc 0, 400, .inl (fun _ => 0)))] := hD
  refine lv_aload_n hx hb dX7_init_18 rfl (lv_at hl 0 rfl) ?_
  refine lv_iconst (v := 0) hx hb dX7_init_19 (by decide) ?_
  refine pf_X7_19 hx hb hts hown hK hP hD hS 0 rfl (Nat.le_of_ble_eq_true rfl) rfl rfl dX7_init_20 (fun H locs hP hD hS => ?_)
  have hP : va_P D classes [(h0, .inr (7, [.ref q_1, .int 0, .int 0])), (q_1, .inl (tc 0, 400, .inl (fun _ => 0)))] H := hP
  have hD : va_D A [(h0, .inr (7, [.ref q_1, .int 0, .int 0])), (q_1, .inl (tc 0, 400, .inl (fun _ => 0)))] := hD
  exact retV hx hb hr hlk hP hD hS q_1 rfl [0, 1] rfl rfl dX7_init_23 (Nat.le_of_ble_eq_true rfl) (Nat.le_of_ble_eq_true rfl) rfl
set_option maxHeartbeats 4000000 in
set_option maxRecDepth 100000 in
theorem ct_X8_init (l : Launch) (D : va_G) (tc : Nat → ClassId) (sk : (Nat → Nat) × (Nat → Nat)) (h0 : Nat)  : Ct l yX8_init cX8_init 1 none { frames := 2, cells := 22, slots := 174, locals := 32 } D tc sk [.ref h0] [(h0, .inr (8, [.null, .null, .null, .int 0, .int 0]))] (fun (v : Option Value) (u : (Nat) × (Nat) × (Nat) × (Nat) × (Nat) × (Nat) × (Nat) × (Nat) × (Nat) × (Nat) × (Nat) × (Nat) × (Nat) × (Nat) × (Nat) × (Nat) × (Nat) × (Nat) × (Nat) × (Nat) × (Nat) × (Nat)) => match u with | (e0, e1, e2, e3, e4, e5, e6, e7, e8, f0, f1, f2, f3, f4, f5, f6, f7, f8, g0, g1, g2, g3) => v = none) (fun (u : (Nat) × (Nat) × (Nat) × (Nat) × (Nat) × (Nat) × (Nat) × (Nat) × (Nat) × (Nat) × (Nat) × (Nat) × (Nat) × (Nat) × (Nat) × (Nat) × (Nat) × (Nat) × (Nat) × (Nat) × (Nat) × (Nat)) => match u with | (e0, e1, e2, e3, e4, e5, e6, e7, e8, f0, f1, f2, f3, f4, f5, f6, f7, f8, g0, g1, g2, g3) => [(h0, .inr (8, [.ref e0, .ref f0, .ref g0, .int (-1), .int 0])), (e0, .inr (9, [.int 0, .int 0, .int 0, .int 0, .int 0, .int 0, .ref e1, .ref e2, .ref e3, .ref e4, .ref e5, .ref e6, .ref e7, .ref e8])), (e1, .inl (tc 0, 10, .inl (fun _ => 0))), (e2, .inl (tc 0, 10, .inl (fun _ => 0))), (e3, .inl (tc 0, 6, .inl (fun _ => 0))), (e4, .inl (tc 0, 6, .inl (fun _ => 0))), (e5, .inl (tc 0, 6, .inl (fun _ => 0))), (e6, .inl (tc 0, 6, .inl (fun _ => 0))), (e7, .inl (tc 0, 6, .inl (fun _ => 0))), (e8, .inl (tc 0, 6, .inl (fun _ => 0))), (f0, .inr (9, [.int 0, .int 0, .int 0, .int 0, .int 0, .int 0, .ref f1, .ref f2, .ref f3, .ref f4, .ref f5, .ref f6, .ref f7, .ref f8])), (f1, .inl (tc 0, 10, .inl (fun _ => 0))), (f2, .inl (tc 0, 10, .inl (fun _ => 0))), (f3, .inl (tc 0, 6, .inl (fun _ => 0))), (f4, .inl (tc 0, 6, .inl (fun _ => 0))), (f5, .inl (tc 0, 6, .inl (fun _ => 0))), (f6, .inl (tc 0, 6, .inl (fun _ => 0))), (f7, .inl (tc 0, 6, .inl (fun _ => 0))), (f8, .inl (tc 0, 6, .inl (fun _ => 0))), (g0, .inr (3, [.ref g1, .ref g2, .ref g3, .int 0])), (g1, .inl (tc 0, 10, .inl (fun _ => 0))), (g2, .inl (tc 0, 10, .inl (fun _ => 0))), (g3, .inl (tc 0, 10, .inl (fun _ => 0)))]) 22 174 := by
  refine Ct.start (by decide) (Nat.le_of_ble_eq_true rfl) (fun p e s m below meth c A ls hx hb hr hlk hin hml hown hts hK hX hP hD hA hl hS => ?_)
  have hl : lv_has ls 1 [(0, .ref h0)] := hl
  refine lv_aload_n hx hb dX8_init_0 rfl (lv_at hl 0 rfl) ?_
  refine W.objInit hx hb hown (hts _ k_275) (hts _ k_122) (hts _ k_123) rfl (by rw [hml]; exact hl.1) rfl dX8_init_1 (Nat.le_of_ble_eq_true rfl) (Nat.le_of_ble_eq_true rfl) ?_
  refine W.eq (g2 := F0 m 4 ls []) rfl ?_
  refine lv_aload_n hx hb dX8_init_4 rfl (lv_at hl 0 rfl) ?_
  refine va_new (ci := 9) (fs := [.int 0, .int 0, .int 0, .int 0, .int 0, .int 0, .null, .null, .null, .null, .null, .null, .null, .null]) (C := RX9) (T := TX9) (N := 14) hx hb hts iX9 tyX9 tyX9_ok hown (hts _ k_276) (hts _ k_164) (hts _ k_98) hK hP hD hS hA rfl dfX9 (Nat.le_of_ble_eq_true rfl) (Nat.le_of_ble_eq_true rfl) dX8_init_5 (fun q_1 H hP hD hS => ?_)
  have hP : va_P D classes [(h0, .inr (8, [.null, .null, .null, .int 0, .int 0])), (q_1, .inr (9, [.int 0, .int 0, .int 0, .int 0, .int 0, .int 0, .null, .null, .null, .null, .null, .null, .null, .null]))] H := hP
  have hD : va_D A [(h0, .inr (8, [.null, .null, .null, .int 0, .int 0])), (q_1, .inr (9, [.int 0, .int 0, .int 0, .int 0, .int 0, .int 0, .null, .null, .null, .null, .null, .null, .null, .null]))] := hD
  refine lv_dup hx hb dX8_init_8 rfl ?_
  refine cN (a := q_1) (As := []) (rest := [.ref q_1, .ref h0]) (wr := [(h0, .inr (8, [.null, .null, .null, .int 0, .int 0]))]) ⟨hx, hb, hml, hown, hts⟩ hK hX hA (ct_X9_init l D tc sk q_1) k_167 (by decide) k_166 k_98 rfl pl_X9_init ⟨Nat.le_of_ble_eq_true rfl, Nat.le_of_ble_eq_true rfl⟩ rfl rfl  hP hD hS [1] [0] rfl rfl rfl rfl rfl (by decide) rfl hl.1 rfl (Nat.le_of_ble_eq_true rfl) dX8_init_9 ⟨Nat.le_of_ble_eq_true rfl, Nat.le_of_ble_eq_true rfl⟩ (fun v_2 u_3 H locs hv_4 hP hD hS => ?_)
  obtain ⟨b_5, b_6, b_7, b_8, b_9, b_10, b_11, b_12⟩ := u_3
  obtain rfl : v_2 = none := hv_4
  refine W.eq (g2 := F0 m 12 ls [.ref q_1, .ref h0]) rfl ?_
  have hP : va_P D classes [(h0, .inr (8, [.null, .null, .null, .int 0, .int 0])), (q_1, .inr (9, [.int 0, .int 0, .int 0, .int 0, .int 0, .int 0, .ref b_5, .ref b_6, .ref b_7, .ref b_8, .ref b_9, .ref b_10, .ref b_11, .ref b_12])), (b_5, .inl (tc 0, 10, .inl (fun _ => 0))), (b_6, .inl (tc 0, 10, .inl (fun _ => 0))), (b_7, .inl (tc 0, 6, .inl (fun _ => 0))), (b_8, .inl (tc 0, 6, .inl (fun _ => 0))), (b_9, .inl (tc 0, 6, .inl (fun _ => 0))), (b_10, .inl (tc 0, 6, .inl (fun _ => 0))), (b_11, .inl (tc 0, 6, .inl (fun _ => 0))), (b_12, .inl (tc 0, 6, .inl (fun _ => 0)))] H := hP
  have hD : va_D A [(h0, .inr (8, [.null, .null, .null, .int 0, .int 0])), (q_1, .inr (9, [.int 0, .int 0, .int 0, .int 0, .int 0, .int 0, .ref b_5, .ref b_6, .ref b_7, .ref b_8, .ref b_9, .ref b_10, .ref b_11, .ref b_12])), (b_5, .inl (tc 0, 10, .inl (fun _ => 0))), (b_6, .inl (tc 0, 10, .inl (fun _ => 0))), (b_7, .inl (tc 0, 6, .inl (fun _ => 0))), (b_8, .inl (tc 0, 6, .inl (fun _ => 0))), (b_9, .inl (tc 0, 6, .inl (fun _ => 0))), (b_10, .inl (tc 0, 6, .inl (fun _ => 0))), (b_11, .inl (tc 0, 6, .inl (fun _ => 0))), (b_12, .inl (tc 0, 6, .inl (fun _ => 0)))] := hD
  refine pf_X8_12 (ty := (.object "PoisonBook$Shop")) hx hb hts hown hin hK hP hD hS 0 rfl (Nat.le_of_ble_eq_true rfl) (by decide +kernel) rfl rfl dX8_init_12 (fun H locs hP hD hS => ?_)
  have hP : va_P D classes [(h0, .inr (8, [.ref q_1, .null, .null, .int 0, .int 0])), (q_1, .inr (9, [.int 0, .int 0, .int 0, .int 0, .int 0, .int 0, .ref b_5, .ref b_6, .ref b_7, .ref b_8, .ref b_9, .ref b_10, .ref b_11, .ref b_12])), (b_5, .inl (tc 0, 10, .inl (fun _ => 0))), (b_6, .inl (tc 0, 10, .inl (fun _ => 0))), (b_7, .inl (tc 0, 6, .inl (fun _ => 0))), (b_8, .inl (tc 0, 6, .inl (fun _ => 0))), (b_9, .inl (tc 0, 6, .inl (fun _ => 0))), (b_10, .inl (tc 0, 6, .inl (fun _ => 0))), (b_11, .inl (tc 0, 6, .inl (fun _ => 0))), (b_12, .inl (tc 0, 6, .inl (fun _ => 0)))] H := hP
  have hD : va_D A [(h0, .inr (8, [.ref q_1, .null, .null, .int 0, .int 0])), (q_1, .inr (9, [.int 0, .int 0, .int 0, .int 0, .int 0, .int 0, .ref b_5, .ref b_6, .ref b_7, .ref b_8, .ref b_9, .ref b_10, .ref b_11, .ref b_12])), (b_5, .inl (tc 0, 10, .inl (fun _ => 0))), (b_6, .inl (tc 0, 10, .inl (fun _ => 0))), (b_7, .inl (tc 0, 6, .inl (fun _ => 0))), (b_8, .inl (tc 0, 6, .inl (fun _ => 0))), (b_9, .inl (tc 0, 6, .inl (fun _ => 0))), (b_10, .inl (tc 0, 6, .inl (fun _ => 0))), (b_11, .inl (tc 0, 6, .inl (fun _ => 0))), (b_12, .inl (tc 0, 6, .inl (fun _ => 0)))] := hD
  refine lv_aload_n hx hb dX8_init_15 rfl (lv_at hl 0 rfl) ?_
  refine va_new (ci := 9) (fs := [.int 0, .int 0, .int 0, .int 0, .int 0, .int 0, .null, .null, .null, .null, .null, .null, .null, .null]) (C := RX9) (T := TX9) (N := 14) hx hb hts iX9 tyX9 tyX9_ok hown (hts _ k_276) (hts _ k_164) (hts _ k_98) hK hP hD hS hA rfl dfX9 (Nat.le_of_ble_eq_true rfl) (Nat.le_of_ble_eq_true rfl) dX8_init_16 (fun q_13 H hP hD hS => ?_)
  have hP : va_P D classes [(h0, .inr (8, [.ref q_1, .null, .null, .int 0, .int 0])), (q_1, .inr (9, [.int 0, .int 0, .int 0, .int 0, .int 0, .int 0, .ref b_5, .ref b_6, .ref b_7, .ref b_8, .ref b_9, .ref b_10, .ref b_11, .ref b_12])), (b_5, .inl (tc 0, 10, .inl (fun _ => 0))), (b_6, .inl (tc 0, 10, .inl (fun _ => 0))), (b_7, .inl (tc 0, 6, .inl (fun _ => 0))), (b_8, .inl (tc 0, 6, .inl (fun _ => 0))), (b_9, .inl (tc 0, 6, .inl (fun _ => 0))), (b_10, .inl (tc 0, 6, .inl (fun _ => 0))), (b_11, .inl (tc 0, 6, .inl (fun _ => 0))), (b_12, .inl (tc 0, 6, .inl (fun _ => 0))), (q_13, .inr (9, [.int 0, .int 0, .int 0, .int 0, .int 0, .int 0, .null, .null, .null, .null, .null, .null, .null, .null]))] H := hP
  have hD : va_D A [(h0, .inr (8, [.ref q_1, .null, .null, .int 0, .int 0])), (q_1, .inr (9, [.int 0, .int 0, .int 0, .int 0, .int 0, .int 0, .ref b_5, .ref b_6, .ref b_7, .ref b_8, .ref b_9, .ref b_10, .ref b_11, .ref b_12])), (b_5, .inl (tc 0, 10, .inl (fun _ => 0))), (b_6, .inl (tc 0, 10, .inl (fun _ => 0))), (b_7, .inl (tc 0, 6, .inl (fun _ => 0))), (b_8, .inl (tc 0, 6, .inl (fun _ => 0))), (b_9, .inl (tc 0, 6, .inl (fun _ => 0))), (b_10, .inl (tc 0, 6, .inl (fun _ => 0))), (b_11, .inl (tc 0, 6, .inl (fun _ => 0))), (b_12, .inl (tc 0, 6, .inl (fun _ => 0))), (q_13, .inr (9, [.int 0, .int 0, .int 0, .int 0, .int 0, .int 0, .null, .null, .null, .null, .null, .null, .null, .null]))] := hD
  refine lv_dup hx hb dX8_init_19 rfl ?_
  refine cN (a := q_13) (As := []) (rest := [.ref q_13, .ref h0]) (wr := [(h0, .inr (8, [.ref q_1, .null, .null, .int 0, .int 0])), (q_1, .inr (9, [.int 0, .int 0, .int 0, .int 0, .int 0, .int 0, .ref b_5, .ref b_6, .ref b_7, .ref b_8, .ref b_9, .ref b_10, .ref b_11, .ref b_12])), (b_5, .inl (tc 0, 10, .inl (fun _ => 0))), (b_6, .inl (tc 0, 10, .inl (fun _ => 0))), (b_7, .inl (tc 0, 6, .inl (fun _ => 0))), (b_8, .inl (tc 0, 6, .inl (fun _ => 0))), (b_9, .inl (tc 0, 6, .inl (fun _ => 0))), (b_10, .inl (tc 0, 6, .inl (fun _ => 0))), (b_11, .inl (tc 0, 6, .inl (fun _ => 0))), (b_12, .inl (tc 0, 6, .inl (fun _ => 0)))]) ⟨hx, hb, hml, hown, hts⟩ hK hX hA (ct_X9_init l D tc sk q_13) k_167 (by decide) k_166 k_98 rfl pl_X9_init ⟨Nat.le_of_ble_eq_true rfl, Nat.le_of_ble_eq_true rfl⟩ rfl rfl  hP hD hS [10] [0, 1, 2, 3, 4, 5, 6, 7, 8, 9] rfl rfl rfl rfl rfl (by decide) rfl hl.1 rfl (Nat.le_of_ble_eq_true rfl) dX8_init_20 ⟨Nat.le_of_ble_eq_true rfl, Nat.le_of_ble_eq_true rfl⟩ (fun v_14 u_15 H locs hv_16 hP hD hS => ?_)
  obtain ⟨b_17, b_18, b_19, b_20, b_21, b_22, b_23, b_24⟩ := u_15
  obtain rfl : v_14 = none := hv_16
  refine W.eq (g2 := F0 m 23 ls [.ref q_13, .ref h0]) rfl ?_
  have hP : va_P D classes [(h0, .inr (8, [.ref q_1, .null, .null, .int 0, .int 0])), (q_1, .inr (9, [.int 0, .int 0, .int 0, .int 0, .int 0, .int 0, .ref b_5, .ref b_6, .ref b_7, .ref b_8, .ref b_9, .ref b_10, .ref b_11, .ref b_12])), (b_5, .inl (tc 0, 10, .inl (fun _ => 0))), (b_6, .inl (tc 0, 10, .inl (fun _ => 0))), (b_7, .inl (tc 0, 6, .inl (fun _ => 0))), (b_8, .inl (tc 0, 6, .inl (fun _ => 0))), (b_9, .inl (tc 0, 6, .inl (fun _ => 0))), (b_10, .inl (tc 0, 6, .inl (fun _ => 0))), (b_11, .inl (tc 0, 6, .inl (fun _ => 0))), (b_12, .inl (tc 0, 6, .inl (fun _ => 0))), (q_13, .inr (9, [.int 0, .int 0, .int 0, .int 0, .int 0, .int 0, .ref b_17, .ref b_18, .ref b_19, .ref b_20, .ref b_21, .ref b_22, .ref b_23, .ref b_24])), (b_17, .inl (tc 0, 10, .inl (fun _ => 0))), (b_18, .inl (tc 0, 10, .inl (fun _ => 0))), (b_19, .inl (tc 0, 6, .inl (fun _ => 0))), (b_20, .inl (tc 0, 6, .inl (fun _ => 0))), (b_21, .inl (tc 0, 6, .inl (fun _ => 0))), (b_22, .inl (tc 0, 6, .inl (fun _ => 0))), (b_23, .inl (tc 0, 6, .inl (fun _ => 0))), (b_24, .inl (tc 0, 6, .inl (fun _ => 0)))] H := hP
  have hD : va_D A [(h0, .inr (8, [.ref q_1, .null, .null, .int 0, .int 0])), (q_1, .inr (9, [.int 0, .int 0, .int 0, .int 0, .int 0, .int 0, .ref b_5, .ref b_6, .ref b_7, .ref b_8, .ref b_9, .ref b_10, .ref b_11, .ref b_12])), (b_5, .inl (tc 0, 10, .inl (fun _ => 0))), (b_6, .inl (tc 0, 10, .inl (fun _ => 0))), (b_7, .inl (tc 0, 6, .inl (fun _ => 0))), (b_8, .inl (tc 0, 6, .inl (fun _ => 0))), (b_9, .inl (tc 0, 6, .inl (fun _ => 0))), (b_10, .inl (tc 0, 6, .inl (fun _ => 0))), (b_11, .inl (tc 0, 6, .inl (fun _ => 0))), (b_12, .inl (tc 0, 6, .inl (fun _ => 0))), (q_13, .inr (9, [.int 0, .int 0, .int 0, .int 0, .int 0, .int 0, .ref b_17, .ref b_18, .ref b_19, .ref b_20, .ref b_21, .ref b_22, .ref b_23, .ref b_24])), (b_17, .inl (tc 0, 10, .inl (fun _ => 0))), (b_18, .inl (tc 0, 10, .inl (fun _ => 0))), (b_19, .inl (tc 0, 6, .inl (fun _ => 0))), (b_20, .inl (tc 0, 6, .inl (fun _ => 0))), (b_21, .inl (tc 0, 6, .inl (fun _ => 0))), (b_22, .inl (tc 0, 6, .inl (fun _ => 0))), (b_23, .inl (tc 0, 6, .inl (fun _ => 0))), (b_24, .inl (tc 0, 6, .inl (fun _ => 0)))] := hD
  refine pf_X8_18 (ty := (.object "PoisonBook$Shop")) hx hb hts hown hin hK hP hD hS 0 rfl (Nat.le_of_ble_eq_true rfl) (by decide +kernel) rfl rfl dX8_init_23 (fun H locs hP hD hS => ?_)
  have hP : va_P D classes [(h0, .inr (8, [.ref q_1, .ref q_13, .null, .int 0, .int 0])), (q_1, .inr (9, [.int 0, .int 0, .int 0, .int 0, .int 0, .int 0, .ref b_5, .ref b_6, .ref b_7, .ref b_8, .ref b_9, .ref b_10, .ref b_11, .ref b_12])), (b_5, .inl (tc 0, 10, .inl (fun _ => 0))), (b_6, .inl (tc 0, 10, .inl (fun _ => 0))), (b_7, .inl (tc 0, 6, .inl (fun _ => 0))), (b_8, .inl (tc 0, 6, .inl (fun _ => 0))), (b_9, .inl (tc 0, 6, .inl (fun _ => 0))), (b_10, .inl (tc 0, 6, .inl (fun _ => 0))), (b_11, .inl (tc 0, 6, .inl (fun _ => 0))), (b_12, .inl (tc 0, 6, .inl (fun _ => 0))), (q_13, .inr (9, [.int 0, .int 0, .int 0, .int 0, .int 0, .int 0, .ref b_17, .ref b_18, .ref b_19, .ref b_20, .ref b_21, .ref b_22, .ref b_23, .ref b_24])), (b_17, .inl (tc 0, 10, .inl (fun _ => 0))), (b_18, .inl (tc 0, 10, .inl (fun _ => 0))), (b_19, .inl (tc 0, 6, .inl (fun _ => 0))), (b_20, .inl (tc 0, 6, .inl (fun _ => 0))), (b_21, .inl (tc 0, 6, .inl (fun _ => 0))), (b_22, .inl (tc 0, 6, .inl (fun _ => 0))), (b_23, .inl (tc 0, 6, .inl (fun _ => 0))), (b_24, .inl (tc 0, 6, .inl (fun _ => 0)))] H := hP
  have hD : va_D A [(h0, .inr (8, [.ref q_1, .ref q_13, .null, .int 0, .int 0])), (q_1, .inr (9, [.int 0, .int 0, .int 0, .int 0, .int 0, .int 0, .ref b_5, .ref b_6, .ref b_7, .ref b_8, .ref b_9, .ref b_10, .ref b_11, .ref b_12])), (b_5, .inl (tc 0, 10, .inl (fun _ => 0))), (b_6, .inl (tc 0, 10, .inl (fun _ => 0))), (b_7, .inl (tc 0, 6, .inl (fun _ => 0))), (b_8, .inl (tc 0, 6, .inl (fun _ => 0))), (b_9, .inl (tc 0, 6, .inl (fun _ => 0))), (b_10, .inl (tc 0, 6, .inl (fun _ => 0))), (b_11, .inl (tc 0, 6, .inl (fun _ => 0))), (b_12, .inl (tc 0, 6, .inl (fun _ => 0))), (q_13, .inr (9, [.int 0, .int 0, .int 0, .int 0, .int 0, .int 0, .ref b_17, .ref b_18, .ref b_19, .ref b_20, .ref b_21, .ref b_22, .ref b_23, .ref b_24])), (b_17, .inl (tc 0, 10, .inl (fun _ => 0))), (b_18, .inl (tc 0, 10, .inl (fun _ => 0))), (b_19, .inl (tc 0, 6, .inl (fun _ => 0))), (b_20, .inl (tc 0, 6, .inl (fun _ => 0))), (b_21, .inl (tc 0, 6, .inl (fun _ => 0))), (b_22, .inl (tc 0, 6, .inl (fun _ => 0))), (b_23, .inl (tc 0, 6, .inl (fun _ => 0))), (b_24, .inl (tc 0, 6, .inl (fun _ => 0)))] := hD
  refine lv_aload_n hx hb dX8_init_26 rfl (lv_at hl 0 rfl) ?_
  refine va_new (ci := 3) (fs := [.null, .null, .null, .int 0]) (C := RX3) (T := TX3) (N := 4) hx hb hts iX3 tyX3 tyX3_ok hown (hts _ k_278) (hts _ k_279) (hts _ k_101) hK hP hD hS hA rfl dfX3 (Nat.le_of_ble_eq_true rfl) (Nat.le_of_ble_eq_true rfl) dX8_init_27 (fun q_25 H hP hD hS => ?_)
  have hP : va_P D classes [(h0, .inr (8, [.ref q_1, .ref q_13, .null, .int 0, .int 0])), (q_1, .inr (9, [.int 0, .int 0, .int 0, .int 0, .int 0, .int 0, .ref b_5, .ref b_6, .ref b_7, .ref b_8, .ref b_9, .ref b_10, .ref b_11, .ref b_12])), (b_5, .inl (tc 0, 10, .inl (fun _ => 0))), (b_6, .inl (tc 0, 10, .inl (fun _ => 0))), (b_7, .inl (tc 0, 6, .inl (fun _ => 0))), (b_8, .inl (tc 0, 6, .inl (fun _ => 0))), (b_9, .inl (tc 0, 6, .inl (fun _ => 0))), (b_10, .inl (tc 0, 6, .inl (fun _ => 0))), (b_11, .inl (tc 0, 6, .inl (fun _ => 0))), (b_12, .inl (tc 0, 6, .inl (fun _ => 0))), (q_13, .inr (9, [.int 0, .int 0, .int 0, .int 0, .int 0, .int 0, .ref b_17, .ref b_18, .ref b_19, .ref b_20, .ref b_21, .ref b_22, .ref b_23, .ref b_24])), (b_17, .inl (tc 0, 10, .inl (fun _ => 0))), (b_18, .inl (tc 0, 10, .inl (fun _ => 0))), (b_19, .inl (tc 0, 6, .inl (fun _ => 0))), (b_20, .inl (tc 0, 6, .inl (fun _ => 0))), (b_21, .inl (tc 0, 6, .inl (fun _ => 0))), (b_22, .inl (tc 0, 6, .inl (fun _ => 0))), (b_23, .inl (tc 0, 6, .inl (fun _ => 0))), (b_24, .inl (tc 0, 6, .inl (fun _ => 0))), (q_25, .inr (3, [.null, .null, .null, .int 0]))] H := hP
  have hD : va_D A [(h0, .inr (8, [.ref q_1, .ref q_13, .null, .int 0, .int 0])), (q_1, .inr (9, [.int 0, .int 0, .int 0, .int 0, .int 0, .int 0, .ref b_5, .ref b_6, .ref b_7, .ref b_8, .ref b_9, .ref b_10, .ref b_11, .ref b_12])), (b_5, .inl (tc 0, 10, .inl (fun _ => 0))), (b_6, .inl (tc 0, 10, .inl (fun _ => 0))), (b_7, .inl (tc 0, 6, .inl (fun _ => 0))), (b_8, .inl (tc 0, 6, .inl (fun _ => 0))), (b_9, .inl (tc 0, 6, .inl (fun _ => 0))), (b_10, .inl (tc 0, 6, .inl (fun _ => 0))), (b_11, .inl (tc 0, 6, .inl (fun _ => 0))), (b_12, .inl (tc 0, 6, .inl (fun _ => 0))), (q_13, .inr (9, [.int 0, .int 0, .int 0, .int 0, .int 0, .int 0, .ref b_17, .ref b_18, .ref b_19, .ref b_20, .ref b_21, .ref b_22, .ref b_23, .ref b_24])), (b_17, .inl (tc 0, 10, .inl (fun _ => 0))), (b_18, .inl (tc 0, 10, .inl (fun _ => 0))), (b_19, .inl (tc 0, 6, .inl (fun _ => 0))), (b_20, .inl (tc 0, 6, .inl (fun _ => 0))), (b_21, .inl (tc 0, 6, .inl (fun _ => 0))), (b_22, .inl (tc 0, 6, .inl (fun _ => 0))), (b_23, .inl (tc 0, 6, .inl (fun _ => 0))), (b_24, .inl (tc 0, 6, .inl (fun _ => 0))), (q_25, .inr (3, [.null, .null, .null, .int 0]))] := hD
  refine lv_dup hx hb dX8_init_30 rfl ?_
  refine cN (a := q_25) (As := []) (rest := [.ref q_25, .ref h0]) (wr := [(h0, .inr (8, [.ref q_1, .ref q_13, .null, .int 0, .int 0])), (q_1, .inr (9, [.int 0, .int 0, .int 0, .int 0, .int 0, .int 0, .ref b_5, .ref b_6, .ref b_7, .ref b_8, .ref b_9, .ref b_10, .ref b_11, .ref b_12])), (b_5, .inl (tc 0, 10, .inl (fun _ => 0))), (b_6, .inl (tc 0, 10, .inl (fun _ => 0))), (b_7, .inl (tc 0, 6, .inl (fun _ => 0))), (b_8, .inl (tc 0, 6, .inl (fun _ => 0))), (b_9, .inl (tc 0, 6, .inl (fun _ => 0))), (b_10, .inl (tc 0, 6, .inl (fun _ => 0))), (b_11, .inl (tc 0, 6, .inl (fun _ => 0))), (b_12, .inl (tc 0, 6, .inl (fun _ => 0))), (q_13, .inr (9, [.int 0, .int 0, .int 0, .int 0, .int 0, .int 0, .ref b_17, .ref b_18, .ref b_19, .ref b_20, .ref b_21, .ref b_22, .ref b_23, .ref b_24])), (b_17, .inl (tc 0, 10, .inl (fun _ => 0))), (b_18, .inl (tc 0, 10, .inl (fun _ => 0))), (b_19, .inl (tc 0, 6, .inl (fun _ => 0))), (b_20, .inl (tc 0, 6, .inl (fun _ => 0))), (b_21, .inl (tc 0, 6, .inl (fun _ => 0))), (b_22, .inl (tc 0, 6, .inl (fun _ => 0))), (b_23, .inl (tc 0, 6, .inl (fun _ => 0))), (b_24, .inl (tc 0, 6, .inl (fun _ => 0)))]) ⟨hx, hb, hml, hown, hts⟩ hK hX hA (ct_X3_init l D tc sk q_25) k_282 (by decide) k_281 k_101 rfl pl_X3_init ⟨Nat.le_of_ble_eq_true rfl, Nat.le_of_ble_eq_true rfl⟩ rfl rfl  hP hD hS [19] [0, 1, 2, 3, 4, 5, 6, 7, 8, 9, 10, 11, 12, 13, 14, 15, 16, 17, 18] rfl rfl rfl rfl rfl (by decide) rfl hl.1 rfl (Nat.le_of_ble_eq_true rfl) dX8_init_31 ⟨Nat.le_of_ble_eq_true rfl, Nat.le_of_ble_eq_true rfl⟩ (fun v_26 u_27 H locs hv_28 hP hD hS => ?_)
  obtain ⟨b_29, b_30, b_31⟩ := u_27
  obtain rfl : v_26 = none := hv_28
  refine W.eq (g2 := F0 m 34 ls [.ref q_25, .ref h0]) rfl ?_
  have hP : va_P D classes [(h0, .inr (8, [.ref q_1, .ref q_13, .null, .int 0, .int 0])), (q_1, .inr (9, [.int 0, .int 0, .int 0, .int 0, .int 0, .int 0, .ref b_5, .ref b_6, .ref b_7, .ref b_8, .ref b_9, .ref b_10, .ref b_11, .ref b_12])), (b_5, .inl (tc 0, 10, .inl (fun _ => 0))), (b_6, .inl (tc 0, 10, .inl (fun _ => 0))), (b_7, .inl (tc 0, 6, .inl (fun _ => 0))), (b_8, .inl (tc 0, 6, .inl (fun _ => 0))), (b_9, .inl (tc 0, 6, .inl (fun _ => 0))), (b_10, .inl (tc 0, 6, .inl (fun _ => 0))), (b_11, .inl (tc 0, 6, .inl (fun _ => 0))), (b_12, .inl (tc 0, 6, .inl (fun _ => 0))), (q_13, .inr (9, [.int 0, .int 0, .int 0, .int 0, .int 0, .int 0, .ref b_17, .ref b_18, .ref b_19, .ref b_20, .ref b_21, .ref b_22, .ref b_23, .ref b_24])), (b_17, .inl (tc 0, 10, .inl (fun _ => 0))), (b_18, .inl (tc 0, 10, .inl (fun _ => 0))), (b_19, .inl (tc 0, 6, .inl (fun _ => 0))), (b_20, .inl (tc 0, 6, .inl (fun _ => 0))), (b_21, .inl (tc 0, 6, .inl (fun _ => 0))), (b_22, .inl (tc 0, 6, .inl (fun _ => 0))), (b_23, .inl (tc 0, 6, .inl (fun _ => 0))), (b_24, .inl (tc 0, 6, .inl (fun _ => 0))), (q_25, .inr (3, [.ref b_29, .ref b_30, .ref b_31, .int 0])), (b_29, .inl (tc 0, 10, .inl (fun _ => 0))), (b_30, .inl (tc 0, 10, .inl (fun _ => 0))), (b_31, .inl (tc 0, 10, .inl (fun _ => 0)))] H := hP
  have hD : va_D A [(h0, .inr (8, [.ref q_1, .ref q_13, .null, .int 0, .int 0])), (q_1, .inr (9, [.int 0, .int 0, .int 0, .int 0, .int 0, .int 0, .ref b_5, .ref b_6, .ref b_7, .ref b_8, .ref b_9, .ref b_10, .ref b_11, .ref b_12])), (b_5, .inl (tc 0, 10, .inl (fun _ => 0))), (b_6, .inl (tc 0, 10, .inl (fun _ => 0))), (b_7, .inl (tc 0, 6, .inl (fun _ => 0))), (b_8, .inl (tc 0, 6, .inl (fun _ => 0))), (b_9, .inl (tc 0, 6, .inl (fun _ => 0))), (b_10, .inl (tc 0, 6, .inl (fun _ => 0))), (b_11, .inl (tc 0, 6, .inl (fun _ => 0))), (b_12, .inl (tc 0, 6, .inl (fun _ => 0))), (q_13, .inr (9, [.int 0, .int 0, .int 0, .int 0, .int 0, .int 0, .ref b_17, .ref b_18, .ref b_19, .ref b_20, .ref b_21, .ref b_22, .ref b_23, .ref b_24])), (b_17, .inl (tc 0, 10, .inl (fun _ => 0))), (b_18, .inl (tc 0, 10, .inl (fun _ => 0))), (b_19, .inl (tc 0, 6, .inl (fun _ => 0))), (b_20, .inl (tc 0, 6, .inl (fun _ => 0))), (b_21, .inl (tc 0, 6, .inl (fun _ => 0))), (b_22, .inl (tc 0, 6, .inl (fun _ => 0))), (b_23, .inl (tc 0, 6, .inl (fun _ => 0))), (b_24, .inl (tc 0, 6, .inl (fun _ => 0))), (q_25, .inr (3, [.ref b_29, .ref b_30, .ref b_31, .int 0])), (b_29, .inl (tc 0, 10, .inl (fun _ => 0))), (b_30, .inl (tc 0, 10, .inl (fun _ => 0))), (b_31, .inl (tc 0, 10, .inl (fun _ => 0)))] := hD
  refine pf_X8_24 (ty := (.object "PoisonBook$Notes")) hx hb hts hown hin hK hP hD hS 0 rfl (Nat.le_of_ble_eq_true rfl) (by decide +kernel) rfl rfl dX8_init_34 (fun H locs hP hD hS => ?_)
  have hP : va_P D classes [(h0, .inr (8, [.ref q_1, .ref q_13, .ref q_25, .int 0, .int 0])), (q_1, .inr (9, [.int 0, .int 0, .int 0, .int 0, .int 0, .int 0, .ref b_5, .ref b_6, .ref b_7, .ref b_8, .ref b_9, .ref b_10, .ref b_11, .ref b_12])), (b_5, .inl (tc 0, 10, .inl (fun _ => 0))), (b_6, .inl (tc 0, 10, .inl (fun _ => 0))), (b_7, .inl (tc 0, 6, .inl (fun _ => 0))), (b_8, .inl (tc 0, 6, .inl (fun _ => 0))), (b_9, .inl (tc 0, 6, .inl (fun _ => 0))), (b_10, .inl (tc 0, 6, .inl (fun _ => 0))), (b_11, .inl (tc 0, 6, .inl (fun _ => 0))), (b_12, .inl (tc 0, 6, .inl (fun _ => 0))), (q_13, .inr (9, [.int 0, .int 0, .int 0, .int 0, .int 0, .int 0, .ref b_17, .ref b_18, .ref b_19, .ref b_20, .ref b_21, .ref b_22, .ref b_23, .ref b_24])), (b_17, .inl (tc 0, 10, .inl (fun _ => 0))), (b_18, .inl (tc 0, 10, .inl (fun _ => 0))), (b_19, .inl (tc 0, 6, .inl (fun _ => 0))), (b_20, .inl (tc 0, 6, .inl (fun _ => 0))), (b_21, .inl (tc 0, 6, .inl (fun _ => 0))), (b_22, .inl (tc 0, 6, .inl (fun _ => 0))), (b_23, .inl (tc 0, 6, .inl (fun _ => 0))), (b_24, .inl (tc 0, 6, .inl (fun _ => 0))), (q_25, .inr (3, [.ref b_29, .ref b_30, .ref b_31, .int 0])), (b_29, .inl (tc 0, 10, .inl (fun _ => 0))), (b_30, .inl (tc 0, 10, .inl (fun _ => 0))), (b_31, .inl (tc 0, 10, .inl (fun _ => 0)))] H := hP
  have hD : va_D A [(h0, .inr (8, [.ref q_1, .ref q_13, .ref q_25, .int 0, .int 0])), (q_1, .inr (9, [.int 0, .int 0, .int 0, .int 0, .int 0, .int 0, .ref b_5, .ref b_6, .ref b_7, .ref b_8, .ref b_9, .ref b_10, .ref b_11, .ref b_12])), (b_5, .inl (tc 0, 10, .inl (fun _ => 0))), (b_6, .inl (tc 0, 10, .inl (fun _ => 0))), (b_7, .inl (tc 0, 6, .inl (fun _ => 0))), (b_8, .inl (tc 0, 6, .inl (fun _ => 0))), (b_9, .inl (tc 0, 6, .inl (fun _ => 0))), (b_10, .inl (tc 0, 6, .inl (fun _ => 0))), (b_11, .inl (tc 0, 6, .inl (fun _ => 0))), (b_12, .inl (tc 0, 6, .inl (fun _ => 0))), (q_13, .inr (9, [.int 0, .int 0, .int 0, .int 0, .int 0, .int 0, .ref b_17, .ref b_18, .ref b_19, .ref b_20, .ref b_21, .ref b_22, .ref b_23, .ref b_24])), (b_17, .inl (tc 0, 10, .inl (fun _ => 0))), (b_18, .inl (tc 0, 10, .inl (fun _ => 0))), (b_19, .inl (tc 0, 6, .inl (fun _ => 0))), (b_20, .inl (tc 0, 6, .inl (fun _ => 0))), (b_21, .inl (tc 0, 6, .inl (fun _ => 0))), (b_22, .inl (tc 0, 6, .inl (fun _ => 0))), (b_23, .inl (tc 0, 6, .inl (fun _ => 0))), (b_24, .inl (tc 0, 6, .inl (fun _ => 0))), (q_25, .inr (3, [.ref b_29, .ref b_30, .ref b_31, .int 0])), (b_29, .inl (tc 0, 10, .inl (fun _ => 0))), (b_30, .inl (tc 0, 10, .inl (fun _ => 0))), (b_31, .inl (tc 0, 10, .inl (fun _ => 0)))] := hD
  refine lv_aload_n hx hb dX8_init_37 rfl (lv_at hl 0 rfl) ?_
  refine lv_iconst (v := (-1)) hx hb dX8_init_38 (by decide) ?_
  refine pf_X8_28 hx hb hts hown hK hP hD hS 0 rfl (Nat.le_of_ble_eq_true rfl) rfl rfl dX8_init_39 (fun H locs hP hD hS => ?_)
  have hP : va_P D classes [(h0, .inr (8, [.ref q_1, .ref q_13, .ref q_25, .int (-1), .int 0])), (q_1, .inr (9, [.int 0, .int 0, .int 0, .int 0, .int 0, .int 0, .ref b_5, .ref b_6, .ref b_7, .ref b_8, .ref b_9, .ref b_10, .ref b_11, .ref b_12])), (b_5, .inl (tc 0, 10, .inl (fun _ => 0))), (b_6, .inl (tc 0, 10, .inl (fun _ => 0))), (b_7, .inl (tc 0, 6, .inl (fun _ => 0))), (b_8, .inl (tc 0, 6, .inl (fun _ => 0))), (b_9, .inl (tc 0, 6, .inl (fun _ => 0))), (b_10, .inl (tc 0, 6, .inl (fun _ => 0))), (b_11, .inl (tc 0, 6, .inl (fun _ => 0))), (b_12, .inl (tc 0, 6, .inl (fun _ => 0))), (q_13, .inr (9, [.int 0, .int 0, .int 0, .int 0, .int 0, .int 0, .ref b_17, .ref b_18, .ref b_19, .ref b_20, .ref b_21, .ref b_22, .ref b_23, .ref b_24])), (b_17, .inl (tc 0, 10, .inl (fun _ => 0))), (b_18, .inl (tc 0, 10, .inl (fun _ => 0))), (b_19, .inl (tc 0, 6, .inl (fun _ => 0))), (b_20, .inl (tc 0, 6, .inl (fun _ => 0))), (b_21, .inl (tc 0, 6, .inl (fun _ => 0))), (b_22, .inl (tc 0, 6, .inl (fun _ => 0))), (b_23, .inl (tc 0, 6, .inl (fun _ => 0))), (b_24, .inl (tc 0, 6, .inl (fun _ => 0))), (q_25, .inr (3, [.ref b_29, .ref b_30, .ref b_31, .int 0])), (b_29, .inl (tc 0, 10, .inl (fun _ => 0))), (b_30, .inl (tc 0, 10, .inl (fun _ => 0))), (b_31, .inl (tc 0, 10, .inl (fun _ => 0)))] H := hP
  have hD : va_D A [(h0, .inr (8, [.ref q_1, .ref q_13, .ref q_25, .int (-1), .int 0])), (q_1, .inr (9, [.int 0, .int 0, .int 0, .int 0, .int 0, .int 0, .ref b_5, .ref b_6, .ref b_7, .ref b_8, .ref b_9, .ref b_10, .ref b_11, .ref b_12])), (b_5, .inl (tc 0, 10, .inl (fun _ => 0))), (b_6, .inl (tc 0, 10, .inl (fun _ => 0))), (b_7, .inl (tc 0, 6, .inl (fun _ => 0))), (b_8, .inl (tc 0, 6, .inl (fun _ => 0))), (b_9, .inl (tc 0, 6, .inl (fun _ => 0))), (b_10, .inl (tc 0, 6, .inl (fun _ => 0))), (b_11, .inl (tc 0, 6, .inl (fun _ => 0))), (b_12, .inl (tc 0, 6, .inl (fun _ => 0))), (q_13, .inr (9, [.int 0, .int 0, .int 0, .int 0, .int 0, .int 0, .ref b_17, .ref b_18, .ref b_19, .ref b_20, .ref b_21, .ref b_22, .ref b_23, .ref b_24])), (b_17, .inl (tc 0, 10, .inl (fun _ => 0))), (b_18, .inl (tc 0, 10, .inl (fun _ => 0))), (b_19, .inl (tc 0, 6, .inl (fun _ => 0))), (b_20, .inl (tc 0, 6, .inl (fun _ => 0))), (b_21, .inl (tc 0, 6, .inl (fun _ => 0))), (b_22, .inl (tc 0, 6, .inl (fun _ => 0))), (b_23, .inl (tc 0, 6, .inl (fun _ => 0))), (b_24, .inl (tc 0, 6, .inl (fun _ => 0))), (q_25, .inr (3, [.ref b_29, .ref b_30, .ref b_31, .int 0])), (b_29, .inl (tc 0, 10, .inl (fun _ => 0))), (b_30, .inl (tc 0, 10, .inl (fun _ => 0))), (b_31, .inl (tc 0, 10, .inl (fun _ => 0)))] := hD
  refine lv_aload_n hx hb dX8_init_42 rfl (lv_at hl 0 rfl) ?_
  refine lv_iconst (v := 0) hx hb dX8_init_43 (by decide) ?_
  refine pf_X8_32 hx hb hts hown hK hP hD hS 0 rfl (Nat.le_of_ble_eq_true rfl) rfl rfl dX8_init_44 (fun H locs hP hD hS => ?_)
  have hP : va_P D classes [(h0, .inr (8, [.ref q_1, .ref q_13, .ref q_25, .int (-1), .int 0])), (q_1, .inr (9, [.int 0, .int 0, .int 0, .int 0, .int 0, .int 0, .ref b_5, .ref b_6, .ref b_7, .ref b_8, .ref b_9, .ref b_10, .ref b_11, .ref b_12])), (b_5, .inl (tc 0, 10, .inl (fun _ => 0))), (b_6, .inl (tc 0, 10, .inl (fun _ => 0))), (b_7, .inl (tc 0, 6, .inl (fun _ => 0))), (b_8, .inl (tc 0, 6, .inl (fun _ => 0))), (b_9, .inl (tc 0, 6, .inl (fun _ => 0))), (b_10, .inl (tc 0, 6, .inl (fun _ => 0))), (b_11, .inl (tc 0, 6, .inl (fun _ => 0))), (b_12, .inl (tc 0, 6, .inl (fun _ => 0))), (q_13, .inr (9, [.int 0, .int 0, .int 0, .int 0, .int 0, .int 0, .ref b_17, .ref b_18, .ref b_19, .ref b_20, .ref b_21, .ref b_22, .ref b_23, .ref b_24])), (b_17, .inl (tc 0, 10, .inl (fun _ => 0))), (b_18, .inl (tc 0, 10, .inl (fun _ => 0))), (b_19, .inl (tc 0, 6, .inl (fun _ => 0))), (b_20, .inl (tc 0, 6, .inl (fun _ => 0))), (b_21, .inl (tc 0, 6, .inl (fun _ => 0))), (b_22, .inl (tc 0, 6, .inl (fun _ => 0))), (b_23, .inl (tc 0, 6, .inl (fun _ => 0))), (b_24, .inl (tc 0, 6, .inl (fun _ => 0))), (q_25, .inr (3, [.ref b_29, .ref b_30, .ref b_31, .int 0])), (b_29, .inl (tc 0, 10, .inl (fun _ => 0))), (b_30, .inl (tc 0, 10, .inl (fun _ => 0))), (b_31, .inl (tc 0, 10, .inl (fun _ => 0)))] H := hP
  have hD : va_D A [(h0, .inr (8, [.ref q_1, .ref q_13, .ref q_25, .int (-1), .int 0])), (q_1, .inr (9, [.int 0, .int 0, .int 0, .int 0, .int 0, .int 0, .ref b_5, .ref b_6, .ref b_7, .ref b_8, .ref b_9, .ref b_10, .ref b_11, .ref b_12])), (b_5, .inl (tc 0, 10, .inl (fun _ => 0))), (b_6, .inl (tc 0, 10, .inl (fun _ => 0))), (b_7, .inl (tc 0, 6, .inl (fun _ => 0))), (b_8, .inl (tc 0, 6, .inl (fun _ => 0))), (b_9, .inl (tc 0, 6, .inl (fun _ => 0))), (b_10, .inl (tc 0, 6, .inl (fun _ => 0))), (b_11, .inl (tc 0, 6, .inl (fun _ => 0))), (b_12, .inl (tc 0, 6, .inl (fun _ => 0))), (q_13, .inr (9, [.int 0, .int 0, .int 0, .int 0, .int 0, .int 0, .ref b_17, .ref b_18, .ref b_19, .ref b_20, .ref b_21, .ref b_22, .ref b_23, .ref b_24])), (b_17, .inl (tc 0, 10, .inl (fun _ => 0))), (b_18, .inl (tc 0, 10, .inl (fun _ => 0))), (b_19, .inl (tc 0, 6, .inl (fun _ => 0))), (b_20, .inl (tc 0, 6, .inl (fun _ => 0))), (b_21, .inl (tc 0, 6, .inl (fun _ => 0))), (b_22, .inl (tc 0, 6, .inl (fun _ => 0))), (b_23, .inl (tc 0, 6, .inl (fun _ => 0))), (b_24, .inl (tc 0, 6, .inl (fun _ => 0))), (q_25, .inr (3, [.ref b_29, .ref b_30, .ref b_31, .int 0])), (b_29, .inl (tc 0, 10, .inl (fun _ => 0))), (b_30, .inl (tc 0, 10, .inl (fun _ => 0))), (b_31, .inl (tc 0, 10, .inl (fun _ => 0)))] := hD
  exact retV hx hb hr hlk hP hD hS (q_1, b_5, b_6, b_7, b_8, b_9, b_10, b_11, b_12, q_13, b_17, b_18, b_19, b_20, b_21, b_22, b_23, b_24, q_25, b_29, b_30, b_31) rfl [0, 1, 2, 3, 4, 5, 6, 7, 8, 9, 10, 11, 12, 13, 14, 15, 16, 17, 18, 19, 20, 21, 22] rfl rfl dX8_init_47 (Nat.le_of_ble_eq_true rfl) (Nat.le_of_ble_eq_true rfl) rfl
set_option maxHeartbeats 4000000 in
set_option maxRecDepth 100000 in
theorem ct_X5_init (l : Launch) (D : va_G) (tc : Nat → ClassId) (sk : (Nat → Nat) × (Nat → Nat)) (h0 : Nat)  : Ct l yX5_init cX5_init 1 none { frames := 1, cells := 1, slots := 20, locals := 12 } D tc sk [.ref h0] [(h0, .inr (5, [.null, .int 0, .int 0]))] (fun (v : Option Value) (b1 : Nat) => v = none) (fun (b1 : Nat) => [(h0, .inr (5, [.ref b1, .int 0, .int 0]))]) 1 20 := by
  refine Ct.start (by decide) (Nat.le_of_ble_eq_true rfl) (fun p e s m below meth c A ls hx hb hr hlk hin hml hown hts hK hX hP hD hA hl hS => ?_)
  have hl : lv_has ls 1 [(0, .ref h0)] := hl
  refine lv_aload_n hx hb dX5_init_0 rfl (lv_at hl 0 rfl) ?_
  refine W.objInit hx hb hown (hts _ k_330) (hts _ k_122) (hts _ k_123) rfl (by rw [hml]; exact hl.1) rfl dX5_init_1 (Nat.le_of_ble_eq_true rfl) (Nat.le_of_ble_eq_true rfl) ?_
  refine W.eq (g2 := F0 m 4 ls []) rfl ?_
  refine lv_aload_n hx hb dX5_init_4 rfl (lv_at hl 0 rfl) ?_
  refine lv_bipush (v := 20) hx hb dX5_init_5 (by decide) ?_
  refine nwQ (N' := 20) hx hb hown (hts _ k_331) hX (by decide) hK hP hD hS hA 5 rfl (by decide) (by decide) (by decide) (Nat.le_of_ble_eq_true rfl) (Nat.le_of_ble_eq_true rfl) dX5_init_7 (fun q_1 H hP hD hS => ?_)
  have hP : va_P D classes [(h0, .inr (5, [.null, .int 0, .int 0])), (q_1, .inl (tc 5, 20, .inr (.inr (.inr (.inr (fun _ => none))))))] H := hP
  have hD : va_D A [(h0, .inr (5, [.null, .int 0, .int 0])), (q_1, .inl (tc 5, 20, .inr (.inr (.inr (.inr (fun _ => none))))))] := hD
  refine pf_X5_13 (ty := (.array (.object "PoisonBook$Shop"))) hx hb hts hown hin hK hP hD hS 0 rfl (Nat.le_of_ble_eq_true rfl) (by decide +kernel) rfl rfl dX5_init_10 (fun H locs hP hD hS => ?_)
  have hP : va_P D classes [(h0, .inr (5, [.ref q_1, .int 0, .int 0])), (q_1, .inl (tc 5, 20, .inr (.inr (.inr (.inr (fun _ => none))))))] H := hP
  have hD : va_D A [(h0, .inr (5, [.ref q_1, .int 0, .int 0])), (q_1, .inl (tc 5, 20, .inr (.inr (.inr (.inr (fun _ => none))))))] := hD
  refine lv_aload_n hx hb dX5_init_13 rfl (lv_at hl 0 rfl) ?_
  refine lv_iconst (v := 0) hx hb dX5_init_14 (by decide) ?_
  refine pf_X5_17 hx hb hts hown hK hP hD hS 0 rfl (Nat.le_of_ble_eq_true rfl) rfl rfl dX5_init_15 (fun H locs hP hD hS => ?_)
  have hP : va_P D classes [(h0, .inr (5, [.ref q_1, .int 0, .int 0])), (q_1, .inl (tc 5, 20, .inr (.inr (.inr (.inr (fun _ => none))))))] H := hP
  have hD : va_D A [(h0, .inr (5, [.ref q_1, .int 0, .int 0])), (q_1, .inl (tc 5, 20, .inr (.inr (.inr (.inr (fun _ => none))))))] := hD
  refine lv_aload_n hx hb dX5_init_18 rfl (lv_at hl 0 rfl) ?_
  refine lv_iconst (v := 0) hx hb dX5_init_19 (by decide) ?_
  refine pf_X5_21 hx hb hts hown hK hP hD hS 0 rfl (Nat.le_of_ble_eq_true rfl) rfl rfl dX5_init_20 (fun H locs hP hD hS => ?_)
  have hP : va_P D classes [(h0, .inr (5, [.ref q_1, .int 0, .int 0])), (q_1, .inl (tc 5, 20, .inr (.inr (.inr (.inr (fun _ => none))))))] H := hP
  have hD : va_D A [(h0, .inr (5, [.ref q_1, .int 0, .int 0])), (q_1, .inl (tc 5, 20, .inr (.inr (.inr (.inr (fun _ => none))))))] := hD
  exact retV hx hb hr hlk hP hD hS q_1 rfl [0] rfl rfl dX5_init_23 (Nat.le_of_ble_eq_true rfl) (Nat.le_of_ble_eq_true rfl) rfl
set_option maxHeartbeats 4000000 in
set_option maxRecDepth 100000 in
theorem ct_X4_init (l : Launch) (D : va_G) (tc : Nat → ClassId) (sk : (Nat → Nat) × (Nat → Nat)) (h0 : Nat)  : Ct l yX4_init cX4_init 1 none { frames := 2, cells := 10, slots := 131, locals := 32 } D tc sk [.ref h0] [(h0, .inr (4, [.null, .null, .long 0]))] (fun (v : Option Value) (_ : Unit) => v = none) (fun (_ : Unit) => []) 10 131 := by
  refine Ct.start (by decide) (Nat.le_of_ble_eq_true rfl) (fun p e s m below meth c A ls hx hb hr hlk hin hml hown hts hK hX hP hD hA hl hS => ?_)
  have hl : lv_has ls 1 [(0, .ref h0)] := hl
  refine lv_aload_n hx hb dX4_init_0 rfl (lv_at hl 0 rfl) ?_
  refine W.objInit hx hb hown (hts _ k_350) (hts _ k_122) (hts _ k_123) rfl (by rw [hml]; exact hl.1) rfl dX4_init_1 (Nat.le_of_ble_eq_true rfl) (Nat.le_of_ble_eq_true rfl) ?_
  refine W.eq (g2 := F0 m 4 ls []) rfl ?_
  refine lv_aload_n hx hb dX4_init_4 rfl (lv_at hl 0 rfl) ?_
  refine va_new (ci := 9) (fs := [.int 0, .int 0, .int 0, .int 0, .int 0, .int 0, .null, .null, .null, .null, .null, .null, .null, .null]) (C := RX9) (T := TX9) (N := 14) hx hb hts iX9 tyX9 tyX9_ok hown (hts _ k_351) (hts _ k_164) (hts _ k_98) hK hP hD hS hA rfl dfX9 (Nat.le_of_ble_eq_true rfl) (Nat.le_of_ble_eq_true rfl) dX4_init_5 (fun q_1 H hP hD hS => ?_)
  have hP : va_P D classes [(h0, .inr (4, [.null, .null, .long 0])), (q_1, .inr (9, [.int 0, .int 0, .int 0, .int 0, .int 0, .int 0, .null, .null, .null, .null, .null, .null, .null, .null]))] H := hP
  have hD : va_D A [(h0, .inr (4, [.null, .null, .long 0])), (q_1, .inr (9, [.int 0, .int 0, .int 0, .int 0, .int 0, .int 0, .null, .null, .null, .null, .null, .null, .null, .null]))] := hD
  refine lv_dup hx hb dX4_init_8 rfl ?_
  refine cN (a := q_1) (As := []) (rest := [.ref q_1, .ref h0]) (wr := [(h0, .inr (4, [.null, .null, .long 0]))]) ⟨hx, hb, hml, hown, hts⟩ hK hX hA (ct_X9_init l D tc sk q_1) k_167 (by decide) k_166 k_98 rfl pl_X9_init ⟨Nat.le_of_ble_eq_true rfl, Nat.le_of_ble_eq_true rfl⟩ rfl rfl  hP hD hS [1] [0] rfl rfl rfl rfl rfl (by decide) rfl hl.1 rfl (Nat.le_of_ble_eq_true rfl) dX4_init_9 ⟨Nat.le_of_ble_eq_true rfl, Nat.le_of_ble_eq_true rfl⟩ (fun v_2 u_3 H locs hv_4 hP hD hS => ?_)
  obtain ⟨b_5, b_6, b_7, b_8, b_9, b_10, b_11, b_12⟩ := u_3
  obtain rfl : v_2 = none := hv_4
  refine W.eq (g2 := F0 m 12 ls [.ref q_1, .ref h0]) rfl ?_
  have hP : va_P D classes [(h0, .inr (4, [.null, .null, .long 0])), (q_1, .inr (9, [.int 0, .int 0, .int 0, .int 0, .int 0, .int 0, .ref b_5, .ref b_6, .ref b_7, .ref b_8, .ref b_9, .ref b_10, .ref b_11, .ref b_12])), (b_5, .inl (tc 0, 10, .inl (fun _ => 0))), (b_6, .inl (tc 0, 10, .inl (fun _ => 0))), (b_7, .inl (tc 0, 6, .inl (fun _ => 0))), (b_8, .inl (tc 0, 6, .inl (fun _ => 0))), (b_9, .inl (tc 0, 6, .inl (fun _ => 0))), (b_10, .inl (tc 0, 6, .inl (fun _ => 0))), (b_11, .inl (tc 0, 6, .inl (fun _ => 0))), (b_12, .inl (tc 0, 6, .inl (fun _ => 0)))] H := hP
  have hD : va_D A [(h0, .inr (4, [.null, .null, .long 0])), (q_1, .inr (9, [.int 0, .int 0, .int 0, .int 0, .int 0, .int 0, .ref b_5, .ref b_6, .ref b_7, .ref b_8, .ref b_9, .ref b_10, .ref b_11, .ref b_12])), (b_5, .inl (tc 0, 10, .inl (fun _ => 0))), (b_6, .inl (tc 0, 10, .inl (fun _ => 0))), (b_7, .inl (tc 0, 6, .inl (fun _ => 0))), (b_8, .inl (tc 0, 6, .inl (fun _ => 0))), (b_9, .inl (tc 0, 6, .inl (fun _ => 0))), (b_10, .inl (tc 0, 6, .inl (fun _ => 0))), (b_11, .inl (tc 0, 6, .inl (fun _ => 0))), (b_12, .inl (tc 0, 6, .inl (fun _ => 0)))] := hD
  refine pf_X4_12 (ty := (.object "PoisonBook$Shop")) hx hb hts hown hin hK hP hD hS 0 rfl (Nat.le_of_ble_eq_true rfl) (by decide +kernel) rfl rfl dX4_init_12 (fun H locs hP hD hS => ?_)
  have hP : va_P D classes [(h0, .inr (4, [.ref q_1, .null, .long 0])), (q_1, .inr (9, [.int 0, .int 0, .int 0, .int 0, .int 0, .int 0, .ref b_5, .ref b_6, .ref b_7, .ref b_8, .ref b_9, .ref b_10, .ref b_11, .ref b_12])), (b_5, .inl (tc 0, 10, .inl (fun _ => 0))), (b_6, .inl (tc 0, 10, .inl (fun _ => 0))), (b_7, .inl (tc 0, 6, .inl (fun _ => 0))), (b_8, .inl (tc 0, 6, .inl (fun _ => 0))), (b_9, .inl (tc 0, 6, .inl (fun _ => 0))), (b_10, .inl (tc 0, 6, .inl (fun _ => 0))), (b_11, .inl (tc 0, 6, .inl (fun _ => 0))), (b_12, .inl (tc 0, 6, .inl (fun _ => 0)))] H := hP
  have hD : va_D A [(h0, .inr (4, [.ref q_1, .null, .long 0])), (q_1, .inr (9, [.int 0, .int 0, .int 0, .int 0, .int 0, .int 0, .ref b_5, .ref b_6, .ref b_7, .ref b_8, .ref b_9, .ref b_10, .ref b_11, .ref b_12])), (b_5, .inl (tc 0, 10, .inl (fun _ => 0))), (b_6, .inl (tc 0, 10, .inl (fun _ => 0))), (b_7, .inl (tc 0, 6, .inl (fun _ => 0))), (b_8, .inl (tc 0, 6, .inl (fun _ => 0))), (b_9, .inl (tc 0, 6, .inl (fun _ => 0))), (b_10, .inl (tc 0, 6, .inl (fun _ => 0))), (b_11, .inl (tc 0, 6, .inl (fun _ => 0))), (b_12, .inl (tc 0, 6, .inl (fun _ => 0)))] := hD
  refine lv_aload_n hx hb dX4_init_15 rfl (lv_at hl 0 rfl) ?_
  refine lv_bipush (v := 61) hx hb dX4_init_16 (by decide) ?_
  refine nwA (atype := .long) (a0 := (61, .inr (.inl (fun _ => 0)))) hx hb (hts _ k_364) rfl hK hP hD hS hA 1 rfl (fun _ => rfl) (by decide) (by decide) (by decide) (Nat.le_of_ble_eq_true rfl) (Nat.le_of_ble_eq_true rfl) dX4_init_18 (fun q_13 H hP hD hS => ?_)
  have hP : va_P D classes [(h0, .inr (4, [.ref q_1, .null, .long 0])), (q_1, .inr (9, [.int 0, .int 0, .int 0, .int 0, .int 0, .int 0, .ref b_5, .ref b_6, .ref b_7, .ref b_8, .ref b_9, .ref b_10, .ref b_11, .ref b_12])), (b_5, .inl (tc 0, 10, .inl (fun _ => 0))), (b_6, .inl (tc 0, 10, .inl (fun _ => 0))), (b_7, .inl (tc 0, 6, .inl (fun _ => 0))), (b_8, .inl (tc 0, 6, .inl (fun _ => 0))), (b_9, .inl (tc 0, 6, .inl (fun _ => 0))), (b_10, .inl (tc 0, 6, .inl (fun _ => 0))), (b_11, .inl (tc 0, 6, .inl (fun _ => 0))), (b_12, .inl (tc 0, 6, .inl (fun _ => 0))), (q_13, .inl (tc 1, 61, .inr (.inl (fun _ => 0))))] H := hP
  have hD : va_D A [(h0, .inr (4, [.ref q_1, .null, .long 0])), (q_1, .inr (9, [.int 0, .int 0, .int 0, .int 0, .int 0, .int 0, .ref b_5, .ref b_6, .ref b_7, .ref b_8, .ref b_9, .ref b_10, .ref b_11, .ref b_12])), (b_5, .inl (tc 0, 10, .inl (fun _ => 0))), (b_6, .inl (tc 0, 10, .inl (fun _ => 0))), (b_7, .inl (tc 0, 6, .inl (fun _ => 0))), (b_8, .inl (tc 0, 6, .inl (fun _ => 0))), (b_9, .inl (tc 0, 6, .inl (fun _ => 0))), (b_10, .inl (tc 0, 6, .inl (fun _ => 0))), (b_11, .inl (tc 0, 6, .inl (fun _ => 0))), (b_12, .inl (tc 0, 6, .inl (fun _ => 0))), (q_13, .inl (tc 1, 61, .inr (.inl (fun _ => 0))))] := hD
  refine pf_X4_18 (ty := (.array .long)) hx hb hts hown hin hK hP hD hS 0 rfl (Nat.le_of_ble_eq_true rfl) (by decide +kernel) rfl rfl dX4_init_20 (fun H locs hP hD hS => ?_)
  have hP : va_P D classes [(h0, .inr (4, [.ref q_1, .ref q_13, .long 0])), (q_1, .inr (9, [.int 0, .int 0, .int 0, .int 0, .int 0, .int 0, .ref b_5, .ref b_6, .ref b_7, .ref b_8, .ref b_9, .ref b_10, .ref b_11, .ref b_12])), (b_5, .inl (tc 0, 10, .inl (fun _ => 0))), (b_6, .inl (tc 0, 10, .inl (fun _ => 0))), (b_7, .inl (tc 0, 6, .inl (fun _ => 0))), (b_8, .inl (tc 0, 6, .inl (fun _ => 0))), (b_9, .inl (tc 0, 6, .inl (fun _ => 0))), (b_10, .inl (tc 0, 6, .inl (fun _ => 0))), (b_11, .inl (tc 0, 6, .inl (fun _ => 0))), (b_12, .inl (tc 0, 6, .inl (fun _ => 0))), (q_13, .inl (tc 1, 61, .inr (.inl (fun _ => 0))))] H := hP
  have hD : va_D A [(h0, .inr (4, [.ref q_1, .ref q_13, .long 0])), (q_1, .inr (9, [.int 0, .int 0, .int 0, .int 0, .int 0, .int 0, .ref b_5, .ref b_6, .ref b_7, .ref b_8, .ref b_9, .ref b_10, .ref b_11, .ref b_12])), (b_5, .inl (tc 0, 10, .inl (fun _ => 0))), (b_6, .inl (tc 0, 10, .inl (fun _ => 0))), (b_7, .inl (tc 0, 6, .inl (fun _ => 0))), (b_8, .inl (tc 0, 6, .inl (fun _ => 0))), (b_9, .inl (tc 0, 6, .inl (fun _ => 0))), (b_10, .inl (tc 0, 6, .inl (fun _ => 0))), (b_11, .inl (tc 0, 6, .inl (fun _ => 0))), (b_12, .inl (tc 0, 6, .inl (fun _ => 0))), (q_13, .inl (tc 1, 61, .inr (.inl (fun _ => 0))))] := hD
  refine lv_aload_n hx hb dX4_init_23 rfl (lv_at hl 0 rfl) ?_
  refine lv_lconst (v := 0) hx hb dX4_init_24 (by decide) ?_
  refine pf_X4_22 hx hb hts hown hK hP hD hS 0 rfl (Nat.le_of_ble_eq_true rfl) rfl rfl dX4_init_25 (fun H locs hP hD hS => ?_)
  have hP : va_P D classes [(h0, .inr (4, [.ref q_1, .ref q_13, .long 0])), (q_1, .inr (9, [.int 0, .int 0, .int 0, .int 0, .int 0, .int 0, .ref b_5, .ref b_6, .ref b_7, .ref b_8, .ref b_9, .ref b_10, .ref b_11, .ref b_12])), (b_5, .inl (tc 0, 10, .inl (fun _ => 0))), (b_6, .inl (tc 0, 10, .inl (fun _ => 0))), (b_7, .inl (tc 0, 6, .inl (fun _ => 0))), (b_8, .inl (tc 0, 6, .inl (fun _ => 0))), (b_9, .inl (tc 0, 6, .inl (fun _ => 0))), (b_10, .inl (tc 0, 6, .inl (fun _ => 0))), (b_11, .inl (tc 0, 6, .inl (fun _ => 0))), (b_12, .inl (tc 0, 6, .inl (fun _ => 0))), (q_13, .inl (tc 1, 61, .inr (.inl (fun _ => 0))))] H := hP
  have hD : va_D A [(h0, .inr (4, [.ref q_1, .ref q_13, .long 0])), (q_1, .inr (9, [.int 0, .int 0, .int 0, .int 0, .int 0, .int 0, .ref b_5, .ref b_6, .ref b_7, .ref b_8, .ref b_9, .ref b_10, .ref b_11, .ref b_12])), (b_5, .inl (tc 0, 10, .inl (fun _ => 0))), (b_6, .inl (tc 0, 10, .inl (fun _ => 0))), (b_7, .inl (tc 0, 6, .inl (fun _ => 0))), (b_8, .inl (tc 0, 6, .inl (fun _ => 0))), (b_9, .inl (tc 0, 6, .inl (fun _ => 0))), (b_10, .inl (tc 0, 6, .inl (fun _ => 0))), (b_11, .inl (tc 0, 6, .inl (fun _ => 0))), (b_12, .inl (tc 0, 6, .inl (fun _ => 0))), (q_13, .inl (tc 1, 61, .inr (.inl (fun _ => 0))))] := hD
  exact retV hx hb hr hlk hP hD hS () rfl [] rfl rfl dX4_init_28 (Nat.le_of_ble_eq_true rfl) (Nat.le_of_ble_eq_true rfl) rfl
set_option maxHeartbeats 4000000 in
set_option maxRecDepth 100000 in
theorem ct_X1_init (l : Launch) (D : va_G) (tc : Nat → ClassId) (sk : (Nat → Nat) × (Nat → Nat)) (h0 : Nat)  : Ct l yX1_init cX1_init 1 none { frames := 2, cells := 11, slots := 120, locals := 32 } D tc sk [.ref h0] [(h0, .inr (1, [.null, .null, .null]))] (fun (v : Option Value) (_ : Unit) => v = none) (fun (_ : Unit) => []) 11 120 := by
  refine Ct.start (by decide) (Nat.le_of_ble_eq_true rfl) (fun p e s m below meth c A ls hx hb hr hlk hin hml hown hts hK hX hP hD hA hl hS => ?_)
  have hl : lv_has ls 1 [(0, .ref h0)] := hl
  refine lv_aload_n hx hb dX1_init_0 rfl (lv_at hl 0 rfl) ?_
  refine W.objInit hx hb hown (hts _ k_370) (hts _ k_122) (hts _ k_123) rfl (by rw [hml]; exact hl.1) rfl dX1_init_1 (Nat.le_of_ble_eq_true rfl) (Nat.le_of_ble_eq_true rfl) ?_
  refine W.eq (g2 := F0 m 4 ls []) rfl ?_
  refine lv_aload_n hx hb dX1_init_4 rfl (lv_at hl 0 rfl) ?_
  refine va_new (ci := 9) (fs := [.int 0, .int 0, .int 0, .int 0, .int 0, .int 0, .null, .null, .null, .null, .null, .null, .null, .null]) (C := RX9) (T := TX9) (N := 14) hx hb hts iX9 tyX9 tyX9_ok hown (hts _ k_371) (hts _ k_164) (hts _ k_98) hK hP hD hS hA rfl dfX9 (Nat.le_of_ble_eq_true rfl) (Nat.le_of_ble_eq_true rfl) dX1_init_5 (fun q_1 H hP hD hS => ?_)
  have hP : va_P D classes [(h0, .inr (1, [.null, .null, .null])), (q_1, .inr (9, [.int 0, .int 0, .int 0, .int 0, .int 0, .int 0, .null, .null, .null, .null, .null, .null, .null, .null]))] H := hP
  have hD : va_D A [(h0, .inr (1, [.null, .null, .null])), (q_1, .inr (9, [.int 0, .int 0, .int 0, .int 0, .int 0, .int 0, .null, .null, .null, .null, .null, .null, .null, .null]))] := hD
  refine lv_dup hx hb dX1_init_8 rfl ?_
  refine cN (a := q_1) (As := []) (rest := [.ref q_1, .ref h0]) (wr := [(h0, .inr (1, [.null, .null, .null]))]) ⟨hx, hb, hml, hown, hts⟩ hK hX hA (ct_X9_init l D tc sk q_1) k_167 (by decide) k_166 k_98 rfl pl_X9_init ⟨Nat.le_of_ble_eq_true rfl, Nat.le_of_ble_eq_true rfl⟩ rfl rfl  hP hD hS [1] [0] rfl rfl rfl rfl rfl (by decide) rfl hl.1 rfl (Nat.le_of_ble_eq_true rfl) dX1_init_9 ⟨Nat.le_of_ble_eq_true rfl, Nat.le_of_ble_eq_true rfl⟩ (fun v_2 u_3 H locs hv_4 hP hD hS => ?_)
  obtain ⟨b_5, b_6, b_7, b_8, b_9, b_10, b_11, b_12⟩ := u_3
  obtain rfl : v_2 = none := hv_4
  refine W.eq (g2 := F0 m 12 ls [.ref q_1, .ref h0]) rfl ?_
  have hP : va_P D classes [(h0, .inr (1, [.null, .null, .null])), (q_1, .inr (9, [.int 0, .int 0, .int 0, .int 0, .int 0, .int 0, .ref b_5, .ref b_6, .ref b_7, .ref b_8, .ref b_9, .ref b_10, .ref b_11, .ref b_12])), (b_5, .inl (tc 0, 10, .inl (fun _ => 0))), (b_6, .inl (tc 0, 10, .inl (fun _ => 0))), (b_7, .inl (tc 0, 6, .inl (fun _ => 0))), (b_8, .inl (tc 0, 6, .inl (fun _ => 0))), (b_9, .inl (tc 0, 6, .inl (fun _ => 0))), (b_10, .inl (tc 0, 6, .inl (fun _ => 0))), (b_11, .inl (tc 0, 6, .inl (fun _ => 0))), (b_12, .inl (tc 0, 6, .inl (fun _ => 0)))] H := hP
  have hD : va_D A [(h0, .inr (1, [.null, .null, .null])), (q_1, .inr (9, [.int 0, .int 0, .int 0, .int 0, .int 0, .int 0, .ref b_5, .ref b_6, .ref b_7, .ref b_8, .ref b_9, .ref b_10, .ref b_11, .ref b_12])), (b_5, .inl (tc 0, 10, .inl (fun _ => 0))), (b_6, .inl (tc 0, 10, .inl (fun _ => 0))), (b_7, .inl (tc 0, 6, .inl (fun _ => 0))), (b_8, .inl (tc 0, 6, .inl (fun _ => 0))), (b_9, .inl (tc 0, 6, .inl (fun _ => 0))), (b_10, .inl (tc 0, 6, .inl (fun _ => 0))), (b_11, .inl (tc 0, 6, .inl (fun _ => 0))), (b_12, .inl (tc 0, 6, .inl (fun _ => 0)))] := hD
  refine pf_X1_12 (ty := (.object "PoisonBook$Shop")) hx hb hts hown hin hK hP hD hS 0 rfl (Nat.le_of_ble_eq_true rfl) (by decide +kernel) rfl rfl dX1_init_12 (fun H locs hP hD hS => ?_)
  have hP : va_P D classes [(h0, .inr (1, [.ref q_1, .null, .null])), (q_1, .inr (9, [.int 0, .int 0, .int 0, .int 0, .int 0, .int 0, .ref b_5, .ref b_6, .ref b_7, .ref b_8, .ref b_9, .ref b_10, .ref b_11, .ref b_12])), (b_5, .inl (tc 0, 10, .inl (fun _ => 0))), (b_6, .inl (tc 0, 10, .inl (fun _ => 0))), (b_7, .inl (tc 0, 6, .inl (fun _ => 0))), (b_8, .inl (tc 0, 6, .inl (fun _ => 0))), (b_9, .inl (tc 0, 6, .inl (fun _ => 0))), (b_10, .inl (tc 0, 6, .inl (fun _ => 0))), (b_11, .inl (tc 0, 6, .inl (fun _ => 0))), (b_12, .inl (tc 0, 6, .inl (fun _ => 0)))] H := hP
  have hD : va_D A [(h0, .inr (1, [.ref q_1, .null, .null])), (q_1, .inr (9, [.int 0, .int 0, .int 0, .int 0, .int 0, .int 0, .ref b_5, .ref b_6, .ref b_7, .ref b_8, .ref b_9, .ref b_10, .ref b_11, .ref b_12])), (b_5, .inl (tc 0, 10, .inl (fun _ => 0))), (b_6, .inl (tc 0, 10, .inl (fun _ => 0))), (b_7, .inl (tc 0, 6, .inl (fun _ => 0))), (b_8, .inl (tc 0, 6, .inl (fun _ => 0))), (b_9, .inl (tc 0, 6, .inl (fun _ => 0))), (b_10, .inl (tc 0, 6, .inl (fun _ => 0))), (b_11, .inl (tc 0, 6, .inl (fun _ => 0))), (b_12, .inl (tc 0, 6, .inl (fun _ => 0)))] := hD
  refine lv_aload_n hx hb dX1_init_15 rfl (lv_at hl 0 rfl) ?_
  refine lv_bipush (v := 25) hx hb dX1_init_16 (by decide) ?_
  refine nwA (atype := .int) (a0 := (25, .inl (fun _ => 0))) hx hb (hts _ k_156) rfl hK hP hD hS hA 0 rfl (fun _ => rfl) (by decide) (by decide) (by decide) (Nat.le_of_ble_eq_true rfl) (Nat.le_of_ble_eq_true rfl) dX1_init_18 (fun q_13 H hP hD hS => ?_)
  have hP : va_P D classes [(h0, .inr (1, [.ref q_1, .null, .null])), (q_1, .inr (9, [.int 0, .int 0, .int 0, .int 0, .int 0, .int 0, .ref b_5, .ref b_6, .ref b_7, .ref b_8, .ref b_9, .ref b_10, .ref b_11, .ref b_12])), (b_5, .inl (tc 0, 10, .inl (fun _ => 0))), (b_6, .inl (tc 0, 10, .inl (fun _ => 0))), (b_7, .inl (tc 0, 6, .inl (fun _ => 0))), (b_8, .inl (tc 0, 6, .inl (fun _ => 0))), (b_9, .inl (tc 0, 6, .inl (fun _ => 0))), (b_10, .inl (tc 0, 6, .inl (fun _ => 0))), (b_11, .inl (tc 0, 6, .inl (fun _ => 0))), (b_12, .inl (tc 0, 6, .inl (fun _ => 0))), (q_13, .inl (tc 0, 25, .inl (fun _ => 0)))] H := hP
  have hD : va_D A [(h0, .inr (1, [.ref q_1, .null, .null])), (q_1, .inr (9, [.int 0, .int 0, .int 0, .int 0, .int 0, .int 0, .ref b_5, .ref b_6, .ref b_7, .ref b_8, .ref b_9, .ref b_10, .ref b_11, .ref b_12])), (b_5, .inl (tc 0, 10, .inl (fun _ => 0))), (b_6, .inl (tc 0, 10, .inl (fun _ => 0))), (b_7, .inl (tc 0, 6, .inl (fun _ => 0))), (b_8, .inl (tc 0, 6, .inl (fun _ => 0))), (b_9, .inl (tc 0, 6, .inl (fun _ => 0))), (b_10, .inl (tc 0, 6, .inl (fun _ => 0))), (b_11, .inl (tc 0, 6, .inl (fun _ => 0))), (b_12, .inl (tc 0, 6, .inl (fun _ => 0))), (q_13, .inl (tc 0, 25, .inl (fun _ => 0)))] := hD
  refine pf_X1_18 (ty := (.array .int)) hx hb hts hown hin hK hP hD hS 0 rfl (Nat.le_of_ble_eq_true rfl) (by decide +kernel) rfl rfl dX1_init_20 (fun H locs hP hD hS => ?_)
  have hP : va_P D classes [(h0, .inr (1, [.ref q_1, .ref q_13, .null])), (q_1, .inr (9, [.int 0, .int 0, .int 0, .int 0, .int 0, .int 0, .ref b_5, .ref b_6, .ref b_7, .ref b_8, .ref b_9, .ref b_10, .ref b_11, .ref b_12])), (b_5, .inl (tc 0, 10, .inl (fun _ => 0))), (b_6, .inl (tc 0, 10, .inl (fun _ => 0))), (b_7, .inl (tc 0, 6, .inl (fun _ => 0))), (b_8, .inl (tc 0, 6, .inl (fun _ => 0))), (b_9, .inl (tc 0, 6, .inl (fun _ => 0))), (b_10, .inl (tc 0, 6, .inl (fun _ => 0))), (b_11, .inl (tc 0, 6, .inl (fun _ => 0))), (b_12, .inl (tc 0, 6, .inl (fun _ => 0))), (q_13, .inl (tc 0, 25, .inl (fun _ => 0)))] H := hP
  have hD : va_D A [(h0, .inr (1, [.ref q_1, .ref q_13, .null])), (q_1, .inr (9, [.int 0, .int 0, .int 0, .int 0, .int 0, .int 0, .ref b_5, .ref b_6, .ref b_7, .ref b_8, .ref b_9, .ref b_10, .ref b_11, .ref b_12])), (b_5, .inl (tc 0, 10, .inl (fun _ => 0))), (b_6, .inl (tc 0, 10, .inl (fun _ => 0))), (b_7, .inl (tc 0, 6, .inl (fun _ => 0))), (b_8, .inl (tc 0, 6, .inl (fun _ => 0))), (b_9, .inl (tc 0, 6, .inl (fun _ => 0))), (b_10, .inl (tc 0, 6, .inl (fun _ => 0))), (b_11, .inl (tc 0, 6, .inl (fun _ => 0))), (b_12, .inl (tc 0, 6, .inl (fun _ => 0))), (q_13, .inl (tc 0, 25, .inl (fun _ => 0)))] := hD
  refine lv_aload_n hx hb dX1_init_23 rfl (lv_at hl 0 rfl) ?_
  refine lv_bipush (v := 25) hx hb dX1_init_24 (by decide) ?_
  refine nwA (atype := .int) (a0 := (25, .inl (fun _ => 0))) hx hb (hts _ k_156) rfl hK hP hD hS hA 0 rfl (fun _ => rfl) (by decide) (by decide) (by decide) (Nat.le_of_ble_eq_true rfl) (Nat.le_of_ble_eq_true rfl) dX1_init_26 (fun q_14 H hP hD hS => ?_)
  have hP : va_P D classes [(h0, .inr (1, [.ref q_1, .ref q_13, .null])), (q_1, .inr (9, [.int 0, .int 0, .int 0, .int 0, .int 0, .int 0, .ref b_5, .ref b_6, .ref b_7, .ref b_8, .ref b_9, .ref b_10, .ref b_11, .ref b_12])), (b_5, .inl (tc 0, 10, .inl (fun _ => 0))), (b_6, .inl (tc 0, 10, .inl (fun _ => 0))), (b_7, .inl (tc 0, 6, .inl (fun _ => 0))), (b_8, .inl (tc 0, 6, .inl (fun _ => 0))), (b_9, .inl (tc 0, 6, .inl (fun _ => 0))), (b_10, .inl (tc 0, 6, .inl (fun _ => 0))), (b_11, .inl (tc 0, 6, .inl (fun _ => 0))), (b_12, .inl (tc 0, 6, .inl (fun _ => 0))), (q_13, .inl (tc 0, 25, .inl (fun _ => 0))), (q_14, .inl (tc 0, 25, .inl (fun _ => 0)))] H := hP
  have hD : va_D A [(h0, .inr (1, [.ref q_1, .ref q_13, .null])), (q_1, .inr (9, [.int 0, .int 0, .int 0, .int 0, .int 0, .int 0, .ref b_5, .ref b_6, .ref b_7, .ref b_8, .ref b_9, .ref b_10, .ref b_11, .ref b_12])), (b_5, .inl (tc 0, 10, .inl (fun _ => 0))), (b_6, .inl (tc 0, 10, .inl (fun _ => 0))), (b_7, .inl (tc 0, 6, .inl (fun _ => 0))), (b_8, .inl (tc 0, 6, .inl (fun _ => 0))), (b_9, .inl (tc 0, 6, .inl (fun _ => 0))), (b_10, .inl (tc 0, 6, .inl (fun _ => 0))), (b_11, .inl (tc 0, 6, .inl (fun _ => 0))), (b_12, .inl (tc 0, 6, .inl (fun _ => 0))), (q_13, .inl (tc 0, 25, .inl (fun _ => 0))), (q_14, .inl (tc 0, 25, .inl (fun _ => 0)))] := hD
  refine pf_X1_22 (ty := (.array .int)) hx hb hts hown hin hK hP hD hS 0 rfl (Nat.le_of_ble_eq_true rfl) (by decide +kernel) rfl rfl dX1_init_28 (fun H locs hP hD hS => ?_)
  have hP : va_P D classes [(h0, .inr (1, [.ref q_1, .ref q_13, .ref q_14])), (q_1, .inr (9, [.int 0, .int 0, .int 0, .int 0, .int 0, .int 0, .ref b_5, .ref b_6, .ref b_7, .ref b_8, .ref b_9, .ref b_10, .ref b_11, .ref b_12])), (b_5, .inl (tc 0, 10, .inl (fun _ => 0))), (b_6, .inl (tc 0, 10, .inl (fun _ => 0))), (b_7, .inl (tc 0, 6, .inl (fun _ => 0))), (b_8, .inl (tc 0, 6, .inl (fun _ => 0))), (b_9, .inl (tc 0, 6, .inl (fun _ => 0))), (b_10, .inl (tc 0, 6, .inl (fun _ => 0))), (b_11, .inl (tc 0, 6, .inl (fun _ => 0))), (b_12, .inl (tc 0, 6, .inl (fun _ => 0))), (q_13, .inl (tc 0, 25, .inl (fun _ => 0))), (q_14, .inl (tc 0, 25, .inl (fun _ => 0)))] H := hP
  have hD : va_D A [(h0, .inr (1, [.ref q_1, .ref q_13, .ref q_14])), (q_1, .inr (9, [.int 0, .int 0, .int 0, .int 0, .int 0, .int 0, .ref b_5, .ref b_6, .ref b_7, .ref b_8, .ref b_9, .ref b_10, .ref b_11, .ref b_12])), (b_5, .inl (tc 0, 10, .inl (fun _ => 0))), (b_6, .inl (tc 0, 10, .inl (fun _ => 0))), (b_7, .inl (tc 0, 6, .inl (fun _ => 0))), (b_8, .inl (tc 0, 6, .inl (fun _ => 0))), (b_9, .inl (tc 0, 6, .inl (fun _ => 0))), (b_10, .inl (tc 0, 6, .inl (fun _ => 0))), (b_11, .inl (tc 0, 6, .inl (fun _ => 0))), (b_12, .inl (tc 0, 6, .inl (fun _ => 0))), (q_13, .inl (tc 0, 25, .inl (fun _ => 0))), (q_14, .inl (tc 0, 25, .inl (fun _ => 0)))] := hD
  exact retV hx hb hr hlk hP hD hS () rfl [] rfl rfl dX1_init_31 (Nat.le_of_ble_eq_true rfl) (Nat.le_of_ble_eq_true rfl) rfl
set_option maxHeartbeats 4000000 in
set_option maxRecDepth 100000 in
theorem ct_X2_init (l : Launch) (D : va_G) (tc : Nat → ClassId) (sk : (Nat → Nat) × (Nat → Nat)) (h0 : Nat)  : Ct l yX2_init cX2_init 1 none { frames := 2, cells := 11, slots := 504, locals := 32 } D tc sk [.ref h0] [(h0, .inr (2, [.null, .null, .null, .int 0]))] (fun (v : Option Value) (_ : Unit) => v = none) (fun (_ : Unit) => []) 11 504 := by
  refine Ct.start (by decide) (Nat.le_of_ble_eq_true rfl) (fun p e s m below meth c A ls hx hb hr hlk hin hml hown hts hK hX hP hD hA hl hS => ?_)
  have hl : lv_has ls 1 [(0, .ref h0)] := hl
  refine lv_aload_n hx hb dX2_init_0 rfl (lv_at hl 0 rfl) ?_
  refine W.objInit hx hb hown (hts _ k_388) (hts _ k_122) (hts _ k_123) rfl (by rw [hml]; exact hl.1) rfl dX2_init_1 (Nat.le_of_ble_eq_true rfl) (Nat.le_of_ble_eq_true rfl) ?_
  refine W.eq (g2 := F0 m 4 ls []) rfl ?_
  refine lv_aload_n hx hb dX2_init_4 rfl (lv_at hl 0 rfl) ?_
  refine va_new (ci := 9) (fs := [.int 0, .int 0, .int 0, .int 0, .int 0, .int 0, .null, .null, .null, .null, .null, .null, .null, .null]) (C := RX9) (T := TX9) (N := 14) hx hb hts iX9 tyX9 tyX9_ok hown (hts _ k_389) (hts _ k_164) (hts _ k_98) hK hP hD hS hA rfl dfX9 (Nat.le_of_ble_eq_true rfl) (Nat.le_of_ble_eq_true rfl) dX2_init_5 (fun q_1 H hP hD hS => ?_)
  have hP : va_P D classes [(h0, .inr (2, [.null, .null, .null, .int 0])), (q_1, .inr (9, [.int 0, .int 0, .int 0, .int 0, .int 0, .int 0, .null, .null, .null, .null, .null, .null, .null, .null]))] H := hP
  have hD : va_D A [(h0, .inr (2, [.null, .null, .null, .int 0])), (q_1, .inr (9, [.int 0, .int 0, .int 0, .int 0, .int 0, .int 0, .null, .null, .null, .null, .null, .null, .null, .null]))] := hD
  refine lv_dup hx hb dX2_init_8 rfl ?_
  refine cN (a := q_1) (As := []) (rest := [.ref q_1, .ref h0]) (wr := [(h0, .inr (2, [.null, .null, .null, .int 0]))]) ⟨hx, hb, hml, hown, hts⟩ hK hX hA (ct_X9_init l D tc sk q_1) k_167 (by decide) k_166 k_98 rfl pl_X9_init ⟨Nat.le_of_ble_eq_true rfl, Nat.le_of_ble_eq_true rfl⟩ rfl rfl  hP hD hS [1] [0] rfl rfl rfl rfl rfl (by decide) rfl hl.1 rfl (Nat.le_of_ble_eq_true rfl) dX2_init_9 ⟨Nat.le_of_ble_eq_true rfl, Nat.le_of_ble_eq_true rfl⟩ (fun v_2 u_3 H locs hv_4 hP hD hS => ?_)
  obtain ⟨b_5, b_6, b_7, b_8, b_9, b_10, b_11, b_12⟩ := u_3
  obtain rfl : v_2 = none := hv_4
  refine W.eq (g2 := F0 m 12 ls [.ref q_1, .ref h0]) rfl ?_
  have hP : va_P D classes [(h0, .inr (2, [.null, .null, .null, .int 0])), (q_1, .inr (9, [.int 0, .int 0, .int 0, .int 0, .int 0, .int 0, .ref b_5, .ref b_6, .ref b_7, .ref b_8, .ref b_9, .ref b_10, .ref b_11, .ref b_12])), (b_5, .inl (tc 0, 10, .inl (fun _ => 0))), (b_6, .inl (tc 0, 10, .inl (fun _ => 0))), (b_7, .inl (tc 0, 6, .inl (fun _ => 0))), (b_8, .inl (tc 0, 6, .inl (fun _ => 0))), (b_9, .inl (tc 0, 6, .inl (fun _ => 0))), (b_10, .inl (tc 0, 6, .inl (fun _ => 0))), (b_11, .inl (tc 0, 6, .inl (fun _ => 0))), (b_12, .inl (tc 0, 6, .inl (fun _ => 0)))] H := hP
  have hD : va_D A [(h0, .inr (2, [.null, .null, .null, .int 0])), (q_1, .inr (9, [.int 0, .int 0, .int 0, .int 0, .int 0, .int 0, .ref b_5, .ref b_6, .ref b_7, .ref b_8, .ref b_9, .ref b_10, .ref b_11, .ref b_12])), (b_5, .inl (tc 0, 10, .inl (fun _ => 0))), (b_6, .inl (tc 0, 10, .inl (fun _ => 0))), (b_7, .inl (tc 0, 6, .inl (fun _ => 0))), (b_8, .inl (tc 0, 6, .inl (fun _ => 0))), (b_9, .inl (tc 0, 6, .inl (fun _ => 0))), (b_10, .inl (tc 0, 6, .inl (fun _ => 0))), (b_11, .inl (tc 0, 6, .inl (fun _ => 0))), (b_12, .inl (tc 0, 6, .inl (fun _ => 0)))] := hD
  refine pf_X2_14 (ty := (.object "PoisonBook$Shop")) hx hb hts hown hin hK hP hD hS 0 rfl (Nat.le_of_ble_eq_true rfl) (by decide +kernel) rfl rfl dX2_init_12 (fun H locs hP hD hS => ?_)
  have hP : va_P D classes [(h0, .inr (2, [.ref q_1, .null, .null, .int 0])), (q_1, .inr (9, [.int 0, .int 0, .int 0, .int 0, .int 0, .int 0, .ref b_5, .ref b_6, .ref b_7, .ref b_8, .ref b_9, .ref b_10, .ref b_11, .ref b_12])), (b_5, .inl (tc 0, 10, .inl (fun _ => 0))), (b_6, .inl (tc 0, 10, .inl (fun _ => 0))), (b_7, .inl (tc 0, 6, .inl (fun _ => 0))), (b_8, .inl (tc 0, 6, .inl (fun _ => 0))), (b_9, .inl (tc 0, 6, .inl (fun _ => 0))), (b_10, .inl (tc 0, 6, .inl (fun _ => 0))), (b_11, .inl (tc 0, 6, .inl (fun _ => 0))), (b_12, .inl (tc 0, 6, .inl (fun _ => 0)))] H := hP
  have hD : va_D A [(h0, .inr (2, [.ref q_1, .null, .null, .int 0])), (q_1, .inr (9, [.int 0, .int 0, .int 0, .int 0, .int 0, .int 0, .ref b_5, .ref b_6, .ref b_7, .ref b_8, .ref b_9, .ref b_10, .ref b_11, .ref b_12])), (b_5, .inl (tc 0, 10, .inl (fun _ => 0))), (b_6, .inl (tc 0, 10, .inl (fun _ => 0))), (b_7, .inl (tc 0, 6, .inl (fun _ => 0))), (b_8, .inl (tc 0, 6, .inl (fun _ => 0))), (b_9, .inl (tc 0, 6, .inl (fun _ => 0))), (b_10, .inl (tc 0, 6, .inl (fun _ => 0))), (b_11, .inl (tc 0, 6, .inl (fun _ => 0))), (b_12, .inl (tc 0, 6, .inl (fun _ => 0)))] := hD
  refine lv_aload_n hx hb dX2_init_15 rfl (lv_at hl 0 rfl) ?_
  refine lv_sipush (v := 427) hx hb dX2_init_16 (by decide) ?_
  refine nwA (atype := .int) (a0 := (427, .inl (fun _ => 0))) hx hb (hts _ k_156) rfl hK hP hD hS hA 0 rfl (fun _ => rfl) (by decide) (by decide) (by decide) (Nat.le_of_ble_eq_true rfl) (Nat.le_of_ble_eq_true rfl) dX2_init_19 (fun q_13 H hP hD hS => ?_)
  have hP : va_P D classes [(h0, .inr (2, [.ref q_1, .null, .null, .int 0])), (q_1, .inr (9, [.int 0, .int 0, .int 0, .int 0, .int 0, .int 0, .ref b_5, .ref b_6, .ref b_7, .ref b_8, .ref b_9, .ref b_10, .ref b_11, .ref b_12])), (b_5, .inl (tc 0, 10, .inl (fun _ => 0))), (b_6, .inl (tc 0, 10, .inl (fun _ => 0))), (b_7, .inl (tc 0, 6, .inl (fun _ => 0))), (b_8, .inl (tc 0, 6, .inl (fun _ => 0))), (b_9, .inl (tc 0, 6, .inl (fun _ => 0))), (b_10, .inl (tc 0, 6, .inl (fun _ => 0))), (b_11, .inl (tc 0, 6, .inl (fun _ => 0))), (b_12, .inl (tc 0, 6, .inl (fun _ => 0))), (q_13, .inl (tc 0, 427, .inl (fun _ => 0)))] H := hP
  have hD : va_D A [(h0, .inr (2, [.ref q_1, .null, .null, .int 0])), (q_1, .inr (9, [.int 0, .int 0, .int 0, .int 0, .int 0, .int 0, .ref b_5, .ref b_6, .ref b_7, .ref b_8, .ref b_9, .ref b_10, .ref b_11, .ref b_12])), (b_5, .inl (tc 0, 10, .inl (fun _ => 0))), (b_6, .inl (tc 0, 10, .inl (fun _ => 0))), (b_7, .inl (tc 0, 6, .inl (fun _ => 0))), (b_8, .inl (tc 0, 6, .inl (fun _ => 0))), (b_9, .inl (tc 0, 6, .inl (fun _ => 0))), (b_10, .inl (tc 0, 6, .inl (fun _ => 0))), (b_11, .inl (tc 0, 6, .inl (fun _ => 0))), (b_12, .inl (tc 0, 6, .inl (fun _ => 0))), (q_13, .inl (tc 0, 427, .inl (fun _ => 0)))] := hD
  refine pf_X2_18 (ty := (.array .int)) hx hb hts hown hin hK hP hD hS 0 rfl (Nat.le_of_ble_eq_true rfl) (by decide +kernel) rfl rfl dX2_init_21 (fun H locs hP hD hS => ?_)
  have hP : va_P D classes [(h0, .inr (2, [.ref q_1, .ref q_13, .null, .int 0])), (q_1, .inr (9, [.int 0, .int 0, .int 0, .int 0, .int 0, .int 0, .ref b_5, .ref b_6, .ref b_7, .ref b_8, .ref b_9, .ref b_10, .ref b_11, .ref b_12])), (b_5, .inl (tc 0, 10, .inl (fun _ => 0))), (b_6, .inl (tc 0, 10, .inl (fun _ => 0))), (b_7, .inl (tc 0, 6, .inl (fun _ => 0))), (b_8, .inl (tc 0, 6, .inl (fun _ => 0))), (b_9, .inl (tc 0, 6, .inl (fun _ => 0))), (b_10, .inl (tc 0, 6, .inl (fun _ => 0))), (b_11, .inl (tc 0, 6, .inl (fun _ => 0))), (b_12, .inl (tc 0, 6, .inl (fun _ => 0))), (q_13, .inl (tc 0, 427, .inl (fun _ => 0)))] H := hP
  have hD : va_D A [(h0, .inr (2, [.ref q_1, .ref q_13, .null, .int 0])), (q_1, .inr (9, [.int 0, .int 0, .int 0, .int 0, .int 0, .int 0, .ref b_5, .ref b_6, .ref b_7, .ref b_8, .ref b_9, .ref b_10, .ref b_11, .ref b_12])), (b_5, .inl (tc 0, 10, .inl (fun _ => 0))), (b_6, .inl (tc 0, 10, .inl (fun _ => 0))), (b_7, .inl (tc 0, 6, .inl (fun _ => 0))), (b_8, .inl (tc 0, 6, .inl (fun _ => 0))), (b_9, .inl (tc 0, 6, .inl (fun _ => 0))), (b_10, .inl (tc 0, 6, .inl (fun _ => 0))), (b_11, .inl (tc 0, 6, .inl (fun _ => 0))), (b_12, .inl (tc 0, 6, .inl (fun _ => 0))), (q_13, .inl (tc 0, 427, .inl (fun _ => 0)))] := hD
  refine lv_aload_n hx hb dX2_init_24 rfl (lv_at hl 0 rfl) ?_
  refine lv_bipush (v := 7) hx hb dX2_init_25 (by decide) ?_
  refine nwA (atype := .boolean) (a0 := (7, .inl (fun _ => 0))) hx hb (hts _ k_405) rfl hK hP hD hS hA 3 rfl (fun _ => rfl) (by decide) (by decide) (by decide) (Nat.le_of_ble_eq_true rfl) (Nat.le_of_ble_eq_true rfl) dX2_init_27 (fun q_14 H hP hD hS => ?_)
  have hP : va_P D classes [(h0, .inr (2, [.ref q_1, .ref q_13, .null, .int 0])), (q_1, .inr (9, [.int 0, .int 0, .int 0, .int 0, .int 0, .int 0, .ref b_5, .ref b_6, .ref b_7, .ref b_8, .ref b_9, .ref b_10, .ref b_11, .ref b_12])), (b_5, .inl (tc 0, 10, .inl (fun _ => 0))), (b_6, .inl (tc 0, 10, .inl (fun _ => 0))), (b_7, .inl (tc 0, 6, .inl (fun _ => 0))), (b_8, .inl (tc 0, 6, .inl (fun _ => 0))), (b_9, .inl (tc 0, 6, .inl (fun _ => 0))), (b_10, .inl (tc 0, 6, .inl (fun _ => 0))), (b_11, .inl (tc 0, 6, .inl (fun _ => 0))), (b_12, .inl (tc 0, 6, .inl (fun _ => 0))), (q_13, .inl (tc 0, 427, .inl (fun _ => 0))), (q_14, .inl (tc 3, 7, .inl (fun _ => 0)))] H := hP
  have hD : va_D A [(h0, .inr (2, [.ref q_1, .ref q_13, .null, .int 0])), (q_1, .inr (9, [.int 0, .int 0, .int 0, .int 0, .int 0, .int 0, .ref b_5, .ref b_6, .ref b_7, .ref b_8, .ref b_9, .ref b_10, .ref b_11, .ref b_12])), (b_5, .inl (tc 0, 10, .inl (fun _ => 0))), (b_6, .inl (tc 0, 10, .inl (fun _ => 0))), (b_7, .inl (tc 0, 6, .inl (fun _ => 0))), (b_8, .inl (tc 0, 6, .inl (fun _ => 0))), (b_9, .inl (tc 0, 6, .inl (fun _ => 0))), (b_10, .inl (tc 0, 6, .inl (fun _ => 0))), (b_11, .inl (tc 0, 6, .inl (fun _ => 0))), (b_12, .inl (tc 0, 6, .inl (fun _ => 0))), (q_13, .inl (tc 0, 427, .inl (fun _ => 0))), (q_14, .inl (tc 3, 7, .inl (fun _ => 0)))] := hD
  refine pf_X2_22 (ty := (.array .boolean)) hx hb hts hown hin hK hP hD hS 0 rfl (Nat.le_of_ble_eq_true rfl) (by decide +kernel) rfl rfl dX2_init_29 (fun H locs hP hD hS => ?_)
  have hP : va_P D classes [(h0, .inr (2, [.ref q_1, .ref q_13, .ref q_14, .int 0])), (q_1, .inr (9, [.int 0, .int 0, .int 0, .int 0, .int 0, .int 0, .ref b_5, .ref b_6, .ref b_7, .ref b_8, .ref b_9, .ref b_10, .ref b_11, .ref b_12])), (b_5, .inl (tc 0, 10, .inl (fun _ => 0))), (b_6, .inl (tc 0, 10, .inl (fun _ => 0))), (b_7, .inl (tc 0, 6, .inl (fun _ => 0))), (b_8, .inl (tc 0, 6, .inl (fun _ => 0))), (b_9, .inl (tc 0, 6, .inl (fun _ => 0))), (b_10, .inl (tc 0, 6, .inl (fun _ => 0))), (b_11, .inl (tc 0, 6, .inl (fun _ => 0))), (b_12, .inl (tc 0, 6, .inl (fun _ => 0))), (q_13, .inl (tc 0, 427, .inl (fun _ => 0))), (q_14, .inl (tc 3, 7, .inl (fun _ => 0)))] H := hP
  have hD : va_D A [(h0, .inr (2, [.ref q_1, .ref q_13, .ref q_14, .int 0])), (q_1, .inr (9, [.int 0, .int 0, .int 0, .int 0, .int 0, .int 0, .ref b_5, .ref b_6, .ref b_7, .ref b_8, .ref b_9, .ref b_10, .ref b_11, .ref b_12])), (b_5, .inl (tc 0, 10, .inl (fun _ => 0))), (b_6, .inl (tc 0, 10, .inl (fun _ => 0))), (b_7, .inl (tc 0, 6, .inl (fun _ => 0))), (b_8, .inl (tc 0, 6, .inl (fun _ => 0))), (b_9, .inl (tc 0, 6, .inl (fun _ => 0))), (b_10, .inl (tc 0, 6, .inl (fun _ => 0))), (b_11, .inl (tc 0, 6, .inl (fun _ => 0))), (b_12, .inl (tc 0, 6, .inl (fun _ => 0))), (q_13, .inl (tc 0, 427, .inl (fun _ => 0))), (q_14, .inl (tc 3, 7, .inl (fun _ => 0)))] := hD
  refine lv_aload_n hx hb dX2_init_32 rfl (lv_at hl 0 rfl) ?_
  refine lv_iconst (v := 0) hx hb dX2_init_33 (by decide) ?_
  refine pf_X2_26 hx hb hts hown hK hP hD hS 0 rfl (Nat.le_of_ble_eq_true rfl) rfl rfl dX2_init_34 (fun H locs hP hD hS => ?_)
  have hP : va_P D classes [(h0, .inr (2, [.ref q_1, .ref q_13, .ref q_14, .int 0])), (q_1, .inr (9, [.int 0, .int 0, .int 0, .int 0, .int 0, .int 0, .ref b_5, .ref b_6, .ref b_7, .ref b_8, .ref b_9, .ref b_10, .ref b_11, .ref b_12])), (b_5, .inl (tc 0, 10, .inl (fun _ => 0))), (b_6, .inl (tc 0, 10, .inl (fun _ => 0))), (b_7, .inl (tc 0, 6, .inl (fun _ => 0))), (b_8, .inl (tc 0, 6, .inl (fun _ => 0))), (b_9, .inl (tc 0, 6, .inl (fun _ => 0))), (b_10, .inl (tc 0, 6, .inl (fun _ => 0))), (b_11, .inl (tc 0, 6, .inl (fun _ => 0))), (b_12, .inl (tc 0, 6, .inl (fun _ => 0))), (q_13, .inl (tc 0, 427, .inl (fun _ => 0))), (q_14, .inl (tc 3, 7, .inl (fun _ => 0)))] H := hP
  have hD : va_D A [(h0, .inr (2, [.ref q_1, .ref q_13, .ref q_14, .int 0])), (q_1, .inr (9, [.int 0, .int 0, .int 0, .int 0, .int 0, .int 0, .ref b_5, .ref b_6, .ref b_7, .ref b_8, .ref b_9, .ref b_10, .ref b_11, .ref b_12])), (b_5, .inl (tc 0, 10, .inl (fun _ => 0))), (b_6, .inl (tc 0, 10, .inl (fun _ => 0))), (b_7, .inl (tc 0, 6, .inl (fun _ => 0))), (b_8, .inl (tc 0, 6, .inl (fun _ => 0))), (b_9, .inl (tc 0, 6, .inl (fun _ => 0))), (b_10, .inl (tc 0, 6, .inl (fun _ => 0))), (b_11, .inl (tc 0, 6, .inl (fun _ => 0))), (b_12, .inl (tc 0, 6, .inl (fun _ => 0))), (q_13, .inl (tc 0, 427, .inl (fun _ => 0))), (q_14, .inl (tc 3, 7, .inl (fun _ => 0)))] := hD
  exact retV hx hb hr hlk hP hD hS () rfl [] rfl rfl dX2_init_37 (Nat.le_of_ble_eq_true rfl) (Nat.le_of_ble_eq_true rfl) rfl
end
section
theorem dX11_ahead_0 : decode cX11_ahead 0 = .ok (.aload_n 0, 1) := by decide +kernel
theorem dX11_ahead_1 : decode cX11_ahead 1 = .ok (.getfield 51, 3) := by decide +kernel
theorem dX11_ahead_4 : decode cX11_ahead 4 = .ok (.invokevirtual 176, 3) := by decide +kernel
theorem dX11_ahead_7 : decode cX11_ahead 7 = .ok (.ifCond .eq 22, 3) := by decide +kernel
theorem dX11_ahead_29 : decode cX11_ahead 29 = .ok (.iconst (-1), 1) := by decide +kernel
theorem dX11_ahead_30 : decode cX11_ahead 30 = .ok (.ireturn, 1) := by decide +kernel
theorem dX11_back_0 : decode cX11_back 0 = .ok (.iload_n 1, 1) := by decide +kernel
theorem dX11_back_1 : decode cX11_back 1 = .ok (.ifCond .lt 12, 3) := by decide +kernel
theorem dX11_back_4 : decode cX11_back 4 = .ok (.iload_n 1, 1) := by decide +kernel
theorem dX11_back_5 : decode cX11_back 5 = .ok (.aload_n 0, 1) := by decide +kernel
theorem dX11_back_6 : decode cX11_back 6 = .ok (.getfield 61, 3) := by decide +kernel
theorem dX11_back_9 : decode cX11_back 9 = .ok (.arraylength, 1) := by decide +kernel
theorem dX11_back_10 : decode cX11_back 10 = .ok (.if_icmp .lt 5, 3) := by decide +kernel
theorem dX11_back_13 : decode cX11_back 13 = .ok (.iconst (-1), 1) := by decide +kernel
theorem dX11_back_14 : decode cX11_back 14 = .ok (.ireturn, 1) := by decide +kernel
theorem dX11_back_15 : decode cX11_back 15 = .ok (.aload_n 0, 1) := by decide +kernel
theorem dX11_back_16 : decode cX11_back 16 = .ok (.getfield 61, 3) := by decide +kernel
theorem dX11_back_19 : decode cX11_back 19 = .ok (.iload_n 1, 1) := by decide +kernel
theorem dX11_back_20 : decode cX11_back 20 = .ok (.aaload, 1) := by decide +kernel
theorem dX11_back_21 : decode cX11_back 21 = .ok (.astore_n 2, 1) := by decide +kernel
theorem dX11_back_22 : decode cX11_back 22 = .ok (.aload_n 2, 1) := by decide +kernel
theorem dX11_back_23 : decode cX11_back 23 = .ok (.ifnonnull 5, 3) := by decide +kernel
theorem dX11_back_26 : decode cX11_back 26 = .ok (.iconst (-1), 1) := by decide +kernel
theorem dX11_back_27 : decode cX11_back 27 = .ok (.ireturn, 1) := by decide +kernel
theorem dX11_best_0 : decode cX11_best 0 = .ok (.aload_n 0, 1) := by decide +kernel
theorem dX11_best_1 : decode cX11_best 1 = .ok (.getfield 51, 3) := by decide +kernel
theorem dX11_best_4 : decode cX11_best 4 = .ok (.invokevirtual 176, 3) := by decide +kernel
theorem dX11_best_7 : decode cX11_best 7 = .ok (.ifCond .eq 22, 3) := by decide +kernel
theorem dX11_best_29 : decode cX11_best 29 = .ok (.bipush (-2), 2) := by decide +kernel
theorem dX11_best_31 : decode cX11_best 31 = .ok (.ireturn, 1) := by decide +kernel
theorem dX11_buyer_0 : decode cX11_buyer 0 = .ok (.aload_n 0, 1) := by decide +kernel
theorem dX11_buyer_1 : decode cX11_buyer 1 = .ok (.getfield 51, 3) := by decide +kernel
theorem dX11_buyer_4 : decode cX11_buyer 4 = .ok (.iload_n 1, 1) := by decide +kernel
theorem dX11_buyer_5 : decode cX11_buyer 5 = .ok (.invokevirtual 133, 3) := by decide +kernel
theorem dX11_buyer_8 : decode cX11_buyer 8 = .ok (.ifCond .ne 5, 3) := by decide +kernel
theorem dX11_buyer_11 : decode cX11_buyer 11 = .ok (.iconst (-1), 1) := by decide +kernel
theorem dX11_buyer_12 : decode cX11_buyer 12 = .ok (.ireturn, 1) := by decide +kernel
theorem dX11_buys_0 : decode cX11_buys 0 = .ok (.aload_n 0, 1) := by decide +kernel
theorem dX11_buys_1 : decode cX11_buys 1 = .ok (.getfield 51, 3) := by decide +kernel
theorem dX11_buys_4 : decode cX11_buys 4 = .ok (.iload_n 1, 1) := by decide +kernel
theorem dX11_buys_5 : decode cX11_buys 5 = .ok (.invokevirtual 133, 3) := by decide +kernel
theorem dX11_buys_8 : decode cX11_buys 8 = .ok (.ifCond .eq 22, 3) := by decide +kernel
theorem dX11_buys_30 : decode cX11_buys 30 = .ok (.iconst (-1), 1) := by decide +kernel
theorem dX11_buys_31 : decode cX11_buys 31 = .ok (.ireturn, 1) := by decide +kernel
theorem dX11_calm_0 : decode cX11_calm 0 = .ok (.aload_n 0, 1) := by decide +kernel
theorem dX11_calm_1 : decode cX11_calm 1 = .ok (.getfield 51, 3) := by decide +kernel
theorem dX11_calm_4 : decode cX11_calm 4 = .ok (.iload_n 1, 1) := by decide +kernel
theorem dX11_calm_5 : decode cX11_calm 5 = .ok (.invokevirtual 133, 3) := by decide +kernel
theorem dX11_calm_8 : decode cX11_calm 8 = .ok (.ifCond .eq 26, 3) := by decide +kernel
theorem dX11_calm_34 : decode cX11_calm 34 = .ok (.iconst (-1), 1) := by decide +kernel
theorem dX11_calm_35 : decode cX11_calm 35 = .ok (.ireturn, 1) := by decide +kernel
theorem dX11_change_0 : decode cX11_change 0 = .ok (.aload_n 0, 1) := by decide +kernel
theorem dX11_change_1 : decode cX11_change 1 = .ok (.getfield 51, 3) := by decide +kernel
theorem dX11_change_4 : decode cX11_change 4 = .ok (.iload_n 1, 1) := by decide +kernel
theorem dX11_change_5 : decode cX11_change 5 = .ok (.invokevirtual 163, 3) := by decide +kernel
theorem dX11_change_8 : decode cX11_change 8 = .ok (.ifCond .eq 26, 3) := by decide +kernel
theorem dX11_change_34 : decode cX11_change 34 = .ok (.iconst (-1), 1) := by decide +kernel
theorem dX11_change_35 : decode cX11_change 35 = .ok (.ireturn, 1) := by decide +kernel
theorem dX11_count_0 : decode cX11_count 0 = .ok (.iload_n 1, 1) := by decide +kernel
theorem dX11_count_1 : decode cX11_count 1 = .ok (.tableswitch 221 0 15 #[79, 87, 95, 103, 108, 116, 124, 139, 147, 162, 170, 178, 186, 197, 205, 213], 79) := by decide +kernel
theorem dX11_count_80 : decode cX11_count 80 = .ok (.aload_n 0, 1) := by decide +kernel
theorem dX11_count_81 : decode cX11_count 81 = .ok (.getfield 51, 3) := by decide +kernel
theorem dX11_count_84 : decode cX11_count 84 = .ok (.getfield 282, 3) := by decide +kernel
theorem dX11_count_87 : decode cX11_count 87 = .ok (.ireturn, 1) := by decide +kernel
theorem dX11_count_88 : decode cX11_count 88 = .ok (.aload_n 0, 1) := by decide +kernel
theorem dX11_count_89 : decode cX11_count 89 = .ok (.getfield 51, 3) := by decide +kernel
theorem dX11_count_92 : decode cX11_count 92 = .ok (.getfield 285, 3) := by decide +kernel
theorem dX11_count_95 : decode cX11_count 95 = .ok (.ireturn, 1) := by decide +kernel
theorem dX11_count_96 : decode cX11_count 96 = .ok (.aload_n 0, 1) := by decide +kernel
theorem dX11_count_97 : decode cX11_count 97 = .ok (.getfield 51, 3) := by decide +kernel
theorem dX11_count_100 : decode cX11_count 100 = .ok (.getfield 121, 3) := by decide +kernel
theorem dX11_count_103 : decode cX11_count 103 = .ok (.ireturn, 1) := by decide +kernel
theorem dX11_count_104 : decode cX11_count 104 = .ok (.aload_n 0, 1) := by decide +kernel
theorem dX11_count_105 : decode cX11_count 105 = .ok (.getfield 36, 3) := by decide +kernel
theorem dX11_count_108 : decode cX11_count 108 = .ok (.ireturn, 1) := by decide +kernel
theorem dX11_count_109 : decode cX11_count 109 = .ok (.aload_n 0, 1) := by decide +kernel
theorem dX11_count_110 : decode cX11_count 110 = .ok (.getfield 43, 3) := by decide +kernel
theorem dX11_count_113 : decode cX11_count 113 = .ok (.getfield 130, 3) := by decide +kernel
theorem dX11_count_116 : decode cX11_count 116 = .ok (.ireturn, 1) := by decide +kernel
theorem dX11_count_117 : decode cX11_count 117 = .ok (.aload_n 0, 1) := by decide +kernel
theorem dX11_count_118 : decode cX11_count 118 = .ok (.getfield 51, 3) := by decide +kernel
theorem dX11_count_121 : decode cX11_count 121 = .ok (.getfield 179, 3) := by decide +kernel
theorem dX11_count_124 : decode cX11_count 124 = .ok (.ireturn, 1) := by decide +kernel
theorem dX11_count_125 : decode cX11_count 125 = .ok (.aload_n 0, 1) := by decide +kernel
theorem dX11_count_126 : decode cX11_count 126 = .ok (.getfield 51, 3) := by decide +kernel
theorem dX11_count_129 : decode cX11_count 129 = .ok (.aload_n 0, 1) := by decide +kernel
theorem dX11_count_130 : decode cX11_count 130 = .ok (.getfield 51, 3) := by decide +kernel
theorem dX11_count_133 : decode cX11_count 133 = .ok (.getfield 179, 3) := by decide +kernel
theorem dX11_count_136 : decode cX11_count 136 = .ok (.invokevirtual 288, 3) := by decide +kernel
theorem dX11_count_139 : decode cX11_count 139 = .ok (.ireturn, 1) := by decide +kernel
theorem dX11_count_140 : decode cX11_count 140 = .ok (.aload_n 0, 1) := by decide +kernel
theorem dX11_count_141 : decode cX11_count 141 = .ok (.getfield 51, 3) := by decide +kernel
theorem dX11_count_144 : decode cX11_count 144 = .ok (.getfield 193, 3) := by decide +kernel
theorem dX11_count_147 : decode cX11_count 147 = .ok (.ireturn, 1) := by decide +kernel
theorem dX11_count_148 : decode cX11_count 148 = .ok (.aload_n 0, 1) := by decide +kernel
theorem dX11_count_149 : decode cX11_count 149 = .ok (.getfield 51, 3) := by decide +kernel
theorem dX11_count_152 : decode cX11_count 152 = .ok (.aload_n 0, 1) := by decide +kernel
theorem dX11_count_153 : decode cX11_count 153 = .ok (.getfield 51, 3) := by decide +kernel
theorem dX11_count_156 : decode cX11_count 156 = .ok (.getfield 179, 3) := by decide +kernel
theorem dX11_count_159 : decode cX11_count 159 = .ok (.invokevirtual 291, 3) := by decide +kernel
theorem dX11_count_162 : decode cX11_count 162 = .ok (.ireturn, 1) := by decide +kernel
theorem dX11_count_163 : decode cX11_count 163 = .ok (.aload_n 0, 1) := by decide +kernel
theorem dX11_count_164 : decode cX11_count 164 = .ok (.getfield 51, 3) := by decide +kernel
theorem dX11_count_167 : decode cX11_count 167 = .ok (.getfield 294, 3) := by decide +kernel
theorem dX11_count_170 : decode cX11_count 170 = .ok (.ireturn, 1) := by decide +kernel
theorem dX11_count_171 : decode cX11_count 171 = .ok (.aload_n 0, 1) := by decide +kernel
theorem dX11_count_172 : decode cX11_count 172 = .ok (.getfield 51, 3) := by decide +kernel
theorem dX11_count_175 : decode cX11_count 175 = .ok (.invokevirtual 297, 3) := by decide +kernel
theorem dX11_count_178 : decode cX11_count 178 = .ok (.ireturn, 1) := by decide +kernel
theorem dX11_count_179 : decode cX11_count 179 = .ok (.aload_n 0, 1) := by decide +kernel
theorem dX11_count_180 : decode cX11_count 180 = .ok (.getfield 51, 3) := by decide +kernel
theorem dX11_count_183 : decode cX11_count 183 = .ok (.invokevirtual 300, 3) := by decide +kernel
theorem dX11_count_186 : decode cX11_count 186 = .ok (.ireturn, 1) := by decide +kernel
theorem dX11_count_187 : decode cX11_count 187 = .ok (.aload_n 0, 1) := by decide +kernel
theorem dX11_count_188 : decode cX11_count 188 = .ok (.getfield 43, 3) := by decide +kernel
theorem dX11_count_191 : decode cX11_count 191 = .ok (.getfield 111, 3) := by decide +kernel
theorem dX11_count_194 : decode cX11_count 194 = .ok (.getfield 115, 3) := by decide +kernel
theorem dX11_count_197 : decode cX11_count 197 = .ok (.ireturn, 1) := by decide +kernel
theorem dX11_count_198 : decode cX11_count 198 = .ok (.aload_n 0, 1) := by decide +kernel
theorem dX11_count_199 : decode cX11_count 199 = .ok (.getfield 57, 3) := by decide +kernel
theorem dX11_count_202 : decode cX11_count 202 = .ok (.getfield 120, 3) := by decide +kernel
theorem dX11_count_205 : decode cX11_count 205 = .ok (.ireturn, 1) := by decide +kernel
theorem dX11_count_206 : decode cX11_count 206 = .ok (.aload_n 0, 1) := by decide +kernel
theorem dX11_count_207 : decode cX11_count 207 = .ok (.getfield 43, 3) := by decide +kernel
theorem dX11_count_210 : decode cX11_count 210 = .ok (.getfield 272, 3) := by decide +kernel
theorem dX11_count_213 : decode cX11_count 213 = .ok (.ireturn, 1) := by decide +kernel
theorem dX11_count_214 : decode cX11_count 214 = .ok (.aload_n 0, 1) := by decide +kernel
theorem dX11_count_215 : decode cX11_count 215 = .ok (.getfield 10, 3) := by decide +kernel
theorem dX11_count_218 : decode cX11_count 218 = .ok (.getfield 94, 3) := by decide +kernel
theorem dX11_count_221 : decode cX11_count 221 = .ok (.ireturn, 1) := by decide +kernel
theorem dX11_count_222 : decode cX11_count 222 = .ok (.iconst (-1), 1) := by decide +kernel
theorem dX11_count_223 : decode cX11_count 223 = .ok (.ireturn, 1) := by decide +kernel
theorem dX11_day_0 : decode cX11_day 0 = .ok (.aload_n 0, 1) := by decide +kernel
theorem dX11_day_1 : decode cX11_day 1 = .ok (.getfield 51, 3) := by decide +kernel
theorem dX11_day_4 : decode cX11_day 4 = .ok (.invokevirtual 176, 3) := by decide +kernel
theorem dX11_day_7 : decode cX11_day 7 = .ok (.ifCond .eq 16, 3) := by decide +kernel
theorem dX11_day_23 : decode cX11_day 23 = .ok (.iconst (-1), 1) := by decide +kernel
theorem dX11_day_24 : decode cX11_day 24 = .ok (.ireturn, 1) := by decide +kernel
theorem dX11_empty_0 : decode cX11_empty 0 = .ok (.aload_n 0, 1) := by decide +kernel
theorem dX11_empty_1 : decode cX11_empty 1 = .ok (.getfield 51, 3) := by decide +kernel
theorem dX11_empty_4 : decode cX11_empty 4 = .ok (.invokevirtual 176, 3) := by decide +kernel
theorem dX11_empty_7 : decode cX11_empty 7 = .ok (.ifCond .eq 21, 3) := by decide +kernel
theorem dX11_empty_28 : decode cX11_empty 28 = .ok (.iconst (-1), 1) := by decide +kernel
theorem dX11_empty_29 : decode cX11_empty 29 = .ok (.ireturn, 1) := by decide +kernel
theorem dX11_end_0 : decode cX11_end 0 = .ok (.iload_n 1, 1) := by decide +kernel
theorem dX11_end_1 : decode cX11_end 1 = .ok (.ifCond .lt 14, 3) := by decide +kernel
theorem dX11_end_4 : decode cX11_end 4 = .ok (.iload_n 1, 1) := by decide +kernel
theorem dX11_end_5 : decode cX11_end 5 = .ok (.aload_n 0, 1) := by decide +kernel
theorem dX11_end_6 : decode cX11_end 6 = .ok (.getfield 10, 3) := by decide +kernel
theorem dX11_end_9 : decode cX11_end 9 = .ok (.getfield 94, 3) := by decide +kernel
theorem dX11_end_12 : decode cX11_end 12 = .ok (.if_icmp .le 5, 3) := by decide +kernel
theorem dX11_end_15 : decode cX11_end 15 = .ok (.iconst (-1), 1) := by decide +kernel
theorem dX11_end_16 : decode cX11_end 16 = .ok (.ireturn, 1) := by decide +kernel
theorem dX11_end_17 : decode cX11_end 17 = .ok (.aload_n 0, 1) := by decide +kernel
theorem dX11_end_18 : decode cX11_end 18 = .ok (.getfield 10, 3) := by decide +kernel
theorem dX11_end_21 : decode cX11_end 21 = .ok (.iload_n 1, 1) := by decide +kernel
theorem dX11_end_22 : decode cX11_end 22 = .ok (.putfield 94, 3) := by decide +kernel
theorem dX11_end_25 : decode cX11_end 25 = .ok (.iload_n 1, 1) := by decide +kernel
theorem dX11_end_26 : decode cX11_end 26 = .ok (.ireturn, 1) := by decide +kernel
theorem dX11_fines_0 : decode cX11_fines 0 = .ok (.iload_n 1, 1) := by decide +kernel
theorem dX11_fines_1 : decode cX11_fines 1 = .ok (.iconst 0, 1) := by decide +kernel
theorem dX11_fines_2 : decode cX11_fines 2 = .ok (.sipush 9999, 3) := by decide +kernel
theorem dX11_fines_5 : decode cX11_fines 5 = .ok (.invokestatic 166, 3) := by decide +kernel
theorem dX11_fines_8 : decode cX11_fines 8 = .ok (.ifCond .eq 14, 3) := by decide +kernel
theorem dX11_fines_11 : decode cX11_fines 11 = .ok (.aload_n 0, 1) := by decide +kernel
theorem dX11_fines_12 : decode cX11_fines 12 = .ok (.getfield 51, 3) := by decide +kernel
theorem dX11_fines_15 : decode cX11_fines 15 = .ok (.iload_n 2, 1) := by decide +kernel
theorem dX11_fines_16 : decode cX11_fines 16 = .ok (.invokevirtual 133, 3) := by decide +kernel
theorem dX11_fines_19 : decode cX11_fines 19 = .ok (.ifCond .ne 5, 3) := by decide +kernel
theorem dX11_fines_22 : decode cX11_fines 22 = .ok (.iconst (-1), 1) := by decide +kernel
theorem dX11_fines_23 : decode cX11_fines 23 = .ok (.ireturn, 1) := by decide +kernel
theorem dX11_force_0 : decode cX11_force 0 = .ok (.iload_n 1, 1) := by decide +kernel
theorem dX11_force_1 : decode cX11_force 1 = .ok (.iconst (-1), 1) := by decide +kernel
theorem dX11_force_2 : decode cX11_force 2 = .ok (.if_icmp .lt 11, 3) := by decide +kernel
theorem dX11_force_5 : decode cX11_force 5 = .ok (.iload_n 1, 1) := by decide +kernel
theorem dX11_force_6 : decode cX11_force 6 = .ok (.aload_n 0, 1) := by decide +kernel
theorem dX11_force_7 : decode cX11_force 7 = .ok (.getfield 36, 3) := by decide +kernel
theorem dX11_force_10 : decode cX11_force 10 = .ok (.if_icmp .lt 6, 3) := by decide +kernel
theorem dX11_force_13 : decode cX11_force 13 = .ok (.bipush (-2), 2) := by decide +kernel
theorem dX11_force_15 : decode cX11_force 15 = .ok (.ireturn, 1) := by decide +kernel
theorem dX11_force_16 : decode cX11_force 16 = .ok (.aload_n 0, 1) := by decide +kernel
theorem dX11_force_17 : decode cX11_force 17 = .ok (.getfield 43, 3) := by decide +kernel
theorem dX11_force_20 : decode cX11_force 20 = .ok (.getfield 130, 3) := by decide +kernel
theorem dX11_force_23 : decode cX11_force 23 = .ok (.istore_n 2, 1) := by decide +kernel
theorem dX11_force_24 : decode cX11_force 24 = .ok (.aload_n 0, 1) := by decide +kernel
theorem dX11_force_25 : decode cX11_force 25 = .ok (.getfield 43, 3) := by decide +kernel
theorem dX11_force_28 : decode cX11_force 28 = .ok (.iload_n 1, 1) := by decide +kernel
theorem dX11_force_29 : decode cX11_force 29 = .ok (.putfield 130, 3) := by decide +kernel
theorem dX11_force_32 : decode cX11_force 32 = .ok (.iload_n 2, 1) := by decide +kernel
theorem dX11_force_33 : decode cX11_force 33 = .ok (.ireturn, 1) := by decide +kernel
theorem dX11_guard_0 : decode cX11_guard 0 = .ok (.aload_n 0, 1) := by decide +kernel
theorem dX11_guard_1 : decode cX11_guard 1 = .ok (.getfield 51, 3) := by decide +kernel
theorem dX11_guard_4 : decode cX11_guard 4 = .ok (.invokevirtual 176, 3) := by decide +kernel
theorem dX11_guard_7 : decode cX11_guard 7 = .ok (.ifCond .eq 22, 3) := by decide +kernel
theorem dX11_guard_29 : decode cX11_guard 29 = .ok (.iconst (-1), 1) := by decide +kernel
theorem dX11_guard_30 : decode cX11_guard 30 = .ok (.ireturn, 1) := by decide +kernel
theorem dX11_isWithin_0 : decode cX11_isWithin 0 = .ok (.iload_n 0, 1) := by decide +kernel
theorem dX11_isWithin_1 : decode cX11_isWithin 1 = .ok (.iload_n 1, 1) := by decide +kernel
theorem dX11_isWithin_2 : decode cX11_isWithin 2 = .ok (.if_icmp .lt 12, 3) := by decide +kernel
theorem dX11_isWithin_5 : decode cX11_isWithin 5 = .ok (.iload_n 0, 1) := by decide +kernel
theorem dX11_isWithin_6 : decode cX11_isWithin 6 = .ok (.iload_n 2, 1) := by decide +kernel
theorem dX11_isWithin_7 : decode cX11_isWithin 7 = .ok (.if_icmp .gt 7, 3) := by decide +kernel
theorem dX11_isWithin_10 : decode cX11_isWithin 10 = .ok (.iconst 1, 1) := by decide +kernel
theorem dX11_isWithin_11 : decode cX11_isWithin 11 = .ok (.goto 4, 3) := by decide +kernel
theorem dX11_isWithin_14 : decode cX11_isWithin 14 = .ok (.iconst 0, 1) := by decide +kernel
theorem dX11_isWithin_15 : decode cX11_isWithin 15 = .ok (.ireturn, 1) := by decide +kernel
theorem dX11_least_0 : decode cX11_least 0 = .ok (.aload_n 0, 1) := by decide +kernel
theorem dX11_least_1 : decode cX11_least 1 = .ok (.getfield 51, 3) := by decide +kernel
theorem dX11_least_4 : decode cX11_least 4 = .ok (.iload_n 1, 1) := by decide +kernel
theorem dX11_least_5 : decode cX11_least 5 = .ok (.invokevirtual 133, 3) := by decide +kernel
theorem dX11_least_8 : decode cX11_least 8 = .ok (.ifCond .eq 13, 3) := by decide +kernel
theorem dX11_least_21 : decode cX11_least 21 = .ok (.iconst (-1), 1) := by decide +kernel
theorem dX11_least_22 : decode cX11_least 22 = .ok (.ireturn, 1) := by decide +kernel
theorem dX11_look_0 : decode cX11_look 0 = .ok (.aload_n 0, 1) := by decide +kernel
theorem dX11_look_1 : decode cX11_look 1 = .ok (.getfield 51, 3) := by decide +kernel
theorem dX11_look_4 : decode cX11_look 4 = .ok (.invokevirtual 176, 3) := by decide +kernel
theorem dX11_look_7 : decode cX11_look 7 = .ok (.ifCond .eq 12, 3) := by decide +kernel
theorem dX11_look_19 : decode cX11_look 19 = .ok (.iconst (-1), 1) := by decide +kernel
theorem dX11_look_20 : decode cX11_look 20 = .ok (.ireturn, 1) := by decide +kernel
theorem dX11_note_0 : decode cX11_note 0 = .ok (.iload_n 1, 1) := by decide +kernel
theorem dX11_note_1 : decode cX11_note 1 = .ok (.iconst (-1), 1) := by decide +kernel
theorem dX11_note_2 : decode cX11_note 2 = .ok (.if_icmp .ne 16, 3) := by decide +kernel
theorem dX11_note_5 : decode cX11_note 5 = .ok (.aload_n 0, 1) := by decide +kernel
theorem dX11_note_6 : decode cX11_note 6 = .ok (.getfield 43, 3) := by decide +kernel
theorem dX11_note_9 : decode cX11_note 9 = .ok (.getfield 111, 3) := by decide +kernel
theorem dX11_note_12 : decode cX11_note 12 = .ok (.iconst 0, 1) := by decide +kernel
theorem dX11_note_13 : decode cX11_note 13 = .ok (.putfield 115, 3) := by decide +kernel
theorem dX11_note_16 : decode cX11_note 16 = .ok (.iconst 0, 1) := by decide +kernel
theorem dX11_note_17 : decode cX11_note 17 = .ok (.ireturn, 1) := by decide +kernel
theorem dX11_note_18 : decode cX11_note 18 = .ok (.iload_n 1, 1) := by decide +kernel
theorem dX11_note_19 : decode cX11_note 19 = .ok (.iconst 0, 1) := by decide +kernel
theorem dX11_note_20 : decode cX11_note 20 = .ok (.bipush 60, 2) := by decide +kernel
theorem dX11_note_22 : decode cX11_note 22 = .ok (.invokestatic 166, 3) := by decide +kernel
theorem dX11_note_25 : decode cX11_note 25 = .ok (.ifCond .eq 23, 3) := by decide +kernel
theorem dX11_note_28 : decode cX11_note 28 = .ok (.aload_n 0, 1) := by decide +kernel
theorem dX11_note_29 : decode cX11_note 29 = .ok (.getfield 51, 3) := by decide +kernel
theorem dX11_note_32 : decode cX11_note 32 = .ok (.iload_n 2, 1) := by decide +kernel
theorem dX11_note_33 : decode cX11_note 33 = .ok (.invokevirtual 133, 3) := by decide +kernel
theorem dX11_note_36 : decode cX11_note 36 = .ok (.ifCond .eq 12, 3) := by decide +kernel
theorem dX11_note_48 : decode cX11_note 48 = .ok (.bipush (-2), 2) := by decide +kernel
theorem dX11_note_50 : decode cX11_note 50 = .ok (.ireturn, 1) := by decide +kernel
theorem dX11_page_0 : decode cX11_page 0 = .ok (.aload_n 0, 1) := by decide +kernel
theorem dX11_page_1 : decode cX11_page 1 = .ok (.getfield 51, 3) := by decide +kernel
theorem dX11_page_4 : decode cX11_page 4 = .ok (.invokevirtual 176, 3) := by decide +kernel
theorem dX11_page_7 : decode cX11_page 7 = .ok (.ifCond .eq 22, 3) := by decide +kernel
theorem dX11_page_29 : decode cX11_page 29 = .ok (.iconst (-1), 1) := by decide +kernel
theorem dX11_page_30 : decode cX11_page 30 = .ok (.ireturn, 1) := by decide +kernel
theorem dX11_peak_0 : decode cX11_peak 0 = .ok (.aload_n 0, 1) := by decide +kernel
theorem dX11_peak_1 : decode cX11_peak 1 = .ok (.getfield 51, 3) := by decide +kernel
theorem dX11_peak_4 : decode cX11_peak 4 = .ok (.invokevirtual 176, 3) := by decide +kernel
theorem dX11_peak_7 : decode cX11_peak 7 = .ok (.ifCond .eq 22, 3) := by decide +kernel
theorem dX11_peak_29 : decode cX11_peak 29 = .ok (.iconst (-1), 1) := by decide +kernel
theorem dX11_peak_30 : decode cX11_peak 30 = .ok (.ireturn, 1) := by decide +kernel
theorem dX11_rests_0 : decode cX11_rests 0 = .ok (.aload_n 0, 1) := by decide +kernel
theorem dX11_rests_1 : decode cX11_rests 1 = .ok (.getfield 51, 3) := by decide +kernel
theorem dX11_rests_4 : decode cX11_rests 4 = .ok (.iload_n 1, 1) := by decide +kernel
theorem dX11_rests_5 : decode cX11_rests 5 = .ok (.invokevirtual 133, 3) := by decide +kernel
theorem dX11_rests_8 : decode cX11_rests 8 = .ok (.ifCond .eq 19, 3) := by decide +kernel
theorem dX11_rests_27 : decode cX11_rests 27 = .ok (.iconst (-1), 1) := by decide +kernel
theorem dX11_rests_28 : decode cX11_rests 28 = .ok (.ireturn, 1) := by decide +kernel
theorem dX11_ring_0 : decode cX11_ring 0 = .ok (.aload_n 0, 1) := by decide +kernel
theorem dX11_ring_1 : decode cX11_ring 1 = .ok (.getfield 51, 3) := by decide +kernel
theorem dX11_ring_4 : decode cX11_ring 4 = .ok (.invokevirtual 176, 3) := by decide +kernel
theorem dX11_ring_7 : decode cX11_ring 7 = .ok (.ifCond .eq 12, 3) := by decide +kernel
theorem dX11_ring_19 : decode cX11_ring 19 = .ok (.iconst (-1), 1) := by decide +kernel
theorem dX11_ring_20 : decode cX11_ring 20 = .ok (.ireturn, 1) := by decide +kernel
theorem dX11_ruled_0 : decode cX11_ruled 0 = .ok (.aload_n 0, 1) := by decide +kernel
theorem dX11_ruled_1 : decode cX11_ruled 1 = .ok (.getfield 51, 3) := by decide +kernel
theorem dX11_ruled_4 : decode cX11_ruled 4 = .ok (.invokevirtual 176, 3) := by decide +kernel
theorem dX11_ruled_7 : decode cX11_ruled 7 = .ok (.ifCond .eq 12, 3) := by decide +kernel
theorem dX11_ruled_19 : decode cX11_ruled 19 = .ok (.bipush (-3), 2) := by decide +kernel
theorem dX11_ruled_21 : decode cX11_ruled 21 = .ok (.ireturn, 1) := by decide +kernel
theorem dX11_seed_0 : decode cX11_seed 0 = .ok (.iload_n 1, 1) := by decide +kernel
theorem dX11_seed_1 : decode cX11_seed 1 = .ok (.ifCond .ge 5, 3) := by decide +kernel
theorem dX11_seed_4 : decode cX11_seed 4 = .ok (.iconst (-1), 1) := by decide +kernel
theorem dX11_seed_5 : decode cX11_seed 5 = .ok (.ireturn, 1) := by decide +kernel
theorem dX11_seed_6 : decode cX11_seed 6 = .ok (.aload_n 0, 1) := by decide +kernel
theorem dX11_seed_7 : decode cX11_seed 7 = .ok (.getfield 43, 3) := by decide +kernel
theorem dX11_seed_10 : decode cX11_seed 10 = .ok (.getfield 272, 3) := by decide +kernel
theorem dX11_seed_13 : decode cX11_seed 13 = .ok (.istore_n 2, 1) := by decide +kernel
theorem dX11_seed_14 : decode cX11_seed 14 = .ok (.aload_n 0, 1) := by decide +kernel
theorem dX11_seed_15 : decode cX11_seed 15 = .ok (.getfield 43, 3) := by decide +kernel
theorem dX11_seed_18 : decode cX11_seed 18 = .ok (.iload_n 1, 1) := by decide +kernel
theorem dX11_seed_19 : decode cX11_seed 19 = .ok (.putfield 272, 3) := by decide +kernel
theorem dX11_seed_22 : decode cX11_seed 22 = .ok (.iload_n 2, 1) := by decide +kernel
theorem dX11_seed_23 : decode cX11_seed 23 = .ok (.ireturn, 1) := by decide +kernel
theorem dX11_sell_0 : decode cX11_sell 0 = .ok (.aload_n 0, 1) := by decide +kernel
theorem dX11_sell_1 : decode cX11_sell 1 = .ok (.getfield 51, 3) := by decide +kernel
theorem dX11_sell_4 : decode cX11_sell 4 = .ok (.iload_n 1, 1) := by decide +kernel
theorem dX11_sell_5 : decode cX11_sell 5 = .ok (.invokevirtual 133, 3) := by decide +kernel
theorem dX11_sell_8 : decode cX11_sell 8 = .ok (.ifCond .eq 22, 3) := by decide +kernel
theorem dX11_sell_30 : decode cX11_sell 30 = .ok (.iconst (-1), 1) := by decide +kernel
theorem dX11_sell_31 : decode cX11_sell 31 = .ok (.ireturn, 1) := by decide +kernel
theorem dX11_sky_0 : decode cX11_sky 0 = .ok (.aload_n 0, 1) := by decide +kernel
theorem dX11_sky_1 : decode cX11_sky 1 = .ok (.getfield 51, 3) := by decide +kernel
theorem dX11_sky_4 : decode cX11_sky 4 = .ok (.iload_n 1, 1) := by decide +kernel
theorem dX11_sky_5 : decode cX11_sky 5 = .ok (.invokevirtual 163, 3) := by decide +kernel
theorem dX11_sky_8 : decode cX11_sky 8 = .ok (.ifCond .eq 12, 3) := by decide +kernel
theorem dX11_sky_20 : decode cX11_sky 20 = .ok (.iconst (-1), 1) := by decide +kernel
theorem dX11_sky_21 : decode cX11_sky 21 = .ok (.ireturn, 1) := by decide +kernel
theorem dX11_soothe_0 : decode cX11_soothe 0 = .ok (.aload_n 0, 1) := by decide +kernel
theorem dX11_soothe_1 : decode cX11_soothe 1 = .ok (.getfield 51, 3) := by decide +kernel
theorem dX11_soothe_4 : decode cX11_soothe 4 = .ok (.invokevirtual 176, 3) := by decide +kernel
theorem dX11_soothe_7 : decode cX11_soothe 7 = .ok (.ifCond .eq 22, 3) := by decide +kernel
theorem dX11_soothe_29 : decode cX11_soothe 29 = .ok (.bipush (-2), 2) := by decide +kernel
theorem dX11_soothe_31 : decode cX11_soothe 31 = .ok (.ireturn, 1) := by decide +kernel
theorem dX11_summers_0 : decode cX11_summers 0 = .ok (.aload_n 0, 1) := by decide +kernel
theorem dX11_summers_1 : decode cX11_summers 1 = .ok (.getfield 51, 3) := by decide +kernel
theorem dX11_summers_4 : decode cX11_summers 4 = .ok (.invokevirtual 176, 3) := by decide +kernel
theorem dX11_summers_7 : decode cX11_summers 7 = .ok (.ifCond .eq 23, 3) := by decide +kernel
theorem dX11_summers_30 : decode cX11_summers 30 = .ok (.iconst (-1), 1) := by decide +kernel
theorem dX11_summers_31 : decode cX11_summers 31 = .ok (.ireturn, 1) := by decide +kernel
theorem dX11_tells_0 : decode cX11_tells 0 = .ok (.aload_n 0, 1) := by decide +kernel
theorem dX11_tells_1 : decode cX11_tells 1 = .ok (.getfield 51, 3) := by decide +kernel
theorem dX11_tells_4 : decode cX11_tells 4 = .ok (.invokevirtual 176, 3) := by decide +kernel
theorem dX11_tells_7 : decode cX11_tells 7 = .ok (.ifCond .eq 22, 3) := by decide +kernel
theorem dX11_tells_29 : decode cX11_tells 29 = .ok (.iconst (-1), 1) := by decide +kernel
theorem dX11_tells_30 : decode cX11_tells 30 = .ok (.ireturn, 1) := by decide +kernel
theorem dX11_undo_0 : decode cX11_undo 0 = .ok (.aload_n 0, 1) := by decide +kernel
theorem dX11_undo_1 : decode cX11_undo 1 = .ok (.getfield 57, 3) := by decide +kernel
theorem dX11_undo_4 : decode cX11_undo 4 = .ok (.aload_n 0, 1) := by decide +kernel
theorem dX11_undo_5 : decode cX11_undo 5 = .ok (.getfield 51, 3) := by decide +kernel
theorem dX11_undo_8 : decode cX11_undo 8 = .ok (.invokevirtual 199, 3) := by decide +kernel
theorem dX11_undo_11 : decode cX11_undo 11 = .ok (.ireturn, 1) := by decide +kernel
theorem dX11_watch_0 : decode cX11_watch 0 = .ok (.aload_n 0, 1) := by decide +kernel
theorem dX11_watch_1 : decode cX11_watch 1 = .ok (.getfield 51, 3) := by decide +kernel
theorem dX11_watch_4 : decode cX11_watch 4 = .ok (.iload_n 1, 1) := by decide +kernel
theorem dX11_watch_5 : decode cX11_watch 5 = .ok (.invokevirtual 163, 3) := by decide +kernel
theorem dX11_watch_8 : decode cX11_watch 8 = .ok (.ifCond .eq 14, 3) := by decide +kernel
theorem dX11_watch_22 : decode cX11_watch 22 = .ok (.iconst (-1), 1) := by decide +kernel
theorem dX11_watch_23 : decode cX11_watch 23 = .ok (.ireturn, 1) := by decide +kernel
theorem dX5_giveBack_0 : decode cX5_giveBack 0 = .ok (.aload_n 0, 1) := by decide +kernel
theorem dX5_giveBack_1 : decode cX5_giveBack 1 = .ok (.getfield 17, 3) := by decide +kernel
theorem dX5_giveBack_4 : decode cX5_giveBack 4 = .ok (.bipush 20, 2) := by decide +kernel
theorem dX5_giveBack_6 : decode cX5_giveBack 6 = .ok (.iadd, 1) := by decide +kernel
theorem dX5_giveBack_7 : decode cX5_giveBack 7 = .ok (.iconst 1, 1) := by decide +kernel
theorem dX5_giveBack_8 : decode cX5_giveBack 8 = .ok (.isub, 1) := by decide +kernel
theorem dX5_giveBack_9 : decode cX5_giveBack 9 = .ok (.bipush 20, 2) := by decide +kernel
theorem dX5_giveBack_11 : decode cX5_giveBack 11 = .ok (.irem, 1) := by decide +kernel
theorem dX5_giveBack_12 : decode cX5_giveBack 12 = .ok (.istore_n 2, 1) := by decide +kernel
theorem dX5_giveBack_13 : decode cX5_giveBack 13 = .ok (.aload_n 0, 1) := by decide +kernel
theorem dX5_giveBack_14 : decode cX5_giveBack 14 = .ok (.getfield 21, 3) := by decide +kernel
theorem dX5_giveBack_17 : decode cX5_giveBack 17 = .ok (.ifCond .le 7, 3) := by decide +kernel
theorem dX5_giveBack_24 : decode cX5_giveBack 24 = .ok (.iconst (-1), 1) := by decide +kernel
theorem dX5_giveBack_25 : decode cX5_giveBack 25 = .ok (.ireturn, 1) := by decide +kernel
theorem dX9_clockOn_0 : decode cX9_clockOn 0 = .ok (.aload_n 0, 1) := by decide +kernel
theorem dX9_clockOn_1 : decode cX9_clockOn 1 = .ok (.getfield 18, 3) := by decide +kernel
theorem dX9_clockOn_4 : decode cX9_clockOn 4 = .ok (.ifCond .le 16, 3) := by decide +kernel
theorem dX9_clockOn_20 : decode cX9_clockOn 20 = .ok (.iconst 0, 1) := by decide +kernel
theorem dX9_clockOn_21 : decode cX9_clockOn 21 = .ok (.ireturn, 1) := by decide +kernel
theorem dX9_hasBuyer_0 : decode cX9_hasBuyer 0 = .ok (.iload_n 1, 1) := by decide +kernel
theorem dX9_hasBuyer_1 : decode cX9_hasBuyer 1 = .ok (.ifCond .lt 21, 3) := by decide +kernel
theorem dX9_hasBuyer_4 : decode cX9_hasBuyer 4 = .ok (.iload_n 1, 1) := by decide +kernel
theorem dX9_hasBuyer_5 : decode cX9_hasBuyer 5 = .ok (.aload_n 0, 1) := by decide +kernel
theorem dX9_hasBuyer_6 : decode cX9_hasBuyer 6 = .ok (.getfield 21, 3) := by decide +kernel
theorem dX9_hasBuyer_9 : decode cX9_hasBuyer 9 = .ok (.if_icmp .ge 13, 3) := by decide +kernel
theorem dX9_hasBuyer_22 : decode cX9_hasBuyer 22 = .ok (.iconst 0, 1) := by decide +kernel
theorem dX9_hasBuyer_23 : decode cX9_hasBuyer 23 = .ok (.ireturn, 1) := by decide +kernel
theorem dX9_hasClock_0 : decode cX9_hasClock 0 = .ok (.iload_n 1, 1) := by decide +kernel
theorem dX9_hasClock_1 : decode cX9_hasClock 1 = .ok (.ifCond .lt 21, 3) := by decide +kernel
theorem dX9_hasClock_4 : decode cX9_hasClock 4 = .ok (.iload_n 1, 1) := by decide +kernel
theorem dX9_hasClock_5 : decode cX9_hasClock 5 = .ok (.aload_n 0, 1) := by decide +kernel
theorem dX9_hasClock_6 : decode cX9_hasClock 6 = .ok (.getfield 18, 3) := by decide +kernel
theorem dX9_hasClock_9 : decode cX9_hasClock 9 = .ok (.if_icmp .ge 13, 3) := by decide +kernel
theorem dX9_hasClock_22 : decode cX9_hasClock 22 = .ok (.iconst 0, 1) := by decide +kernel
theorem dX9_hasClock_23 : decode cX9_hasClock 23 = .ok (.ireturn, 1) := by decide +kernel
theorem dX9_isTold_0 : decode cX9_isTold 0 = .ok (.aload_n 0, 1) := by decide +kernel
theorem dX9_isTold_1 : decode cX9_isTold 1 = .ok (.getfield 18, 3) := by decide +kernel
theorem dX9_isTold_4 : decode cX9_isTold 4 = .ok (.ifCond .le 7, 3) := by decide +kernel
theorem dX9_isTold_11 : decode cX9_isTold 11 = .ok (.iconst 0, 1) := by decide +kernel
theorem dX9_isTold_12 : decode cX9_isTold 12 = .ok (.ireturn, 1) := by decide +kernel
theorem dX9_stillOn_0 : decode cX9_stillOn 0 = .ok (.aload_n 0, 1) := by decide +kernel
theorem dX9_stillOn_1 : decode cX9_stillOn 1 = .ok (.getfield 18, 3) := by decide +kernel
theorem dX9_stillOn_4 : decode cX9_stillOn 4 = .ok (.ifCond .le 7, 3) := by decide +kernel
theorem dX9_stillOn_11 : decode cX9_stillOn 11 = .ok (.iconst 0, 1) := by decide +kernel
theorem dX9_stillOn_12 : decode cX9_stillOn 12 = .ok (.ireturn, 1) := by decide +kernel
theorem dX9_timesMet_0 : decode cX9_timesMet 0 = .ok (.iconst 0, 1) := by decide +kernel
theorem dX9_timesMet_1 : decode cX9_timesMet 1 = .ok (.istore_n 1, 1) := by decide +kernel
theorem dX9_timesMet_2 : decode cX9_timesMet 2 = .ok (.iconst 0, 1) := by decide +kernel
theorem dX9_timesMet_3 : decode cX9_timesMet 3 = .ok (.istore_n 2, 1) := by decide +kernel
theorem dX9_timesMet_4 : decode cX9_timesMet 4 = .ok (.iload_n 2, 1) := by decide +kernel
theorem dX9_timesMet_5 : decode cX9_timesMet 5 = .ok (.aload_n 0, 1) := by decide +kernel
theorem dX9_timesMet_6 : decode cX9_timesMet 6 = .ok (.getfield 21, 3) := by decide +kernel
theorem dX9_timesMet_9 : decode cX9_timesMet 9 = .ok (.if_icmp .ge 24, 3) := by decide +kernel
theorem dX9_timesMet_33 : decode cX9_timesMet 33 = .ok (.iload_n 1, 1) := by decide +kernel
theorem dX9_timesMet_34 : decode cX9_timesMet 34 = .ok (.ireturn, 1) := by decide +kernel
theorem dX9_whoCanBuy_0 : decode cX9_whoCanBuy 0 = .ok (.iconst 0, 1) := by decide +kernel
theorem dX9_whoCanBuy_1 : decode cX9_whoCanBuy 1 = .ok (.istore_n 1, 1) := by decide +kernel
theorem dX9_whoCanBuy_2 : decode cX9_whoCanBuy 2 = .ok (.iconst 0, 1) := by decide +kernel
theorem dX9_whoCanBuy_3 : decode cX9_whoCanBuy 3 = .ok (.istore_n 2, 1) := by decide +kernel
theorem dX9_whoCanBuy_4 : decode cX9_whoCanBuy 4 = .ok (.iload_n 2, 1) := by decide +kernel
theorem dX9_whoCanBuy_5 : decode cX9_whoCanBuy 5 = .ok (.aload_n 0, 1) := by decide +kernel
theorem dX9_whoCanBuy_6 : decode cX9_whoCanBuy 6 = .ok (.getfield 21, 3) := by decide +kernel
theorem dX9_whoCanBuy_9 : decode cX9_whoCanBuy 9 = .ok (.if_icmp .ge 29, 3) := by decide +kernel
theorem dX9_whoCanBuy_38 : decode cX9_whoCanBuy 38 = .ok (.iload_n 1, 1) := by decide +kernel
theorem dX9_whoCanBuy_39 : decode cX9_whoCanBuy 39 = .ok (.ireturn, 1) := by decide +kernel
set_option maxHeartbeats 4000000 in
set_option maxRecDepth 100000 in
theorem ct_X9_isTold (l : Launch) (D : va_G) (tc : Nat → ClassId) (sk : (Nat → Nat) × (Nat → Nat)) (sh : Nat) (a1 : Nat) (a2 : Nat) (a3 : Nat) (a4 : Nat) (a5 : Nat) (a6 : Nat) (a7 : Nat) (a8 : Nat)  : Ct l yX9_isTold cX9_isTold 1 (some .boolean) { frames := 0, cells := 0, slots := 0, locals := 0 } D tc sk [.ref sh] [(sh, .inr (9, [.int 0, .int 0, .int 0, .int 0, .int 0, .int 0, .ref a1, .ref a2, .ref a3, .ref a4, .ref a5, .ref a6, .ref a7, .ref a8]))] (fun (v : Option Value) (_ : Unit) => v = some (.int 0)) (fun (_ : Unit) => [(sh, .inr (9, [.int 0, .int 0, .int 0, .int 0, .int 0, .int 0, .ref a1, .ref a2, .ref a3, .ref a4, .ref a5, .ref a6, .ref a7, .ref a8]))]) 0 0 := by
  refine Ct.start (by decide) (Nat.le_of_ble_eq_true rfl) (fun p e s m below meth c A ls hx hb hr hlk hin hml hown hts hK hX hP hD hA hl hS => ?_)
  have hl : lv_has ls 1 [(0, .ref sh)] := hl
  refine lv_aload_n hx hb dX9_isTold_0 rfl (lv_at hl 0 rfl) ?_
  refine gf_X9_18 hx hb hts hown hK hP 0 rfl rfl dX9_isTold_1 ?_
  refine lv_if_le (tgt := 11) hx hb dX9_isTold_4 (by decide) (fun c_1 => ?_) (fun c_1 => absurd c_1 (by decide))
  refine lv_iconst (v := 0) hx hb dX9_isTold_11 (by decide) ?_
  exact retI (v := 0) hx hb hr hlk (rfl) hP hD hS () rfl [0] rfl rfl dX9_isTold_12 (Nat.le_of_ble_eq_true rfl) (Nat.le_of_ble_eq_true rfl) rfl
set_option maxHeartbeats 4000000 in
set_option maxRecDepth 100000 in
theorem ct_X9_hasBuyer (l : Launch) (D : va_G) (tc : Nat → ClassId) (sk : (Nat → Nat) × (Nat → Nat)) (sh : Nat) (a1 : Nat) (a2 : Nat) (a3 : Nat) (a4 : Nat) (a5 : Nat) (a6 : Nat) (a7 : Nat) (a8 : Nat) (x1 : Int32)  : Ct l yX9_hasBuyer cX9_hasBuyer 2 (some .boolean) { frames := 0, cells := 0, slots := 0, locals := 0 } D tc sk [.ref sh, .int x1] [(sh, .inr (9, [.int 0, .int 0, .int 0, .int 0, .int 0, .int 0, .ref a1, .ref a2, .ref a3, .ref a4, .ref a5, .ref a6, .ref a7, .ref a8]))] (fun (v : Option Value) (_ : Unit) => v = some (.int 0)) (fun (_ : Unit) => [(sh, .inr (9, [.int 0, .int 0, .int 0, .int 0, .int 0, .int 0, .ref a1, .ref a2, .ref a3, .ref a4, .ref a5, .ref a6, .ref a7, .ref a8]))]) 0 0 := by
  refine Ct.start (by decide) (Nat.le_of_ble_eq_true rfl) (fun p e s m below meth c A ls hx hb hr hlk hin hml hown hts hK hX hP hD hA hl hS => ?_)
  have hl : lv_has ls 2 [(0, .ref sh), (1, .int x1)] := hl
  refine lv_iload_n hx hb dX9_hasBuyer_0 rfl (lv_at hl 1 rfl) ?_
  refine lv_if_lt (tgt := 22) hx hb dX9_hasBuyer_1 (by decide) (fun c_1 => ?_) (fun c_1 => ?_)
  · skip
    refine lv_iconst (v := 0) hx hb dX9_hasBuyer_22 (by decide) ?_
    exact retI (v := 0) hx hb hr hlk (rfl) hP hD hS () rfl [0] rfl rfl dX9_hasBuyer_23 (Nat.le_of_ble_eq_true rfl) (Nat.le_of_ble_eq_true rfl) rfl
  · skip
    refine lv_iload_n hx hb dX9_hasBuyer_4 rfl (lv_at hl 1 rfl) ?_
    refine lv_aload_n hx hb dX9_hasBuyer_5 rfl (lv_at hl 0 rfl) ?_
    refine gf_X9_21 hx hb hts hown hK hP 0 rfl rfl dX9_hasBuyer_6 ?_
    refine lv_icmp_ge (tgt := 22) hx hb dX9_hasBuyer_9 (by decide) (fun c_2 => ?_) (fun c_2 => ?_)
    · skip
      refine lv_iconst (v := 0) hx hb dX9_hasBuyer_22 (by decide) ?_
      exact retI (v := 0) hx hb hr hlk (rfl) hP hD hS () rfl [0] rfl rfl dX9_hasBuyer_23 (Nat.le_of_ble_eq_true rfl) (Nat.le_of_ble_eq_true rfl) rfl
    · skip
      exfalso
      have z_1 := Int32.le_iff_toInt_le.mp (Int32.not_lt.mp c_1)
      have z_2 := Int32.lt_iff_toInt_lt.mp (Int32.not_le.mp c_2)
      have y_0 : (0 : Int32).toInt = 0 := by decide
      omega
set_option maxHeartbeats 4000000 in
set_option maxRecDepth 100000 in
theorem ct_X9_hasClock (l : Launch) (D : va_G) (tc : Nat → ClassId) (sk : (Nat → Nat) × (Nat → Nat)) (sh : Nat) (a1 : Nat) (a2 : Nat) (a3 : Nat) (a4 : Nat) (a5 : Nat) (a6 : Nat) (a7 : Nat) (a8 : Nat) (x1 : Int32)  : Ct l yX9_hasClock cX9_hasClock 2 (some .boolean) { frames := 0, cells := 0, slots := 0, locals := 0 } D tc sk [.ref sh, .int x1] [(sh, .inr (9, [.int 0, .int 0, .int 0, .int 0, .int 0, .int 0, .ref a1, .ref a2, .ref a3, .ref a4, .ref a5, .ref a6, .ref a7, .ref a8]))] (fun (v : Option Value) (_ : Unit) => v = some (.int 0)) (fun (_ : Unit) => [(sh, .inr (9, [.int 0, .int 0, .int 0, .int 0, .int 0, .int 0, .ref a1, .ref a2, .ref a3, .ref a4, .ref a5, .ref a6, .ref a7, .ref a8]))]) 0 0 := by
  refine Ct.start (by decide) (Nat.le_of_ble_eq_true rfl) (fun p e s m below meth c A ls hx hb hr hlk hin hml hown hts hK hX hP hD hA hl hS => ?_)
  have hl : lv_has ls 2 [(0, .ref sh), (1, .int x1)] := hl
  refine lv_iload_n hx hb dX9_hasClock_0 rfl (lv_at hl 1 rfl) ?_
  refine lv_if_lt (tgt := 22) hx hb dX9_hasClock_1 (by decide) (fun c_1 => ?_) (fun c_1 => ?_)
  · skip
    refine lv_iconst (v := 0) hx hb dX9_hasClock_22 (by decide) ?_
    exact retI (v := 0) hx hb hr hlk (rfl) hP hD hS () rfl [0] rfl rfl dX9_hasClock_23 (Nat.le_of_ble_eq_true rfl) (Nat.le_of_ble_eq_true rfl) rfl
  · skip
    refine lv_iload_n hx hb dX9_hasClock_4 rfl (lv_at hl 1 rfl) ?_
    refine lv_aload_n hx hb dX9_hasClock_5 rfl (lv_at hl 0 rfl) ?_
    refine gf_X9_18 hx hb hts hown hK hP 0 rfl rfl dX9_hasClock_6 ?_
    refine lv_icmp_ge (tgt := 22) hx hb dX9_hasClock_9 (by decide) (fun c_2 => ?_) (fun c_2 => ?_)
    · skip
      refine lv_iconst (v := 0) hx hb dX9_hasClock_22 (by decide) ?_
      exact retI (v := 0) hx hb hr hlk (rfl) hP hD hS () rfl [0] rfl rfl dX9_hasClock_23 (Nat.le_of_ble_eq_true rfl) (Nat.le_of_ble_eq_true rfl) rfl
    · skip
      exfalso
      have z_1 := Int32.le_iff_toInt_le.mp (Int32.not_lt.mp c_1)
      have z_2 := Int32.lt_iff_toInt_lt.mp (Int32.not_le.mp c_2)
      have y_0 : (0 : Int32).toInt = 0 := by decide
      omega
set_option maxHeartbeats 4000000 in
set_option maxRecDepth 100000 in
theorem ct_X9_clockOn (l : Launch) (D : va_G) (tc : Nat → ClassId) (sk : (Nat → Nat) × (Nat → Nat)) (sh : Nat) (a1 : Nat) (a2 : Nat) (a3 : Nat) (a4 : Nat) (a5 : Nat) (a6 : Nat) (a7 : Nat) (a8 : Nat)  : Ct l yX9_clockOn cX9_clockOn 2 (some .int) { frames := 0, cells := 0, slots := 0, locals := 0 } D tc sk [.ref sh, .int 0] [(sh, .inr (9, [.int 0, .int 0, .int 0, .int 0, .int 0, .int 0, .ref a1, .ref a2, .ref a3, .ref a4, .ref a5, .ref a6, .ref a7, .ref a8]))] (fun (v : Option Value) (_ : Unit) => v = some (.int 0)) (fun (_ : Unit) => [(sh, .inr (9, [.int 0, .int 0, .int 0, .int 0, .int 0, .int 0, .ref a1, .ref a2, .ref a3, .ref a4, .ref a5, .ref a6, .ref a7, .ref a8]))]) 0 0 := by
  refine Ct.start (by decide) (Nat.le_of_ble_eq_true rfl) (fun p e s m below meth c A ls hx hb hr hlk hin hml hown hts hK hX hP hD hA hl hS => ?_)
  have hl : lv_has ls 2 [(0, .ref sh), (1, .int 0)] := hl
  refine lv_aload_n hx hb dX9_clockOn_0 rfl (lv_at hl 0 rfl) ?_
  refine gf_X9_18 hx hb hts hown hK hP 0 rfl rfl dX9_clockOn_1 ?_
  refine lv_if_le (tgt := 20) hx hb dX9_clockOn_4 (by decide) (fun c_1 => ?_) (fun c_1 => absurd c_1 (by decide))
  refine lv_iconst (v := 0) hx hb dX9_clockOn_20 (by decide) ?_
  exact retI (v := 0) hx hb hr hlk (rfl) hP hD hS () rfl [0] rfl rfl dX9_clockOn_21 (Nat.le_of_ble_eq_true rfl) (Nat.le_of_ble_eq_true rfl) rfl
set_option maxHeartbeats 4000000 in
set_option maxRecDepth 100000 in
theorem ct_X9_stillOn (l : Launch) (D : va_G) (tc : Nat → ClassId) (sk : (Nat → Nat) × (Nat → Nat)) (sh : Nat) (a1 : Nat) (a2 : Nat) (a3 : Nat) (a4 : Nat) (a5 : Nat) (a6 : Nat) (a7 : Nat) (a8 : Nat)  : Ct l yX9_stillOn cX9_stillOn 3 (some .int) { frames := 0, cells := 0, slots := 0, locals := 0 } D tc sk [.ref sh, .int 0] [(sh, .inr (9, [.int 0, .int 0, .int 0, .int 0, .int 0, .int 0, .ref a1, .ref a2, .ref a3, .ref a4, .ref a5, .ref a6, .ref a7, .ref a8]))] (fun (v : Option Value) (_ : Unit) => v = some (.int 0)) (fun (_ : Unit) => [(sh, .inr (9, [.int 0, .int 0, .int 0, .int 0, .int 0, .int 0, .ref a1, .ref a2, .ref a3, .ref a4, .ref a5, .ref a6, .ref a7, .ref a8]))]) 0 0 := by
  refine Ct.start (by decide) (Nat.le_of_ble_eq_true rfl) (fun p e s m below meth c A ls hx hb hr hlk hin hml hown hts hK hX hP hD hA hl hS => ?_)
  have hl : lv_has ls 3 [(0, .ref sh), (1, .int 0)] := hl
  refine lv_aload_n hx hb dX9_stillOn_0 rfl (lv_at hl 0 rfl) ?_
  refine gf_X9_18 hx hb hts hown hK hP 0 rfl rfl dX9_stillOn_1 ?_
  refine lv_if_le (tgt := 11) hx hb dX9_stillOn_4 (by decide) (fun c_1 => ?_) (fun c_1 => absurd c_1 (by decide))
  refine lv_iconst (v := 0) hx hb dX9_stillOn_11 (by decide) ?_
  exact retI (v := 0) hx hb hr hlk (rfl) hP hD hS () rfl [0] rfl rfl dX9_stillOn_12 (Nat.le_of_ble_eq_true rfl) (Nat.le_of_ble_eq_true rfl) rfl
set_option maxHeartbeats 4000000 in
set_option maxRecDepth 100000 in
theorem ct_X9_timesMet (l : Launch) (D : va_G) (tc : Nat → ClassId) (sk : (Nat → Nat) × (Nat → Nat)) (sh : Nat) (a1 : Nat) (a2 : Nat) (a3 : Nat) (a4 : Nat) (a5 : Nat) (a6 : Nat) (a7 : Nat) (a8 : Nat)  : Ct l yX9_timesMet cX9_timesMet 3 (some .int) { frames := 0, cells := 0, slots := 0, locals := 0 } D tc sk [.ref sh] [(sh, .inr (9, [.int 0, .int 0, .int 0, .int 0, .int 0, .int 0, .ref a1, .ref a2, .ref a3, .ref a4, .ref a5, .ref a6, .ref a7, .ref a8]))] (fun (v : Option Value) (_ : Unit) => v = some (.int 0)) (fun (_ : Unit) => [(sh, .inr (9, [.int 0, .int 0, .int 0, .int 0, .int 0, .int 0, .ref a1, .ref a2, .ref a3, .ref a4, .ref a5, .ref a6, .ref a7, .ref a8]))]) 0 0 := by
  refine Ct.start (by decide) (Nat.le_of_ble_eq_true rfl) (fun p e s m below meth c A ls hx hb hr hlk hin hml hown hts hK hX hP hD hA hl hS => ?_)
  have hl : lv_has ls 3 [(0, .ref sh)] := hl
  refine lv_iconst (v := 0) hx hb dX9_timesMet_0 (by decide) ?_
  refine lv_istore_n (lv' := [(1, .int 0), (0, .ref sh)]) hx hb dX9_timesMet_1 rfl hl (by decide) rfl (fun ls hl => ?_)
  refine lv_iconst (v := 0) hx hb dX9_timesMet_2 (by decide) ?_
  refine lv_istore_n (lv' := [(2, .int 0), (1, .int 0), (0, .ref sh)]) hx hb dX9_timesMet_3 rfl hl (by decide) rfl (fun ls hl => ?_)
  refine lv_iload_n hx hb dX9_timesMet_4 rfl (lv_at hl 0 rfl) ?_
  refine lv_aload_n hx hb dX9_timesMet_5 rfl (lv_at hl 2 rfl) ?_
  refine gf_X9_21 hx hb hts hown hK hP 0 rfl rfl dX9_timesMet_6 ?_
  refine lv_icmp_ge (tgt := 33) hx hb dX9_timesMet_9 (by decide) (fun c_1 => ?_) (fun c_1 => absurd c_1 (by decide))
  refine lv_iload_n hx hb dX9_timesMet_33 rfl (lv_at hl 1 rfl) ?_
  exact retI (v := 0) hx hb hr hlk (rfl) hP hD hS () rfl [0] rfl rfl dX9_timesMet_34 (Nat.le_of_ble_eq_true rfl) (Nat.le_of_ble_eq_true rfl) rfl
set_option maxHeartbeats 4000000 in
set_option maxRecDepth 100000 in
theorem ct_X9_whoCanBuy (l : Launch) (D : va_G) (tc : Nat → ClassId) (sk : (Nat → Nat) × (Nat → Nat)) (sh : Nat) (a1 : Nat) (a2 : Nat) (a3 : Nat) (a4 : Nat) (a5 : Nat) (a6 : Nat) (a7 : Nat) (a8 : Nat)  : Ct l yX9_whoCanBuy cX9_whoCanBuy 3 (some .int) { frames := 0, cells := 0, slots := 0, locals := 0 } D tc sk [.ref sh] [(sh, .inr (9, [.int 0, .int 0, .int 0, .int 0, .int 0, .int 0, .ref a1, .ref a2, .ref a3, .ref a4, .ref a5, .ref a6, .ref a7, .ref a8]))] (fun (v : Option Value) (_ : Unit) => v = some (.int 0)) (fun (_ : Unit) => [(sh, .inr (9, [.int 0, .int 0, .int 0, .int 0, .int 0, .int 0, .ref a1, .ref a2, .ref a3, .ref a4, .ref a5, .ref a6, .ref a7, .ref a8]))]) 0 0 := by
  refine Ct.start (by decide) (Nat.le_of_ble_eq_true rfl) (fun p e s m below meth c A ls hx hb hr hlk hin hml hown hts hK hX hP hD hA hl hS => ?_)
  have hl : lv_has ls 3 [(0, .ref sh)] := hl
  refine lv_iconst (v := 0) hx hb dX9_whoCanBuy_0 (by decide) ?_
  refine lv_istore_n (lv' := [(1, .int 0), (0, .ref sh)]) hx hb dX9_whoCanBuy_1 rfl hl (by decide) rfl (fun ls hl => ?_)
  refine lv_iconst (v := 0) hx hb dX9_whoCanBuy_2 (by decide) ?_
  refine lv_istore_n (lv' := [(2, .int 0), (1, .int 0), (0, .ref sh)]) hx hb dX9_whoCanBuy_3 rfl hl (by decide) rfl (fun ls hl => ?_)
  refine lv_iload_n hx hb dX9_whoCanBuy_4 rfl (lv_at hl 0 rfl) ?_
  refine lv_aload_n hx hb dX9_whoCanBuy_5 rfl (lv_at hl 2 rfl) ?_
  refine gf_X9_21 hx hb hts hown hK hP 0 rfl rfl dX9_whoCanBuy_6 ?_
  refine lv_icmp_ge (tgt := 38) hx hb dX9_whoCanBuy_9 (by decide) (fun c_1 => ?_) (fun c_1 => absurd c_1 (by decide))
  refine lv_iload_n hx hb dX9_whoCanBuy_38 rfl (lv_at hl 1 rfl) ?_
  exact retI (v := 0) hx hb hr hlk (rfl) hP hD hS () rfl [0] rfl rfl dX9_whoCanBuy_39 (Nat.le_of_ble_eq_true rfl) (Nat.le_of_ble_eq_true rfl) rfl
set_option maxHeartbeats 4000000 in
set_option maxRecDepth 100000 in
theorem ct_X11_isWithin (l : Launch) (D : va_G) (tc : Nat → ClassId) (sk : (Nat → Nat) × (Nat → Nat)) (x1 : Int32) (x2 : Int32) (x3 : Int32)  : Ct l yX11_isWithin cX11_isWithin 3 (some .boolean) { frames := 0, cells := 0, slots := 0, locals := 0 } D tc sk [.int x1, .int x2, .int x3] [] (fun (v : Option Value) (_ : Unit) => ∃ r : Int32, v = some (.int r) ∧ (r = 0 ∨ r = 1)) (fun (_ : Unit) => []) 0 0 := by
  refine Ct.start (by decide) (Nat.le_of_ble_eq_true rfl) (fun p e s m below meth c A ls hx hb hr hlk hin hml hown hts hK hX hP hD hA hl hS => ?_)
  have hl : lv_has ls 3 [(0, .int x1), (1, .int x2), (2, .int x3)] := hl
  refine lv_iload_n hx hb dX11_isWithin_0 rfl (lv_at hl 0 rfl) ?_
  refine lv_iload_n hx hb dX11_isWithin_1 rfl (lv_at hl 1 rfl) ?_
  refine lv_icmp_lt (tgt := 14) hx hb dX11_isWithin_2 (by decide) (fun c_1 => ?_) (fun c_1 => ?_)
  · skip
    refine lv_iconst (v := 0) hx hb dX11_isWithin_14 (by decide) ?_
    exact retI (v := 0) hx hb hr hlk (rfl) hP hD hS () ⟨_, rfl, Or.inl rfl⟩ [] rfl rfl dX11_isWithin_15 (Nat.le_of_ble_eq_true rfl) (Nat.le_of_ble_eq_true rfl) rfl
  · skip
    refine lv_iload_n hx hb dX11_isWithin_5 rfl (lv_at hl 0 rfl) ?_
    refine lv_iload_n hx hb dX11_isWithin_6 rfl (lv_at hl 2 rfl) ?_
    refine lv_icmp_gt (tgt := 14) hx hb dX11_isWithin_7 (by decide) (fun c_2 => ?_) (fun c_2 => ?_)
    · skip
      refine lv_iconst (v := 0) hx hb dX11_isWithin_14 (by decide) ?_
      exact retI (v := 0) hx hb hr hlk (rfl) hP hD hS () ⟨_, rfl, Or.inl rfl⟩ [] rfl rfl dX11_isWithin_15 (Nat.le_of_ble_eq_true rfl) (Nat.le_of_ble_eq_true rfl) rfl
    · skip
      refine lv_iconst (v := 1) hx hb dX11_isWithin_10 (by decide) ?_
      refine lv_goto (tgt := 15) hx hb dX11_isWithin_11 (by decide) ?_
      exact retI (v := 1) hx hb hr hlk (rfl) hP hD hS () ⟨_, rfl, Or.inr rfl⟩ [] rfl rfl dX11_isWithin_15 (Nat.le_of_ble_eq_true rfl) (Nat.le_of_ble_eq_true rfl) rfl
set_option maxHeartbeats 4000000 in
set_option maxRecDepth 100000 in
theorem ct_X5_giveBack (l : Launch) (D : va_G) (tc : Nat → ClassId) (sk : (Nat → Nat) × (Nat → Nat)) (h0 : Nat) (b1 : Nat) (sh : Nat)  : Ct l yX5_giveBack cX5_giveBack 4 (some .int) { frames := 0, cells := 0, slots := 0, locals := 0 } D tc sk [.ref h0, .ref sh] [(h0, .inr (5, [.ref b1, .int 0, .int 0]))] (fun (v : Option Value) (_ : Unit) => v = some (.int (-1))) (fun (_ : Unit) => []) 0 0 := by
  refine Ct.start (by decide) (Nat.le_of_ble_eq_true rfl) (fun p e s m below meth c A ls hx hb hr hlk hin hml hown hts hK hX hP hD hA hl hS => ?_)
  have hl : lv_has ls 4 [(0, .ref h0), (1, .ref sh)] := hl
  refine lv_aload_n hx hb dX5_giveBack_0 rfl (lv_at hl 0 rfl) ?_
  refine gf_X5_17 hx hb hts hown hK hP 0 rfl rfl dX5_giveBack_1 ?_
  refine lv_bipush (v := 20) hx hb dX5_giveBack_4 (by decide) ?_
  refine lv_iadd hx hb dX5_giveBack_6 ?_
  refine lv_lit (v := 20) (by decide) ?_
  refine lv_iconst (v := 1) hx hb dX5_giveBack_7 (by decide) ?_
  refine lv_isub hx hb dX5_giveBack_8 ?_
  refine lv_lit (v := 19) (by decide) ?_
  refine lv_bipush (v := 20) hx hb dX5_giveBack_9 (by decide) ?_
  refine lv_irem hx hb dX5_giveBack_11 (by decide) ?_
  refine lv_lit (v := 19) (by decide) ?_
  refine lv_istore_n (lv' := [(2, .int 19), (0, .ref h0), (1, .ref sh)]) hx hb dX5_giveBack_12 rfl hl (by decide) rfl (fun ls hl => ?_)
  refine lv_aload_n hx hb dX5_giveBack_13 rfl (lv_at hl 1 rfl) ?_
  refine gf_X5_21 hx hb hts hown hK hP 0 rfl rfl dX5_giveBack_14 ?_
  refine lv_if_le (tgt := 24) hx hb dX5_giveBack_17 (by decide) (fun c_1 => ?_) (fun c_1 => absurd c_1 (by decide))
  refine lv_iconst (v := (-1)) hx hb dX5_giveBack_24 (by decide) ?_
  exact retI (v := (-1)) hx hb hr hlk (rfl) hP hD hS () rfl [] rfl rfl dX5_giveBack_25 (Nat.le_of_ble_eq_true rfl) (Nat.le_of_ble_eq_true rfl) rfl
set_option maxHeartbeats 4000000 in
set_option maxRecDepth 100000 in
theorem ct_X11_buyer (l : Launch) (D : va_G) (tc : Nat → ClassId) (sk : (Nat → Nat) × (Nat → Nat)) (h0 : Nat) (ta : Nat) (br : Nat) (rr : Nat) (ru : Nat) (sc : Nat) (sh : Nat) (pa : Nat) (im : Nat) (ou : Nat) (ch : Nat) (iq : Nat) (a1 : Nat) (a2 : Nat) (a3 : Nat) (a4 : Nat) (a5 : Nat) (a6 : Nat) (a7 : Nat) (a8 : Nat) (x1 : Int32) (x2 : Int32)  : Ct l yX11_buyer cX11_buyer 3 (some .int) { frames := 1, cells := 0, slots := 0, locals := 21 } D tc sk [.ref h0, .int x1, .int x2] [(h0, .inr (11, [.ref ta, .ref br, .ref rr, .ref ru, .int 0, .ref sc, .ref sh, .ref pa, .ref im, .ref ou, .ref ch, .ref iq])), (sh, .inr (9, [.int 0, .int 0, .int 0, .int 0, .int 0, .int 0, .ref a1, .ref a2, .ref a3, .ref a4, .ref a5, .ref a6, .ref a7, .ref a8]))] (fun (v : Option Value) (_ : Unit) => v = some (.int (-1))) (fun (_ : Unit) => []) 0 0 := by
  refine Ct.start (by decide) (Nat.le_of_ble_eq_true rfl) (fun p e s m below meth c A ls hx hb hr hlk hin hml hown hts hK hX hP hD hA hl hS => ?_)
  have hl : lv_has ls 3 [(0, .ref h0), (1, .int x1), (2, .int x2)] := hl
  refine lv_aload_n hx hb dX11_buyer_0 rfl (lv_at hl 0 rfl) ?_
  refine gf_X11_51 hx hb hts hown hK hP 0 rfl rfl dX11_buyer_1 ?_
  refine lv_iload_n hx hb dX11_buyer_4 rfl (lv_at hl 1 rfl) ?_
  refine cV (a := sh) (As := [.int x1]) (rest := []) (wr := [(h0, .inr (11, [.ref ta, .ref br, .ref rr, .ref ru, .int 0, .ref sc, .ref sh, .ref pa, .ref im, .ref ou, .ref ch, .ref iq]))]) ⟨hx, hb, hml, hown, hts⟩ hK hX hA (ct_X9_hasBuyer l D tc sk sh a1 a2 a3 a4 a5 a6 a7 a8 x1) k_591 k_702 k_589 k_590 k_98 pl_X9_hasBuyer ⟨Nat.le_of_ble_eq_true rfl, Nat.le_of_ble_eq_true rfl⟩ rfl rfl (va_recv hK hP (ci := 9) (q0 := 1) rfl rfl) hP hD hS [1] [0] rfl rfl rfl rfl rfl (by decide) rfl hl.1 rfl (Nat.le_of_ble_eq_true rfl) dX11_buyer_5 ⟨Nat.le_of_ble_eq_true rfl, Nat.le_of_ble_eq_true rfl⟩ (fun v_1 u_2 H locs hv_3 hP hD hS => ?_)
  obtain rfl : v_1 = some (.int 0) := hv_3
  refine W.eq (g2 := F0 m 8 ls [.int 0]) rfl ?_
  have hP : va_P D classes [(h0, .inr (11, [.ref ta, .ref br, .ref rr, .ref ru, .int 0, .ref sc, .ref sh, .ref pa, .ref im, .ref ou, .ref ch, .ref iq])), (sh, .inr (9, [.int 0, .int 0, .int 0, .int 0, .int 0, .int 0, .ref a1, .ref a2, .ref a3, .ref a4, .ref a5, .ref a6, .ref a7, .ref a8]))] H := hP
  have hD : va_D A [(h0, .inr (11, [.ref ta, .ref br, .ref rr, .ref ru, .int 0, .ref sc, .ref sh, .ref pa, .ref im, .ref ou, .ref ch, .ref iq])), (sh, .inr (9, [.int 0, .int 0, .int 0, .int 0, .int 0, .int 0, .ref a1, .ref a2, .ref a3, .ref a4, .ref a5, .ref a6, .ref a7, .ref a8]))] := hD
  refine lv_if_ne (tgt := 13) hx hb dX11_buyer_8 (by decide) (fun c_4 => absurd c_4 (by decide)) (fun c_4 => ?_)
  refine lv_iconst (v := (-1)) hx hb dX11_buyer_11 (by decide) ?_
  exact retI (v := (-1)) hx hb hr hlk (rfl) hP hD hS () rfl [] rfl rfl dX11_buyer_12 (Nat.le_of_ble_eq_true rfl) (Nat.le_of_ble_eq_true rfl) rfl
set_option maxHeartbeats 4000000 in
set_option maxRecDepth 100000 in
theorem ct_X11_sky (l : Launch) (D : va_G) (tc : Nat → ClassId) (sk : (Nat → Nat) × (Nat → Nat)) (h0 : Nat) (ta : Nat) (br : Nat) (rr : Nat) (ru : Nat) (sc : Nat) (sh : Nat) (pa : Nat) (im : Nat) (ou : Nat) (ch : Nat) (iq : Nat) (a1 : Nat) (a2 : Nat) (a3 : Nat) (a4 : Nat) (a5 : Nat) (a6 : Nat) (a7 : Nat) (a8 : Nat) (x1 : Int32) (x2 : Int32)  : Ct l yX11_sky cX11_sky 3 (some .int) { frames := 1, cells := 0, slots := 0, locals := 21 } D tc sk [.ref h0, .int x1, .int x2] [(h0, .inr (11, [.ref ta, .ref br, .ref rr, .ref ru, .int 0, .ref sc, .ref sh, .ref pa, .ref im, .ref ou, .ref ch, .ref iq])), (sh, .inr (9, [.int 0, .int 0, .int 0, .int 0, .int 0, .int 0, .ref a1, .ref a2, .ref a3, .ref a4, .ref a5, .ref a6, .ref a7, .ref a8]))] (fun (v : Option Value) (_ : Unit) => v = some (.int (-1))) (fun (_ : Unit) => []) 0 0 := by
  refine Ct.start (by decide) (Nat.le_of_ble_eq_true rfl) (fun p e s m below meth c A ls hx hb hr hlk hin hml hown hts hK hX hP hD hA hl hS => ?_)
  have hl : lv_has ls 3 [(0, .ref h0), (1, .int x1), (2, .int x2)] := hl
  refine lv_aload_n hx hb dX11_sky_0 rfl (lv_at hl 0 rfl) ?_
  refine gf_X11_51 hx hb hts hown hK hP 0 rfl rfl dX11_sky_1 ?_
  refine lv_iload_n hx hb dX11_sky_4 rfl (lv_at hl 1 rfl) ?_
  refine cV (a := sh) (As := [.int x1]) (rest := []) (wr := [(h0, .inr (11, [.ref ta, .ref br, .ref rr, .ref ru, .int 0, .ref sc, .ref sh, .ref pa, .ref im, .ref ou, .ref ch, .ref iq]))]) ⟨hx, hb, hml, hown, hts⟩ hK hX hA (ct_X9_hasClock l D tc sk sh a1 a2 a3 a4 a5 a6 a7 a8 x1) k_579 k_713 k_577 k_578 k_98 pl_X9_hasClock ⟨Nat.le_of_ble_eq_true rfl, Nat.le_of_ble_eq_true rfl⟩ rfl rfl (va_recv hK hP (ci := 9) (q0 := 1) rfl rfl) hP hD hS [1] [0] rfl rfl rfl rfl rfl (by decide) rfl hl.1 rfl (Nat.le_of_ble_eq_true rfl) dX11_sky_5 ⟨Nat.le_of_ble_eq_true rfl, Nat.le_of_ble_eq_true rfl⟩ (fun v_1 u_2 H locs hv_3 hP hD hS => ?_)
  obtain rfl : v_1 = some (.int 0) := hv_3
  refine W.eq (g2 := F0 m 8 ls [.int 0]) rfl ?_
  have hP : va_P D classes [(h0, .inr (11, [.ref ta, .ref br, .ref rr, .ref ru, .int 0, .ref sc, .ref sh, .ref pa, .ref im, .ref ou, .ref ch, .ref iq])), (sh, .inr (9, [.int 0, .int 0, .int 0, .int 0, .int 0, .int 0, .ref a1, .ref a2, .ref a3, .ref a4, .ref a5, .ref a6, .ref a7, .ref a8]))] H := hP
  have hD : va_D A [(h0, .inr (11, [.ref ta, .ref br, .ref rr, .ref ru, .int 0, .ref sc, .ref sh, .ref pa, .ref im, .ref ou, .ref ch, .ref iq])), (sh, .inr (9, [.int 0, .int 0, .int 0, .int 0, .int 0, .int 0, .ref a1, .ref a2, .ref a3, .ref a4, .ref a5, .ref a6, .ref a7, .ref a8]))] := hD
  refine lv_if_eq (tgt := 20) hx hb dX11_sky_8 (by decide) (fun c_4 => ?_) (fun c_4 => absurd c_4 (by decide))
  refine lv_iconst (v := (-1)) hx hb dX11_sky_20 (by decide) ?_
  exact retI (v := (-1)) hx hb hr hlk (rfl) hP hD hS () rfl [] rfl rfl dX11_sky_21 (Nat.le_of_ble_eq_true rfl) (Nat.le_of_ble_eq_true rfl) rfl
set_option maxHeartbeats 4000000 in
set_option maxRecDepth 100000 in
theorem ct_X11_day (l : Launch) (D : va_G) (tc : Nat → ClassId) (sk : (Nat → Nat) × (Nat → Nat)) (h0 : Nat) (ta : Nat) (br : Nat) (rr : Nat) (ru : Nat) (sc : Nat) (sh : Nat) (pa : Nat) (im : Nat) (ou : Nat) (ch : Nat) (iq : Nat) (a1 : Nat) (a2 : Nat) (a3 : Nat) (a4 : Nat) (a5 : Nat) (a6 : Nat) (a7 : Nat) (a8 : Nat)  : Ct l yX11_day cX11_day 1 (some .int) { frames := 1, cells := 0, slots := 0, locals := 20 } D tc sk [.ref h0] [(h0, .inr (11, [.ref ta, .ref br, .ref rr, .ref ru, .int 0, .ref sc, .ref sh, .ref pa, .ref im, .ref ou, .ref ch, .ref iq])), (sh, .inr (9, [.int 0, .int 0, .int 0, .int 0, .int 0, .int 0, .ref a1, .ref a2, .ref a3, .ref a4, .ref a5, .ref a6, .ref a7, .ref a8]))] (fun (v : Option Value) (_ : Unit) => v = some (.int (-1))) (fun (_ : Unit) => []) 0 0 := by
  refine Ct.start (by decide) (Nat.le_of_ble_eq_true rfl) (fun p e s m below meth c A ls hx hb hr hlk hin hml hown hts hK hX hP hD hA hl hS => ?_)
  have hl : lv_has ls 1 [(0, .ref h0)] := hl
  refine lv_aload_n hx hb dX11_day_0 rfl (lv_at hl 0 rfl) ?_
  refine gf_X11_51 hx hb hts hown hK hP 0 rfl rfl dX11_day_1 ?_
  refine cV (a := sh) (As := []) (rest := []) (wr := [(h0, .inr (11, [.ref ta, .ref br, .ref rr, .ref ru, .int 0, .ref sc, .ref sh, .ref pa, .ref im, .ref ou, .ref ch, .ref iq]))]) ⟨hx, hb, hml, hown, hts⟩ hK hX hA (ct_X9_isTold l D tc sk sh a1 a2 a3 a4 a5 a6 a7 a8) k_724 k_721 k_722 k_723 k_98 pl_X9_isTold ⟨Nat.le_of_ble_eq_true rfl, Nat.le_of_ble_eq_true rfl⟩ rfl rfl (va_recv hK hP (ci := 9) (q0 := 1) rfl rfl) hP hD hS [1] [0] rfl rfl rfl rfl rfl (by decide) rfl hl.1 rfl (Nat.le_of_ble_eq_true rfl) dX11_day_4 ⟨Nat.le_of_ble_eq_true rfl, Nat.le_of_ble_eq_true rfl⟩ (fun v_1 u_2 H locs hv_3 hP hD hS => ?_)
  obtain rfl : v_1 = some (.int 0) := hv_3
  refine W.eq (g2 := F0 m 7 ls [.int 0]) rfl ?_
  have hP : va_P D classes [(h0, .inr (11, [.ref ta, .ref br, .ref rr, .ref ru, .int 0, .ref sc, .ref sh, .ref pa, .ref im, .ref ou, .ref ch, .ref iq])), (sh, .inr (9, [.int 0, .int 0, .int 0, .int 0, .int 0, .int 0, .ref a1, .ref a2, .ref a3, .ref a4, .ref a5, .ref a6, .ref a7, .ref a8]))] H := hP
  have hD : va_D A [(h0, .inr (11, [.ref ta, .ref br, .ref rr, .ref ru, .int 0, .ref sc, .ref sh, .ref pa, .ref im, .ref ou, .ref ch, .ref iq])), (sh, .inr (9, [.int 0, .int 0, .int 0, .int 0, .int 0, .int 0, .ref a1, .ref a2, .ref a3, .ref a4, .ref a5, .ref a6, .ref a7, .ref a8]))] := hD
  refine lv_if_eq (tgt := 23) hx hb dX11_day_7 (by decide) (fun c_4 => ?_) (fun c_4 => absurd c_4 (by decide))
  refine lv_iconst (v := (-1)) hx hb dX11_day_23 (by decide) ?_
  exact retI (v := (-1)) hx hb hr hlk (rfl) hP hD hS () rfl [] rfl rfl dX11_day_24 (Nat.le_of_ble_eq_true rfl) (Nat.le_of_ble_eq_true rfl) rfl
set_option maxHeartbeats 4000000 in
set_option maxRecDepth 100000 in
theorem ct_X11_sell (l : Launch) (D : va_G) (tc : Nat → ClassId) (sk : (Nat → Nat) × (Nat → Nat)) (h0 : Nat) (ta : Nat) (br : Nat) (rr : Nat) (ru : Nat) (sc : Nat) (sh : Nat) (pa : Nat) (im : Nat) (ou : Nat) (ch : Nat) (iq : Nat) (a1 : Nat) (a2 : Nat) (a3 : Nat) (a4 : Nat) (a5 : Nat) (a6 : Nat) (a7 : Nat) (a8 : Nat) (x1 : Int32)  : Ct l yX11_sell cX11_sell 2 (some .int) { frames := 1, cells := 0, slots := 0, locals := 21 } D tc sk [.ref h0, .int x1] [(h0, .inr (11, [.ref ta, .ref br, .ref rr, .ref ru, .int 0, .ref sc, .ref sh, .ref pa, .ref im, .ref ou, .ref ch, .ref iq])), (sh, .inr (9, [.int 0, .int 0, .int 0, .int 0, .int 0, .int 0, .ref a1, .ref a2, .ref a3, .ref a4, .ref a5, .ref a6, .ref a7, .ref a8]))] (fun (v : Option Value) (_ : Unit) => v = some (.int (-1))) (fun (_ : Unit) => []) 0 0 := by
  refine Ct.start (by decide) (Nat.le_of_ble_eq_true rfl) (fun p e s m below meth c A ls hx hb hr hlk hin hml hown hts hK hX hP hD hA hl hS => ?_)
  have hl : lv_has ls 2 [(0, .ref h0), (1, .int x1)] := hl
  refine lv_aload_n hx hb dX11_sell_0 rfl (lv_at hl 0 rfl) ?_
  refine gf_X11_51 hx hb hts hown hK hP 0 rfl rfl dX11_sell_1 ?_
  refine lv_iload_n hx hb dX11_sell_4 rfl (lv_at hl 1 rfl) ?_
  refine cV (a := sh) (As := [.int x1]) (rest := []) (wr := [(h0, .inr (11, [.ref ta, .ref br, .ref rr, .ref ru, .int 0, .ref sc, .ref sh, .ref pa, .ref im, .ref ou, .ref ch, .ref iq]))]) ⟨hx, hb, hml, hown, hts⟩ hK hX hA (ct_X9_hasBuyer l D tc sk sh a1 a2 a3 a4 a5 a6 a7 a8 x1) k_591 k_702 k_589 k_590 k_98 pl_X9_hasBuyer ⟨Nat.le_of_ble_eq_true rfl, Nat.le_of_ble_eq_true rfl⟩ rfl rfl (va_recv hK hP (ci := 9) (q0 := 1) rfl rfl) hP hD hS [1] [0] rfl rfl rfl rfl rfl (by decide) rfl hl.1 rfl (Nat.le_of_ble_eq_true rfl) dX11_sell_5 ⟨Nat.le_of_ble_eq_true rfl, Nat.le_of_ble_eq_true rfl⟩ (fun v_1 u_2 H locs hv_3 hP hD hS => ?_)
  obtain rfl : v_1 = some (.int 0) := hv_3
  refine W.eq (g2 := F0 m 8 ls [.int 0]) rfl ?_
  have hP : va_P D classes [(h0, .inr (11, [.ref ta, .ref br, .ref rr, .ref ru, .int 0, .ref sc, .ref sh, .ref pa, .ref im, .ref ou, .ref ch, .ref iq])), (sh, .inr (9, [.int 0, .int 0, .int 0, .int 0, .int 0, .int 0, .ref a1, .ref a2, .ref a3, .ref a4, .ref a5, .ref a6, .ref a7, .ref a8]))] H := hP
  have hD : va_D A [(h0, .inr (11, [.ref ta, .ref br, .ref rr, .ref ru, .int 0, .ref sc, .ref sh, .ref pa, .ref im, .ref ou, .ref ch, .ref iq])), (sh, .inr (9, [.int 0, .int 0, .int 0, .int 0, .int 0, .int 0, .ref a1, .ref a2, .ref a3, .ref a4, .ref a5, .ref a6, .ref a7, .ref a8]))] := hD
  refine lv_if_eq (tgt := 30) hx hb dX11_sell_8 (by decide) (fun c_4 => ?_) (fun c_4 => absurd c_4 (by decide))
  refine lv_iconst (v := (-1)) hx hb dX11_sell_30 (by decide) ?_
  exact retI (v := (-1)) hx hb hr hlk (rfl) hP hD hS () rfl [] rfl rfl dX11_sell_31 (Nat.le_of_ble_eq_true rfl) (Nat.le_of_ble_eq_true rfl) rfl
set_option maxHeartbeats 4000000 in
set_option maxRecDepth 100000 in
theorem ct_X11_calm (l : Launch) (D : va_G) (tc : Nat → ClassId) (sk : (Nat → Nat) × (Nat → Nat)) (h0 : Nat) (ta : Nat) (br : Nat) (rr : Nat) (ru : Nat) (sc : Nat) (sh : Nat) (pa : Nat) (im : Nat) (ou : Nat) (ch : Nat) (iq : Nat) (a1 : Nat) (a2 : Nat) (a3 : Nat) (a4 : Nat) (a5 : Nat) (a6 : Nat) (a7 : Nat) (a8 : Nat) (x1 : Int32) (x2 : Int32)  : Ct l yX11_calm cX11_calm 3 (some .int) { frames := 1, cells := 0, slots := 0, locals := 21 } D tc sk [.ref h0, .int x1, .int x2] [(h0, .inr (11, [.ref ta, .ref br, .ref rr, .ref ru, .int 0, .ref sc, .ref sh, .ref pa, .ref im, .ref ou, .ref ch, .ref iq])), (sh, .inr (9, [.int 0, .int 0, .int 0, .int 0, .int 0, .int 0, .ref a1, .ref a2, .ref a3, .ref a4, .ref a5, .ref a6, .ref a7, .ref a8]))] (fun (v : Option Value) (_ : Unit) => v = some (.int (-1))) (fun (_ : Unit) => []) 0 0 := by
  refine Ct.start (by decide) (Nat.le_of_ble_eq_true rfl) (fun p e s m below meth c A ls hx hb hr hlk hin hml hown hts hK hX hP hD hA hl hS => ?_)
  have hl : lv_has ls 3 [(0, .ref h0), (1, .int x1), (2, .int x2)] := hl
  refine lv_aload_n hx hb dX11_calm_0 rfl (lv_at hl 0 rfl) ?_
  refine gf_X11_51 hx hb hts hown hK hP 0 rfl rfl dX11_calm_1 ?_
  refine lv_iload_n hx hb dX11_calm_4 rfl (lv_at hl 1 rfl) ?_
  refine cV (a := sh) (As := [.int x1]) (rest := []) (wr := [(h0, .inr (11, [.ref ta, .ref br, .ref rr, .ref ru, .int 0, .ref sc, .ref sh, .ref pa, .ref im, .ref ou, .ref ch, .ref iq]))]) ⟨hx, hb, hml, hown, hts⟩ hK hX hA (ct_X9_hasBuyer l D tc sk sh a1 a2 a3 a4 a5 a6 a7 a8 x1) k_591 k_702 k_589 k_590 k_98 pl_X9_hasBuyer ⟨Nat.le_of_ble_eq_true rfl, Nat.le_of_ble_eq_true rfl⟩ rfl rfl (va_recv hK hP (ci := 9) (q0 := 1) rfl rfl) hP hD hS [1] [0] rfl rfl rfl rfl rfl (by decide) rfl hl.1 rfl (Nat.le_of_ble_eq_true rfl) dX11_calm_5 ⟨Nat.le_of_ble_eq_true rfl, Nat.le_of_ble_eq_true rfl⟩ (fun v_1 u_2 H locs hv_3 hP hD hS => ?_)
  obtain rfl : v_1 = some (.int 0) := hv_3
  refine W.eq (g2 := F0 m 8 ls [.int 0]) rfl ?_
  have hP : va_P D classes [(h0, .inr (11, [.ref ta, .ref br, .ref rr, .ref ru, .int 0, .ref sc, .ref sh, .ref pa, .ref im, .ref ou, .ref ch, .ref iq])), (sh, .inr (9, [.int 0, .int 0, .int 0, .int 0, .int 0, .int 0, .ref a1, .ref a2, .ref a3, .ref a4, .ref a5, .ref a6, .ref a7, .ref a8]))] H := hP
  have hD : va_D A [(h0, .inr (11, [.ref ta, .ref br, .ref rr, .ref ru, .int 0, .ref sc, .ref sh, .ref pa, .ref im, .ref ou, .ref ch, .ref iq])), (sh, .inr (9, [.int 0, .int 0, .int 0, .int 0, .int 0, .int 0, .ref a1, .ref a2, .ref a3, .ref a4, .ref a5, .ref a6, .ref a7, .ref a8]))] := hD
  refine lv_if_eq (tgt := 34) hx hb dX11_calm_8 (by decide) (fun c_4 => ?_) (fun c_4 => absurd c_4 (by decide))
  refine lv_iconst (v := (-1)) hx hb dX11_calm_34 (by decide) ?_
  exact retI (v := (-1)) hx hb hr hlk (rfl) hP hD hS () rfl [] rfl rfl dX11_calm_35 (Nat.le_of_ble_eq_true rfl) (Nat.le_of_ble_eq_true rfl) rfl
set_option maxHeartbeats 4000000 in
set_option maxRecDepth 100000 in
theorem ct_X11_watch (l : Launch) (D : va_G) (tc : Nat → ClassId) (sk : (Nat → Nat) × (Nat → Nat)) (h0 : Nat) (ta : Nat) (br : Nat) (rr : Nat) (ru : Nat) (sc : Nat) (sh : Nat) (pa : Nat) (im : Nat) (ou : Nat) (ch : Nat) (iq : Nat) (a1 : Nat) (a2 : Nat) (a3 : Nat) (a4 : Nat) (a5 : Nat) (a6 : Nat) (a7 : Nat) (a8 : Nat) (x1 : Int32) (x2 : Int32)  : Ct l yX11_watch cX11_watch 3 (some .int) { frames := 1, cells := 0, slots := 0, locals := 21 } D tc sk [.ref h0, .int x1, .int x2] [(h0, .inr (11, [.ref ta, .ref br, .ref rr, .ref ru, .int 0, .ref sc, .ref sh, .ref pa, .ref im, .ref ou, .ref ch, .ref iq])), (sh, .inr (9, [.int 0, .int 0, .int 0, .int 0, .int 0, .int 0, .ref a1, .ref a2, .ref a3, .ref a4, .ref a5, .ref a6, .ref a7, .ref a8]))] (fun (v : Option Value) (_ : Unit) => v = some (.int (-1))) (fun (_ : Unit) => []) 0 0 := by
  refine Ct.start (by decide) (Nat.le_of_ble_eq_true rfl) (fun p e s m below meth c A ls hx hb hr hlk hin hml hown hts hK hX hP hD hA hl hS => ?_)
  have hl : lv_has ls 3 [(0, .ref h0), (1, .int x1), (2, .int x2)] := hl
  refine lv_aload_n hx hb dX11_watch_0 rfl (lv_at hl 0 rfl) ?_
  refine gf_X11_51 hx hb hts hown hK hP 0 rfl rfl dX11_watch_1 ?_
  refine lv_iload_n hx hb dX11_watch_4 rfl (lv_at hl 1 rfl) ?_
  refine cV (a := sh) (As := [.int x1]) (rest := []) (wr := [(h0, .inr (11, [.ref ta, .ref br, .ref rr, .ref ru, .int 0, .ref sc, .ref sh, .ref pa, .ref im, .ref ou, .ref ch, .ref iq]))]) ⟨hx, hb, hml, hown, hts⟩ hK hX hA (ct_X9_hasClock l D tc sk sh a1 a2 a3 a4 a5 a6 a7 a8 x1) k_579 k_713 k_577 k_578 k_98 pl_X9_hasClock ⟨Nat.le_of_ble_eq_true rfl, Nat.le_of_ble_eq_true rfl⟩ rfl rfl (va_recv hK hP (ci := 9) (q0 := 1) rfl rfl) hP hD hS [1] [0] rfl rfl rfl rfl rfl (by decide) rfl hl.1 rfl (Nat.le_of_ble_eq_true rfl) dX11_watch_5 ⟨Nat.le_of_ble_eq_true rfl, Nat.le_of_ble_eq_true rfl⟩ (fun v_1 u_2 H locs hv_3 hP hD hS => ?_)
  obtain rfl : v_1 = some (.int 0) := hv_3
  refine W.eq (g2 := F0 m 8 ls [.int 0]) rfl ?_
  have hP : va_P D classes [(h0, .inr (11, [.ref ta, .ref br, .ref rr, .ref ru, .int 0, .ref sc, .ref sh, .ref pa, .ref im, .ref ou, .ref ch, .ref iq])), (sh, .inr (9, [.int 0, .int 0, .int 0, .int 0, .int 0, .int 0, .ref a1, .ref a2, .ref a3, .ref a4, .ref a5, .ref a6, .ref a7, .ref a8]))] H := hP
  have hD : va_D A [(h0, .inr (11, [.ref ta, .ref br, .ref rr, .ref ru, .int 0, .ref sc, .ref sh, .ref pa, .ref im, .ref ou, .ref ch, .ref iq])), (sh, .inr (9, [.int 0, .int 0, .int 0, .int 0, .int 0, .int 0, .ref a1, .ref a2, .ref a3, .ref a4, .ref a5, .ref a6, .ref a7, .ref a8]))] := hD
  refine lv_if_eq (tgt := 22) hx hb dX11_watch_8 (by decide) (fun c_4 => ?_) (fun c_4 => absurd c_4 (by decide))
  refine lv_iconst (v := (-1)) hx hb dX11_watch_22 (by decide) ?_
  exact retI (v := (-1)) hx hb hr hlk (rfl) hP hD hS () rfl [] rfl rfl dX11_watch_23 (Nat.le_of_ble_eq_true rfl) (Nat.le_of_ble_eq_true rfl) rfl
set_option maxHeartbeats 4000000 in
set_option maxRecDepth 100000 in
theorem ct_X11_change (l : Launch) (D : va_G) (tc : Nat → ClassId) (sk : (Nat → Nat) × (Nat → Nat)) (h0 : Nat) (ta : Nat) (br : Nat) (rr : Nat) (ru : Nat) (sc : Nat) (sh : Nat) (pa : Nat) (im : Nat) (ou : Nat) (ch : Nat) (iq : Nat) (a1 : Nat) (a2 : Nat) (a3 : Nat) (a4 : Nat) (a5 : Nat) (a6 : Nat) (a7 : Nat) (a8 : Nat) (x1 : Int32) (x2 : Int32)  : Ct l yX11_change cX11_change 4 (some .int) { frames := 1, cells := 0, slots := 0, locals := 21 } D tc sk [.ref h0, .int x1, .int x2] [(h0, .inr (11, [.ref ta, .ref br, .ref rr, .ref ru, .int 0, .ref sc, .ref sh, .ref pa, .ref im, .ref ou, .ref ch, .ref iq])), (sh, .inr (9, [.int 0, .int 0, .int 0, .int 0, .int 0, .int 0, .ref a1, .ref a2, .ref a3, .ref a4, .ref a5, .ref a6, .ref a7, .ref a8]))] (fun (v : Option Value) (_ : Unit) => v = some (.int (-1))) (fun (_ : Unit) => []) 0 0 := by
  refine Ct.start (by decide) (Nat.le_of_ble_eq_true rfl) (fun p e s m below meth c A ls hx hb hr hlk hin hml hown hts hK hX hP hD hA hl hS => ?_)
  have hl : lv_has ls 4 [(0, .ref h0), (1, .int x1), (2, .int x2)] := hl
  refine lv_aload_n hx hb dX11_change_0 rfl (lv_at hl 0 rfl) ?_
  refine gf_X11_51 hx hb hts hown hK hP 0 rfl rfl dX11_change_1 ?_
  refine lv_iload_n hx hb dX11_change_4 rfl (lv_at hl 1 rfl) ?_
  refine cV (a := sh) (As := [.int x1]) (rest := []) (wr := [(h0, .inr (11, [.ref ta, .ref br, .ref rr, .ref ru, .int 0, .ref sc, .ref sh, .ref pa, .ref im, .ref ou, .ref ch, .ref iq]))]) ⟨hx, hb, hml, hown, hts⟩ hK hX hA (ct_X9_hasClock l D tc sk sh a1 a2 a3 a4 a5 a6 a7 a8 x1) k_579 k_713 k_577 k_578 k_98 pl_X9_hasClock ⟨Nat.le_of_ble_eq_true rfl, Nat.le_of_ble_eq_true rfl⟩ rfl rfl (va_recv hK hP (ci := 9) (q0 := 1) rfl rfl) hP hD hS [1] [0] rfl rfl rfl rfl rfl (by decide) rfl hl.1 rfl (Nat.le_of_ble_eq_true rfl) dX11_change_5 ⟨Nat.le_of_ble_eq_true rfl, Nat.le_of_ble_eq_true rfl⟩ (fun v_1 u_2 H locs hv_3 hP hD hS => ?_)
  obtain rfl : v_1 = some (.int 0) := hv_3
  refine W.eq (g2 := F0 m 8 ls [.int 0]) rfl ?_
  have hP : va_P D classes [(h0, .inr (11, [.ref ta, .ref br, .ref rr, .ref ru, .int 0, .ref sc, .ref sh, .ref pa, .ref im, .ref ou, .ref ch, .ref iq])), (sh, .inr (9, [.int 0, .int 0, .int 0, .int 0, .int 0, .int 0, .ref a1, .ref a2, .ref a3, .ref a4, .ref a5, .ref a6, .ref a7, .ref a8]))] H := hP
  have hD : va_D A [(h0, .inr (11, [.ref ta, .ref br, .ref rr, .ref ru, .int 0, .ref sc, .ref sh, .ref pa, .ref im, .ref ou, .ref ch, .ref iq])), (sh, .inr (9, [.int 0, .int 0, .int 0, .int 0, .int 0, .int 0, .ref a1, .ref a2, .ref a3, .ref a4, .ref a5, .ref a6, .ref a7, .ref a8]))] := hD
  refine lv_if_eq (tgt := 34) hx hb dX11_change_8 (by decide) (fun c_4 => ?_) (fun c_4 => absurd c_4 (by decide))
  refine lv_iconst (v := (-1)) hx hb dX11_change_34 (by decide) ?_
  exact retI (v := (-1)) hx hb hr hlk (rfl) hP hD hS () rfl [] rfl rfl dX11_change_35 (Nat.le_of_ble_eq_true rfl) (Nat.le_of_ble_eq_true rfl) rfl
set_option maxHeartbeats 4000000 in
set_option maxRecDepth 100000 in
theorem ct_X11_ahead (l : Launch) (D : va_G) (tc : Nat → ClassId) (sk : (Nat → Nat) × (Nat → Nat)) (h0 : Nat) (ta : Nat) (br : Nat) (rr : Nat) (ru : Nat) (sc : Nat) (sh : Nat) (pa : Nat) (im : Nat) (ou : Nat) (ch : Nat) (iq : Nat) (a1 : Nat) (a2 : Nat) (a3 : Nat) (a4 : Nat) (a5 : Nat) (a6 : Nat) (a7 : Nat) (a8 : Nat) (x1 : Int32) (x2 : Int32) (x3 : Int32)  : Ct l yX11_ahead cX11_ahead 4 (some .int) { frames := 1, cells := 0, slots := 0, locals := 20 } D tc sk [.ref h0, .int x1, .int x2, .int x3] [(h0, .inr (11, [.ref ta, .ref br, .ref rr, .ref ru, .int 0, .ref sc, .ref sh, .ref pa, .ref im, .ref ou, .ref ch, .ref iq])), (sh, .inr (9, [.int 0, .int 0, .int 0, .int 0, .int 0, .int 0, .ref a1, .ref a2, .ref a3, .ref a4, .ref a5, .ref a6, .ref a7, .ref a8]))] (fun (v : Option Value) (_ : Unit) => v = some (.int (-1))) (fun (_ : Unit) => []) 0 0 := by
  refine Ct.start (by decide) (Nat.le_of_ble_eq_true rfl) (fun p e s m below meth c A ls hx hb hr hlk hin hml hown hts hK hX hP hD hA hl hS => ?_)
  have hl : lv_has ls 4 [(0, .ref h0), (1, .int x1), (2, .int x2), (3, .int x3)] := hl
  refine lv_aload_n hx hb dX11_ahead_0 rfl (lv_at hl 0 rfl) ?_
  refine gf_X11_51 hx hb hts hown hK hP 0 rfl rfl dX11_ahead_1 ?_
  refine cV (a := sh) (As := []) (rest := []) (wr := [(h0, .inr (11, [.ref ta, .ref br, .ref rr, .ref ru, .int 0, .ref sc, .ref sh, .ref pa, .ref im, .ref ou, .ref ch, .ref iq]))]) ⟨hx, hb, hml, hown, hts⟩ hK hX hA (ct_X9_isTold l D tc sk sh a1 a2 a3 a4 a5 a6 a7 a8) k_724 k_721 k_722 k_723 k_98 pl_X9_isTold ⟨Nat.le_of_ble_eq_true rfl, Nat.le_of_ble_eq_true rfl⟩ rfl rfl (va_recv hK hP (ci := 9) (q0 := 1) rfl rfl) hP hD hS [1] [0] rfl rfl rfl rfl rfl (by decide) rfl hl.1 rfl (Nat.le_of_ble_eq_true rfl) dX11_ahead_4 ⟨Nat.le_of_ble_eq_true rfl, Nat.le_of_ble_eq_true rfl⟩ (fun v_1 u_2 H locs hv_3 hP hD hS => ?_)
  obtain rfl : v_1 = some (.int 0) := hv_3
  refine W.eq (g2 := F0 m 7 ls [.int 0]) rfl ?_
  have hP : va_P D classes [(h0, .inr (11, [.ref ta, .ref br, .ref rr, .ref ru, .int 0, .ref sc, .ref sh, .ref pa, .ref im, .ref ou, .ref ch, .ref iq])), (sh, .inr (9, [.int 0, .int 0, .int 0, .int 0, .int 0, .int 0, .ref a1, .ref a2, .ref a3, .ref a4, .ref a5, .ref a6, .ref a7, .ref a8]))] H := hP
  have hD : va_D A [(h0, .inr (11, [.ref ta, .ref br, .ref rr, .ref ru, .int 0, .ref sc, .ref sh, .ref pa, .ref im, .ref ou, .ref ch, .ref iq])), (sh, .inr (9, [.int 0, .int 0, .int 0, .int 0, .int 0, .int 0, .ref a1, .ref a2, .ref a3, .ref a4, .ref a5, .ref a6, .ref a7, .ref a8]))] := hD
  refine lv_if_eq (tgt := 29) hx hb dX11_ahead_7 (by decide) (fun c_4 => ?_) (fun c_4 => absurd c_4 (by decide))
  refine lv_iconst (v := (-1)) hx hb dX11_ahead_29 (by decide) ?_
  exact retI (v := (-1)) hx hb hr hlk (rfl) hP hD hS () rfl [] rfl rfl dX11_ahead_30 (Nat.le_of_ble_eq_true rfl) (Nat.le_of_ble_eq_true rfl) rfl
set_option maxHeartbeats 4000000 in
set_option maxRecDepth 100000 in
theorem ct_X11_buys (l : Launch) (D : va_G) (tc : Nat → ClassId) (sk : (Nat → Nat) × (Nat → Nat)) (h0 : Nat) (ta : Nat) (br : Nat) (rr : Nat) (ru : Nat) (sc : Nat) (sh : Nat) (pa : Nat) (im : Nat) (ou : Nat) (ch : Nat) (iq : Nat) (a1 : Nat) (a2 : Nat) (a3 : Nat) (a4 : Nat) (a5 : Nat) (a6 : Nat) (a7 : Nat) (a8 : Nat) (x1 : Int32)  : Ct l yX11_buys cX11_buys 2 (some .int) { frames := 1, cells := 0, slots := 0, locals := 21 } D tc sk [.ref h0, .int x1] [(h0, .inr (11, [.ref ta, .ref br, .ref rr, .ref ru, .int 0, .ref sc, .ref sh, .ref pa, .ref im, .ref ou, .ref ch, .ref iq])), (sh, .inr (9, [.int 0, .int 0, .int 0, .int 0, .int 0, .int 0, .ref a1, .ref a2, .ref a3, .ref a4, .ref a5, .ref a6, .ref a7, .ref a8]))] (fun (v : Option Value) (_ : Unit) => v = some (.int (-1))) (fun (_ : Unit) => []) 0 0 := by
  refine Ct.start (by decide) (Nat.le_of_ble_eq_true rfl) (fun p e s m below meth c A ls hx hb hr hlk hin hml hown hts hK hX hP hD hA hl hS => ?_)
  have hl : lv_has ls 2 [(0, .ref h0), (1, .int x1)] := hl
  refine lv_aload_n hx hb dX11_buys_0 rfl (lv_at hl 0 rfl) ?_
  refine gf_X11_51 hx hb hts hown hK hP 0 rfl rfl dX11_buys_1 ?_
  refine lv_iload_n hx hb dX11_buys_4 rfl (lv_at hl 1 rfl) ?_
  refine cV (a := sh) (As := [.int x1]) (rest := []) (wr := [(h0, .inr (11, [.ref ta, .ref br, .ref rr, .ref ru, .int 0, .ref sc, .ref sh, .ref pa, .ref im, .ref ou, .ref ch, .ref iq]))]) ⟨hx, hb, hml, hown, hts⟩ hK hX hA (ct_X9_hasBuyer l D tc sk sh a1 a2 a3 a4 a5 a6 a7 a8 x1) k_591 k_702 k_589 k_590 k_98 pl_X9_hasBuyer ⟨Nat.le_of_ble_eq_true rfl, Nat.le_of_ble_eq_true rfl⟩ rfl rfl (va_recv hK hP (ci := 9) (q0 := 1) rfl rfl) hP hD hS [1] [0] rfl rfl rfl rfl rfl (by decide) rfl hl.1 rfl (Nat.le_of_ble_eq_true rfl) dX11_buys_5 ⟨Nat.le_of_ble_eq_true rfl, Nat.le_of_ble_eq_true rfl⟩ (fun v_1 u_2 H locs hv_3 hP hD hS => ?_)
  obtain rfl : v_1 = some (.int 0) := hv_3
  refine W.eq (g2 := F0 m 8 ls [.int 0]) rfl ?_
  have hP : va_P D classes [(h0, .inr (11, [.ref ta, .ref br, .ref rr, .ref ru, .int 0, .ref sc, .ref sh, .ref pa, .ref im, .ref ou, .ref ch, .ref iq])), (sh, .inr (9, [.int 0, .int 0, .int 0, .int 0, .int 0, .int 0, .ref a1, .ref a2, .ref a3, .ref a4, .ref a5, .ref a6, .ref a7, .ref a8]))] H := hP
  have hD : va_D A [(h0, .inr (11, [.ref ta, .ref br, .ref rr, .ref ru, .int 0, .ref sc, .ref sh, .ref pa, .ref im, .ref ou, .ref ch, .ref iq])), (sh, .inr (9, [.int 0, .int 0, .int 0, .int 0, .int 0, .int 0, .ref a1, .ref a2, .ref a3, .ref a4, .ref a5, .ref a6, .ref a7, .ref a8]))] := hD
  refine lv_if_eq (tgt := 30) hx hb dX11_buys_8 (by decide) (fun c_4 => ?_) (fun c_4 => absurd c_4 (by decide))
  refine lv_iconst (v := (-1)) hx hb dX11_buys_30 (by decide) ?_
  exact retI (v := (-1)) hx hb hr hlk (rfl) hP hD hS () rfl [] rfl rfl dX11_buys_31 (Nat.le_of_ble_eq_true rfl) (Nat.le_of_ble_eq_true rfl) rfl
set_option maxHeartbeats 4000000 in
set_option maxRecDepth 100000 in
theorem ct_X11_empty (l : Launch) (D : va_G) (tc : Nat → ClassId) (sk : (Nat → Nat) × (Nat → Nat)) (h0 : Nat) (ta : Nat) (br : Nat) (rr : Nat) (ru : Nat) (sc : Nat) (sh : Nat) (pa : Nat) (im : Nat) (ou : Nat) (ch : Nat) (iq : Nat) (a1 : Nat) (a2 : Nat) (a3 : Nat) (a4 : Nat) (a5 : Nat) (a6 : Nat) (a7 : Nat) (a8 : Nat)  : Ct l yX11_empty cX11_empty 1 (some .int) { frames := 1, cells := 0, slots := 0, locals := 20 } D tc sk [.ref h0] [(h0, .inr (11, [.ref ta, .ref br, .ref rr, .ref ru, .int 0, .ref sc, .ref sh, .ref pa, .ref im, .ref ou, .ref ch, .ref iq])), (sh, .inr (9, [.int 0, .int 0, .int 0, .int 0, .int 0, .int 0, .ref a1, .ref a2, .ref a3, .ref a4, .ref a5, .ref a6, .ref a7, .ref a8]))] (fun (v : Option Value) (_ : Unit) => v = some (.int (-1))) (fun (_ : Unit) => []) 0 0 := by
  refine Ct.start (by decide) (Nat.le_of_ble_eq_true rfl) (fun p e s m below meth c A ls hx hb hr hlk hin hml hown hts hK hX hP hD hA hl hS => ?_)
  have hl : lv_has ls 1 [(0, .ref h0)] := hl
  refine lv_aload_n hx hb dX11_empty_0 rfl (lv_at hl 0 rfl) ?_
  refine gf_X11_51 hx hb hts hown hK hP 0 rfl rfl dX11_empty_1 ?_
  refine cV (a := sh) (As := []) (rest := []) (wr := [(h0, .inr (11, [.ref ta, .ref br, .ref rr, .ref ru, .int 0, .ref sc, .ref sh, .ref pa, .ref im, .ref ou, .ref ch, .ref iq]))]) ⟨hx, hb, hml, hown, hts⟩ hK hX hA (ct_X9_isTold l D tc sk sh a1 a2 a3 a4 a5 a6 a7 a8) k_724 k_721 k_722 k_723 k_98 pl_X9_isTold ⟨Nat.le_of_ble_eq_true rfl, Nat.le_of_ble_eq_true rfl⟩ rfl rfl (va_recv hK hP (ci := 9) (q0 := 1) rfl rfl) hP hD hS [1] [0] rfl rfl rfl rfl rfl (by decide) rfl hl.1 rfl (Nat.le_of_ble_eq_true rfl) dX11_empty_4 ⟨Nat.le_of_ble_eq_true rfl, Nat.le_of_ble_eq_true rfl⟩ (fun v_1 u_2 H locs hv_3 hP hD hS => ?_)
  obtain rfl : v_1 = some (.int 0) := hv_3
  refine W.eq (g2 := F0 m 7 ls [.int 0]) rfl ?_
  have hP : va_P D classes [(h0, .inr (11, [.ref ta, .ref br, .ref rr, .ref ru, .int 0, .ref sc, .ref sh, .ref pa, .ref im, .ref ou, .ref ch, .ref iq])), (sh, .inr (9, [.int 0, .int 0, .int 0, .int 0, .int 0, .int 0, .ref a1, .ref a2, .ref a3, .ref a4, .ref a5, .ref a6, .ref a7, .ref a8]))] H := hP
  have hD : va_D A [(h0, .inr (11, [.ref ta, .ref br, .ref rr, .ref ru, .int 0, .ref sc, .ref sh, .ref pa, .ref im, .ref ou, .ref ch, .ref iq])), (sh, .inr (9, [.int 0, .int 0, .int 0, .int 0, .int 0, .int 0, .ref a1, .ref a2, .ref a3, .ref a4, .ref a5, .ref a6, .ref a7, .ref a8]))] := hD
  refine lv_if_eq (tgt := 28) hx hb dX11_empty_7 (by decide) (fun c_4 => ?_) (fun c_4 => absurd c_4 (by decide))
  refine lv_iconst (v := (-1)) hx hb dX11_empty_28 (by decide) ?_
  exact retI (v := (-1)) hx hb hr hlk (rfl) hP hD hS () rfl [] rfl rfl dX11_empty_29 (Nat.le_of_ble_eq_true rfl) (Nat.le_of_ble_eq_true rfl) rfl
set_option maxHeartbeats 4000000 in
set_option maxRecDepth 100000 in
theorem ct_X11_tells (l : Launch) (D : va_G) (tc : Nat → ClassId) (sk : (Nat → Nat) × (Nat → Nat)) (h0 : Nat) (ta : Nat) (br : Nat) (rr : Nat) (ru : Nat) (sc : Nat) (sh : Nat) (pa : Nat) (im : Nat) (ou : Nat) (ch : Nat) (iq : Nat) (a1 : Nat) (a2 : Nat) (a3 : Nat) (a4 : Nat) (a5 : Nat) (a6 : Nat) (a7 : Nat) (a8 : Nat) (x1 : Int32) (x2 : Int32)  : Ct l yX11_tells cX11_tells 3 (some .int) { frames := 1, cells := 0, slots := 0, locals := 20 } D tc sk [.ref h0, .int x1, .int x2] [(h0, .inr (11, [.ref ta, .ref br, .ref rr, .ref ru, .int 0, .ref sc, .ref sh, .ref pa, .ref im, .ref ou, .ref ch, .ref iq])), (sh, .inr (9, [.int 0, .int 0, .int 0, .int 0, .int 0, .int 0, .ref a1, .ref a2, .ref a3, .ref a4, .ref a5, .ref a6, .ref a7, .ref a8]))] (fun (v : Option Value) (_ : Unit) => v = some (.int (-1))) (fun (_ : Unit) => []) 0 0 := by
  refine Ct.start (by decide) (Nat.le_of_ble_eq_true rfl) (fun p e s m below meth c A ls hx hb hr hlk hin hml hown hts hK hX hP hD hA hl hS => ?_)
  have hl : lv_has ls 3 [(0, .ref h0), (1, .int x1), (2, .int x2)] := hl
  refine lv_aload_n hx hb dX11_tells_0 rfl (lv_at hl 0 rfl) ?_
  refine gf_X11_51 hx hb hts hown hK hP 0 rfl rfl dX11_tells_1 ?_
  refine cV (a := sh) (As := []) (rest := []) (wr := [(h0, .inr (11, [.ref ta, .ref br, .ref rr, .ref ru, .int 0, .ref sc, .ref sh, .ref pa, .ref im, .ref ou, .ref ch, .ref iq]))]) ⟨hx, hb, hml, hown, hts⟩ hK hX hA (ct_X9_isTold l D tc sk sh a1 a2 a3 a4 a5 a6 a7 a8) k_724 k_721 k_722 k_723 k_98 pl_X9_isTold ⟨Nat.le_of_ble_eq_true rfl, Nat.le_of_ble_eq_true rfl⟩ rfl rfl (va_recv hK hP (ci := 9) (q0 := 1) rfl rfl) hP hD hS [1] [0] rfl rfl rfl rfl rfl (by decide) rfl hl.1 rfl (Nat.le_of_ble_eq_true rfl) dX11_tells_4 ⟨Nat.le_of_ble_eq_true rfl, Nat.le_of_ble_eq_true rfl⟩ (fun v_1 u_2 H locs hv_3 hP hD hS => ?_)
  obtain rfl : v_1 = some (.int 0) := hv_3
  refine W.eq (g2 := F0 m 7 ls [.int 0]) rfl ?_
  have hP : va_P D classes [(h0, .inr (11, [.ref ta, .ref br, .ref rr, .ref ru, .int 0, .ref sc, .ref sh, .ref pa, .ref im, .ref ou, .ref ch, .ref iq])), (sh, .inr (9, [.int 0, .int 0, .int 0, .int 0, .int 0, .int 0, .ref a1, .ref a2, .ref a3, .ref a4, .ref a5, .ref a6, .ref a7, .ref a8]))] H := hP
  have hD : va_D A [(h0, .inr (11, [.ref ta, .ref br, .ref rr, .ref ru, .int 0, .ref sc, .ref sh, .ref pa, .ref im, .ref ou, .ref ch, .ref iq])), (sh, .inr (9, [.int 0, .int 0, .int 0, .int 0, .int 0, .int 0, .ref a1, .ref a2, .ref a3, .ref a4, .ref a5, .ref a6, .ref a7, .ref a8]))] := hD
  refine lv_if_eq (tgt := 29) hx hb dX11_tells_7 (by decide) (fun c_4 => ?_) (fun c_4 => absurd c_4 (by decide))
  refine lv_iconst (v := (-1)) hx hb dX11_tells_29 (by decide) ?_
  exact retI (v := (-1)) hx hb hr hlk (rfl) hP hD hS () rfl [] rfl rfl dX11_tells_30 (Nat.le_of_ble_eq_true rfl) (Nat.le_of_ble_eq_true rfl) rfl
set_option maxHeartbeats 4000000 in
set_option maxRecDepth 100000 in
theorem ct_X11_guard (l : Launch) (D : va_G) (tc : Nat → ClassId) (sk : (Nat → Nat) × (Nat → Nat)) (h0 : Nat) (ta : Nat) (br : Nat) (rr : Nat) (ru : Nat) (sc : Nat) (sh : Nat) (pa : Nat) (im : Nat) (ou : Nat) (ch : Nat) (iq : Nat) (a1 : Nat) (a2 : Nat) (a3 : Nat) (a4 : Nat) (a5 : Nat) (a6 : Nat) (a7 : Nat) (a8 : Nat) (x1 : Int32) (x2 : Int32)  : Ct l yX11_guard cX11_guard 4 (some .int) { frames := 1, cells := 0, slots := 0, locals := 20 } D tc sk [.ref h0, .int x1, .int x2] [(h0, .inr (11, [.ref ta, .ref br, .ref rr, .ref ru, .int 0, .ref sc, .ref sh, .ref pa, .ref im, .ref ou, .ref ch, .ref iq])), (sh, .inr (9, [.int 0, .int 0, .int 0, .int 0, .int 0, .int 0, .ref a1, .ref a2, .ref a3, .ref a4, .ref a5, .ref a6, .ref a7, .ref a8]))] (fun (v : Option Value) (_ : Unit) => v = some (.int (-1))) (fun (_ : Unit) => []) 0 0 := by
  refine Ct.start (by decide) (Nat.le_of_ble_eq_true rfl) (fun p e s m below meth c A ls hx hb hr hlk hin hml hown hts hK hX hP hD hA hl hS => ?_)
  have hl : lv_has ls 4 [(0, .ref h0), (1, .int x1), (2, .int x2)] := hl
  refine lv_aload_n hx hb dX11_guard_0 rfl (lv_at hl 0 rfl) ?_
  refine gf_X11_51 hx hb hts hown hK hP 0 rfl rfl dX11_guard_1 ?_
  refine cV (a := sh) (As := []) (rest := []) (wr := [(h0, .inr (11, [.ref ta, .ref br, .ref rr, .ref ru, .int 0, .ref sc, .ref sh, .ref pa, .ref im, .ref ou, .ref ch, .ref iq]))]) ⟨hx, hb, hml, hown, hts⟩ hK hX hA (ct_X9_isTold l D tc sk sh a1 a2 a3 a4 a5 a6 a7 a8) k_724 k_721 k_722 k_723 k_98 pl_X9_isTold ⟨Nat.le_of_ble_eq_true rfl, Nat.le_of_ble_eq_true rfl⟩ rfl rfl (va_recv hK hP (ci := 9) (q0 := 1) rfl rfl) hP hD hS [1] [0] rfl rfl rfl rfl rfl (by decide) rfl hl.1 rfl (Nat.le_of_ble_eq_true rfl) dX11_guard_4 ⟨Nat.le_of_ble_eq_true rfl, Nat.le_of_ble_eq_true rfl⟩ (fun v_1 u_2 H locs hv_3 hP hD hS => ?_)
  obtain rfl : v_1 = some (.int 0) := hv_3
  refine W.eq (g2 := F0 m 7 ls [.int 0]) rfl ?_
  have hP : va_P D classes [(h0, .inr (11, [.ref ta, .ref br, .ref rr, .ref ru, .int 0, .ref sc, .ref sh, .ref pa, .ref im, .ref ou, .ref ch, .ref iq])), (sh, .inr (9, [.int 0, .int 0, .int 0, .int 0, .int 0, .int 0, .ref a1, .ref a2, .ref a3, .ref a4, .ref a5, .ref a6, .ref a7, .ref a8]))] H := hP
  have hD : va_D A [(h0, .inr (11, [.ref ta, .ref br, .ref rr, .ref ru, .int 0, .ref sc, .ref sh, .ref pa, .ref im, .ref ou, .ref ch, .ref iq])), (sh, .inr (9, [.int 0, .int 0, .int 0, .int 0, .int 0, .int 0, .ref a1, .ref a2, .ref a3, .ref a4, .ref a5, .ref a6, .ref a7, .ref a8]))] := hD
  refine lv_if_eq (tgt := 29) hx hb dX11_guard_7 (by decide) (fun c_4 => ?_) (fun c_4 => absurd c_4 (by decide))
  refine lv_iconst (v := (-1)) hx hb dX11_guard_29 (by decide) ?_
  exact retI (v := (-1)) hx hb hr hlk (rfl) hP hD hS () rfl [] rfl rfl dX11_guard_30 (Nat.le_of_ble_eq_true rfl) (Nat.le_of_ble_eq_true rfl) rfl
set_option maxHeartbeats 4000000 in
set_option maxRecDepth 100000 in
theorem ct_X11_best (l : Launch) (D : va_G) (tc : Nat → ClassId) (sk : (Nat → Nat) × (Nat → Nat)) (h0 : Nat) (ta : Nat) (br : Nat) (rr : Nat) (ru : Nat) (sc : Nat) (sh : Nat) (pa : Nat) (im : Nat) (ou : Nat) (ch : Nat) (iq : Nat) (a1 : Nat) (a2 : Nat) (a3 : Nat) (a4 : Nat) (a5 : Nat) (a6 : Nat) (a7 : Nat) (a8 : Nat) (x1 : Int32) (x2 : Int32)  : Ct l yX11_best cX11_best 3 (some .int) { frames := 1, cells := 0, slots := 0, locals := 20 } D tc sk [.ref h0, .int x1, .int x2] [(h0, .inr (11, [.ref ta, .ref br, .ref rr, .ref ru, .int 0, .ref sc, .ref sh, .ref pa, .ref im, .ref ou, .ref ch, .ref iq])), (sh, .inr (9, [.int 0, .int 0, .int 0, .int 0, .int 0, .int 0, .ref a1, .ref a2, .ref a3, .ref a4, .ref a5, .ref a6, .ref a7, .ref a8]))] (fun (v : Option Value) (_ : Unit) => v = some (.int (-2))) (fun (_ : Unit) => []) 0 0 := by
  refine Ct.start (by decide) (Nat.le_of_ble_eq_true rfl) (fun p e s m below meth c A ls hx hb hr hlk hin hml hown hts hK hX hP hD hA hl hS => ?_)
  have hl : lv_has ls 3 [(0, .ref h0), (1, .int x1), (2, .int x2)] := hl
  refine lv_aload_n hx hb dX11_best_0 rfl (lv_at hl 0 rfl) ?_
  refine gf_X11_51 hx hb hts hown hK hP 0 rfl rfl dX11_best_1 ?_
  refine cV (a := sh) (As := []) (rest := []) (wr := [(h0, .inr (11, [.ref ta, .ref br, .ref rr, .ref ru, .int 0, .ref sc, .ref sh, .ref pa, .ref im, .ref ou, .ref ch, .ref iq]))]) ⟨hx, hb, hml, hown, hts⟩ hK hX hA (ct_X9_isTold l D tc sk sh a1 a2 a3 a4 a5 a6 a7 a8) k_724 k_721 k_722 k_723 k_98 pl_X9_isTold ⟨Nat.le_of_ble_eq_true rfl, Nat.le_of_ble_eq_true rfl⟩ rfl rfl (va_recv hK hP (ci := 9) (q0 := 1) rfl rfl) hP hD hS [1] [0] rfl rfl rfl rfl rfl (by decide) rfl hl.1 rfl (Nat.le_of_ble_eq_true rfl) dX11_best_4 ⟨Nat.le_of_ble_eq_true rfl, Nat.le_of_ble_eq_true rfl⟩ (fun v_1 u_2 H locs hv_3 hP hD hS => ?_)
  obtain rfl : v_1 = some (.int 0) := hv_3
  refine W.eq (g2 := F0 m 7 ls [.int 0]) rfl ?_
  have hP : va_P D classes [(h0, .inr (11, [.ref ta, .ref br, .ref rr, .ref ru, .int 0, .ref sc, .ref sh, .ref pa, .ref im, .ref ou, .ref ch, .ref iq])), (sh, .inr (9, [.int 0, .int 0, .int 0, .int 0, .int 0, .int 0, .ref a1, .ref a2, .ref a3, .ref a4, .ref a5, .ref a6, .ref a7, .ref a8]))] H := hP
  have hD : va_D A [(h0, .inr (11, [.ref ta, .ref br, .ref rr, .ref ru, .int 0, .ref sc, .ref sh, .ref pa, .ref im, .ref ou, .ref ch, .ref iq])), (sh, .inr (9, [.int 0, .int 0, .int 0, .int 0, .int 0, .int 0, .ref a1, .ref a2, .ref a3, .ref a4, .ref a5, .ref a6, .ref a7, .ref a8]))] := hD
  refine lv_if_eq (tgt := 29) hx hb dX11_best_7 (by decide) (fun c_4 => ?_) (fun c_4 => absurd c_4 (by decide))
  refine lv_bipush (v := (-2)) hx hb dX11_best_29 (by decide) ?_
  exact retI (v := (-2)) hx hb hr hlk (rfl) hP hD hS () rfl [] rfl rfl dX11_best_31 (Nat.le_of_ble_eq_true rfl) (Nat.le_of_ble_eq_true rfl) rfl
set_option maxHeartbeats 4000000 in
set_option maxRecDepth 100000 in
theorem ct_X11_least (l : Launch) (D : va_G) (tc : Nat → ClassId) (sk : (Nat → Nat) × (Nat → Nat)) (h0 : Nat) (ta : Nat) (br : Nat) (rr : Nat) (ru : Nat) (sc : Nat) (sh : Nat) (pa : Nat) (im : Nat) (ou : Nat) (ch : Nat) (iq : Nat) (a1 : Nat) (a2 : Nat) (a3 : Nat) (a4 : Nat) (a5 : Nat) (a6 : Nat) (a7 : Nat) (a8 : Nat) (x1 : Int32) (x2 : Int32)  : Ct l yX11_least cX11_least 3 (some .int) { frames := 1, cells := 0, slots := 0, locals := 21 } D tc sk [.ref h0, .int x1, .int x2] [(h0, .inr (11, [.ref ta, .ref br, .ref rr, .ref ru, .int 0, .ref sc, .ref sh, .ref pa, .ref im, .ref ou, .ref ch, .ref iq])), (sh, .inr (9, [.int 0, .int 0, .int 0, .int 0, .int 0, .int 0, .ref a1, .ref a2, .ref a3, .ref a4, .ref a5, .ref a6, .ref a7, .ref a8]))] (fun (v : Option Value) (_ : Unit) => v = some (.int (-1))) (fun (_ : Unit) => []) 0 0 := by
  refine Ct.start (by decide) (Nat.le_of_ble_eq_true rfl) (fun p e s m below meth c A ls hx hb hr hlk hin hml hown hts hK hX hP hD hA hl hS => ?_)
  have hl : lv_has ls 3 [(0, .ref h0), (1, .int x1), (2, .int x2)] := hl
  refine lv_aload_n hx hb dX11_least_0 rfl (lv_at hl 0 rfl) ?_
  refine gf_X11_51 hx hb hts hown hK hP 0 rfl rfl dX11_least_1 ?_
  refine lv_iload_n hx hb dX11_least_4 rfl (lv_at hl 1 rfl) ?_
  refine cV (a := sh) (As := [.int x1]) (rest := []) (wr := [(h0, .inr (11, [.ref ta, .ref br, .ref rr, .ref ru, .int 0, .ref sc, .ref sh, .ref pa, .ref im, .ref ou, .ref ch, .ref iq]))]) ⟨hx, hb, hml, hown, hts⟩ hK hX hA (ct_X9_hasBuyer l D tc sk sh a1 a2 a3 a4 a5 a6 a7 a8 x1) k_591 k_702 k_589 k_590 k_98 pl_X9_hasBuyer ⟨Nat.le_of_ble_eq_true rfl, Nat.le_of_ble_eq_true rfl⟩ rfl rfl (va_recv hK hP (ci := 9) (q0 := 1) rfl rfl) hP hD hS [1] [0] rfl rfl rfl rfl rfl (by decide) rfl hl.1 rfl (Nat.le_of_ble_eq_true rfl) dX11_least_5 ⟨Nat.le_of_ble_eq_true rfl, Nat.le_of_ble_eq_true rfl⟩ (fun v_1 u_2 H locs hv_3 hP hD hS => ?_)
  obtain rfl : v_1 = some (.int 0) := hv_3
  refine W.eq (g2 := F0 m 8 ls [.int 0]) rfl ?_
  have hP : va_P D classes [(h0, .inr (11, [.ref ta, .ref br, .ref rr, .ref ru, .int 0, .ref sc, .ref sh, .ref pa, .ref im, .ref ou, .ref ch, .ref iq])), (sh, .inr (9, [.int 0, .int 0, .int 0, .int 0, .int 0, .int 0, .ref a1, .ref a2, .ref a3, .ref a4, .ref a5, .ref a6, .ref a7, .ref a8]))] H := hP
  have hD : va_D A [(h0, .inr (11, [.ref ta, .ref br, .ref rr, .ref ru, .int 0, .ref sc, .ref sh, .ref pa, .ref im, .ref ou, .ref ch, .ref iq])), (sh, .inr (9, [.int 0, .int 0, .int 0, .int 0, .int 0, .int 0, .ref a1, .ref a2, .ref a3, .ref a4, .ref a5, .ref a6, .ref a7, .ref a8]))] := hD
  refine lv_if_eq (tgt := 21) hx hb dX11_least_8 (by decide) (fun c_4 => ?_) (fun c_4 => absurd c_4 (by decide))
  refine lv_iconst (v := (-1)) hx hb dX11_least_21 (by decide) ?_
  exact retI (v := (-1)) hx hb hr hlk (rfl) hP hD hS () rfl [] rfl rfl dX11_least_22 (Nat.le_of_ble_eq_true rfl) (Nat.le_of_ble_eq_true rfl) rfl
set_option maxHeartbeats 4000000 in
set_option maxRecDepth 100000 in
theorem ct_X11_soothe (l : Launch) (D : va_G) (tc : Nat → ClassId) (sk : (Nat → Nat) × (Nat → Nat)) (h0 : Nat) (ta : Nat) (br : Nat) (rr : Nat) (ru : Nat) (sc : Nat) (sh : Nat) (pa : Nat) (im : Nat) (ou : Nat) (ch : Nat) (iq : Nat) (a1 : Nat) (a2 : Nat) (a3 : Nat) (a4 : Nat) (a5 : Nat) (a6 : Nat) (a7 : Nat) (a8 : Nat) (x1 : Int32) (x2 : Int32)  : Ct l yX11_soothe cX11_soothe 3 (some .int) { frames := 1, cells := 0, slots := 0, locals := 20 } D tc sk [.ref h0, .int x1, .int x2] [(h0, .inr (11, [.ref ta, .ref br, .ref rr, .ref ru, .int 0, .ref sc, .ref sh, .ref pa, .ref im, .ref ou, .ref ch, .ref iq])), (sh, .inr (9, [.int 0, .int 0, .int 0, .int 0, .int 0, .int 0, .ref a1, .ref a2, .ref a3, .ref a4, .ref a5, .ref a6, .ref a7, .ref a8]))] (fun (v : Option Value) (_ : Unit) => v = some (.int (-2))) (fun (_ : Unit) => []) 0 0 := by
  refine Ct.start (by decide) (Nat.le_of_ble_eq_true rfl) (fun p e s m below meth c A ls hx hb hr hlk hin hml hown hts hK hX hP hD hA hl hS => ?_)
  have hl : lv_has ls 3 [(0, .ref h0), (1, .int x1), (2, .int x2)] := hl
  refine lv_aload_n hx hb dX11_soothe_0 rfl (lv_at hl 0 rfl) ?_
  refine gf_X11_51 hx hb hts hown hK hP 0 rfl rfl dX11_soothe_1 ?_
  refine cV (a := sh) (As := []) (rest := []) (wr := [(h0, .inr (11, [.ref ta, .ref br, .ref rr, .ref ru, .int 0, .ref sc, .ref sh, .ref pa, .ref im, .ref ou, .ref ch, .ref iq]))]) ⟨hx, hb, hml, hown, hts⟩ hK hX hA (ct_X9_isTold l D tc sk sh a1 a2 a3 a4 a5 a6 a7 a8) k_724 k_721 k_722 k_723 k_98 pl_X9_isTold ⟨Nat.le_of_ble_eq_true rfl, Nat.le_of_ble_eq_true rfl⟩ rfl rfl (va_recv hK hP (ci := 9) (q0 := 1) rfl rfl) hP hD hS [1] [0] rfl rfl rfl rfl rfl (by decide) rfl hl.1 rfl (Nat.le_of_ble_eq_true rfl) dX11_soothe_4 ⟨Nat.le_of_ble_eq_true rfl, Nat.le_of_ble_eq_true rfl⟩ (fun v_1 u_2 H locs hv_3 hP hD hS => ?_)
  obtain rfl : v_1 = some (.int 0) := hv_3
  refine W.eq (g2 := F0 m 7 ls [.int 0]) rfl ?_
  have hP : va_P D classes [(h0, .inr (11, [.ref ta, .ref br, .ref rr, .ref ru, .int 0, .ref sc, .ref sh, .ref pa, .ref im, .ref ou, .ref ch, .ref iq])), (sh, .inr (9, [.int 0, .int 0, .int 0, .int 0, .int 0, .int 0, .ref a1, .ref a2, .ref a3, .ref a4, .ref a5, .ref a6, .ref a7, .ref a8]))] H := hP
  have hD : va_D A [(h0, .inr (11, [.ref ta, .ref br, .ref rr, .ref ru, .int 0, .ref sc, .ref sh, .ref pa, .ref im, .ref ou, .ref ch, .ref iq])), (sh, .inr (9, [.int 0, .int 0, .int 0, .int 0, .int 0, .int 0, .ref a1, .ref a2, .ref a3, .ref a4, .ref a5, .ref a6, .ref a7, .ref a8]))] := hD
  refine lv_if_eq (tgt := 29) hx hb dX11_soothe_7 (by decide) (fun c_4 => ?_) (fun c_4 => absurd c_4 (by decide))
  refine lv_bipush (v := (-2)) hx hb dX11_soothe_29 (by decide) ?_
  exact retI (v := (-2)) hx hb hr hlk (rfl) hP hD hS () rfl [] rfl rfl dX11_soothe_31 (Nat.le_of_ble_eq_true rfl) (Nat.le_of_ble_eq_true rfl) rfl
set_option maxHeartbeats 4000000 in
set_option maxRecDepth 100000 in
theorem ct_X11_page (l : Launch) (D : va_G) (tc : Nat → ClassId) (sk : (Nat → Nat) × (Nat → Nat)) (h0 : Nat) (ta : Nat) (br : Nat) (rr : Nat) (ru : Nat) (sc : Nat) (sh : Nat) (pa : Nat) (im : Nat) (ou : Nat) (ch : Nat) (iq : Nat) (a1 : Nat) (a2 : Nat) (a3 : Nat) (a4 : Nat) (a5 : Nat) (a6 : Nat) (a7 : Nat) (a8 : Nat) (x1 : Int32) (x2 : Int32)  : Ct l yX11_page cX11_page 3 (some .int) { frames := 1, cells := 0, slots := 0, locals := 20 } D tc sk [.ref h0, .int x1, .int x2] [(h0, .inr (11, [.ref ta, .ref br, .ref rr, .ref ru, .int 0, .ref sc, .ref sh, .ref pa, .ref im, .ref ou, .ref ch, .ref iq])), (sh, .inr (9, [.int 0, .int 0, .int 0, .int 0, .int 0, .int 0, .ref a1, .ref a2, .ref a3, .ref a4, .ref a5, .ref a6, .ref a7, .ref a8]))] (fun (v : Option Value) (_ : Unit) => v = some (.int (-1))) (fun (_ : Unit) => []) 0 0 := by
  refine Ct.start (by decide) (Nat.le_of_ble_eq_true rfl) (fun p e s m below meth c A ls hx hb hr hlk hin hml hown hts hK hX hP hD hA hl hS => ?_)
  have hl : lv_has ls 3 [(0, .ref h0), (1, .int x1), (2, .int x2)] := hl
  refine lv_aload_n hx hb dX11_page_0 rfl (lv_at hl 0 rfl) ?_
  refine gf_X11_51 hx hb hts hown hK hP 0 rfl rfl dX11_page_1 ?_
  refine cV (a := sh) (As := []) (rest := []) (wr := [(h0, .inr (11, [.ref ta, .ref br, .ref rr, .ref ru, .int 0, .ref sc, .ref sh, .ref pa, .ref im, .ref ou, .ref ch, .ref iq]))]) ⟨hx, hb, hml, hown, hts⟩ hK hX hA (ct_X9_isTold l D tc sk sh a1 a2 a3 a4 a5 a6 a7 a8) k_724 k_721 k_722 k_723 k_98 pl_X9_isTold ⟨Nat.le_of_ble_eq_true rfl, Nat.le_of_ble_eq_true rfl⟩ rfl rfl (va_recv hK hP (ci := 9) (q0 := 1) rfl rfl) hP hD hS [1] [0] rfl rfl rfl rfl rfl (by decide) rfl hl.1 rfl (Nat.le_of_ble_eq_true rfl) dX11_page_4 ⟨Nat.le_of_ble_eq_true rfl, Nat.le_of_ble_eq_true rfl⟩ (fun v_1 u_2 H locs hv_3 hP hD hS => ?_)
  obtain rfl : v_1 = some (.int 0) := hv_3
  refine W.eq (g2 := F0 m 7 ls [.int 0]) rfl ?_
  have hP : va_P D classes [(h0, .inr (11, [.ref ta, .ref br, .ref rr, .ref ru, .int 0, .ref sc, .ref sh, .ref pa, .ref im, .ref ou, .ref ch, .ref iq])), (sh, .inr (9, [.int 0, .int 0, .int 0, .int 0, .int 0, .int 0, .ref a1, .ref a2, .ref a3, .ref a4, .ref a5, .ref a6, .ref a7, .ref a8]))] H := hP
  have hD : va_D A [(h0, .inr (11, [.ref ta, .ref br, .ref rr, .ref ru, .int 0, .ref sc, .ref sh, .ref pa, .ref im, .ref ou, .ref ch, .ref iq])), (sh, .inr (9, [.int 0, .int 0, .int 0, .int 0, .int 0, .int 0, .ref a1, .ref a2, .ref a3, .ref a4, .ref a5, .ref a6, .ref a7, .ref a8]))] := hD
  refine lv_if_eq (tgt := 29) hx hb dX11_page_7 (by decide) (fun c_4 => ?_) (fun c_4 => absurd c_4 (by decide))
  refine lv_iconst (v := (-1)) hx hb dX11_page_29 (by decide) ?_
  exact retI (v := (-1)) hx hb hr hlk (rfl) hP hD hS () rfl [] rfl rfl dX11_page_30 (Nat.le_of_ble_eq_true rfl) (Nat.le_of_ble_eq_true rfl) rfl
set_option maxHeartbeats 4000000 in
set_option maxRecDepth 100000 in
theorem ct_X11_rests (l : Launch) (D : va_G) (tc : Nat → ClassId) (sk : (Nat → Nat) × (Nat → Nat)) (h0 : Nat) (ta : Nat) (br : Nat) (rr : Nat) (ru : Nat) (sc : Nat) (sh : Nat) (pa : Nat) (im : Nat) (ou : Nat) (ch : Nat) (iq : Nat) (a1 : Nat) (a2 : Nat) (a3 : Nat) (a4 : Nat) (a5 : Nat) (a6 : Nat) (a7 : Nat) (a8 : Nat) (x1 : Int32) (x2 : Int32) (x3 : Int32) (x4 : Int32)  : Ct l yX11_rests cX11_rests 5 (some .int) { frames := 1, cells := 0, slots := 0, locals := 21 } D tc sk [.ref h0, .int x1, .int x2, .int x3, .int x4] [(h0, .inr (11, [.ref ta, .ref br, .ref rr, .ref ru, .int 0, .ref sc, .ref sh, .ref pa, .ref im, .ref ou, .ref ch, .ref iq])), (sh, .inr (9, [.int 0, .int 0, .int 0, .int 0, .int 0, .int 0, .ref a1, .ref a2, .ref a3, .ref a4, .ref a5, .ref a6, .ref a7, .ref a8]))] (fun (v : Option Value) (_ : Unit) => v = some (.int (-1))) (fun (_ : Unit) => []) 0 0 := by
  refine Ct.start (by decide) (Nat.le_of_ble_eq_true rfl) (fun p e s m below meth c A ls hx hb hr hlk hin hml hown hts hK hX hP hD hA hl hS => ?_)
  have hl : lv_has ls 5 [(0, .ref h0), (1, .int x1), (2, .int x2), (3, .int x3), (4, .int x4)] := hl
  refine lv_aload_n hx hb dX11_rests_0 rfl (lv_at hl 0 rfl) ?_
  refine gf_X11_51 hx hb hts hown hK hP 0 rfl rfl dX11_rests_1 ?_
  refine lv_iload_n hx hb dX11_rests_4 rfl (lv_at hl 1 rfl) ?_
  refine cV (a := sh) (As := [.int x1]) (rest := []) (wr := [(h0, .inr (11, [.ref ta, .ref br, .ref rr, .ref ru, .int 0, .ref sc, .ref sh, .ref pa, .ref im, .ref ou, .ref ch, .ref iq]))]) ⟨hx, hb, hml, hown, hts⟩ hK hX hA (ct_X9_hasBuyer l D tc sk sh a1 a2 a3 a4 a5 a6 a7 a8 x1) k_591 k_702 k_589 k_590 k_98 pl_X9_hasBuyer ⟨Nat.le_of_ble_eq_true rfl, Nat.le_of_ble_eq_true rfl⟩ rfl rfl (va_recv hK hP (ci := 9) (q0 := 1) rfl rfl) hP hD hS [1] [0] rfl rfl rfl rfl rfl (by decide) rfl hl.1 rfl (Nat.le_of_ble_eq_true rfl) dX11_rests_5 ⟨Nat.le_of_ble_eq_true rfl, Nat.le_of_ble_eq_true rfl⟩ (fun v_1 u_2 H locs hv_3 hP hD hS => ?_)
  obtain rfl : v_1 = some (.int 0) := hv_3
  refine W.eq (g2 := F0 m 8 ls [.int 0]) rfl ?_
  have hP : va_P D classes [(h0, .inr (11, [.ref ta, .ref br, .ref rr, .ref ru, .int 0, .ref sc, .ref sh, .ref pa, .ref im, .ref ou, .ref ch, .ref iq])), (sh, .inr (9, [.int 0, .int 0, .int 0, .int 0, .int 0, .int 0, .ref a1, .ref a2, .ref a3, .ref a4, .ref a5, .ref a6, .ref a7, .ref a8]))] H := hP
  have hD : va_D A [(h0, .inr (11, [.ref ta, .ref br, .ref rr, .ref ru, .int 0, .ref sc, .ref sh, .ref pa, .ref im, .ref ou, .ref ch, .ref iq])), (sh, .inr (9, [.int 0, .int 0, .int 0, .int 0, .int 0, .int 0, .ref a1, .ref a2, .ref a3, .ref a4, .ref a5, .ref a6, .ref a7, .ref a8]))] := hD
  refine lv_if_eq (tgt := 27) hx hb dX11_rests_8 (by decide) (fun c_4 => ?_) (fun c_4 => absurd c_4 (by decide))
  refine lv_iconst (v := (-1)) hx hb dX11_rests_27 (by decide) ?_
  exact retI (v := (-1)) hx hb hr hlk (rfl) hP hD hS () rfl [] rfl rfl dX11_rests_28 (Nat.le_of_ble_eq_true rfl) (Nat.le_of_ble_eq_true rfl) rfl
set_option maxHeartbeats 4000000 in
set_option maxRecDepth 100000 in
theorem ct_X11_ring (l : Launch) (D : va_G) (tc : Nat → ClassId) (sk : (Nat → Nat) × (Nat → Nat)) (h0 : Nat) (ta : Nat) (br : Nat) (rr : Nat) (ru : Nat) (sc : Nat) (sh : Nat) (pa : Nat) (im : Nat) (ou : Nat) (ch : Nat) (iq : Nat) (a1 : Nat) (a2 : Nat) (a3 : Nat) (a4 : Nat) (a5 : Nat) (a6 : Nat) (a7 : Nat) (a8 : Nat) (x1 : Int32)  : Ct l yX11_ring cX11_ring 2 (some .int) { frames := 1, cells := 0, slots := 0, locals := 20 } D tc sk [.ref h0, .int x1] [(h0, .inr (11, [.ref ta, .ref br, .ref rr, .ref ru, .int 0, .ref sc, .ref sh, .ref pa, .ref im, .ref ou, .ref ch, .ref iq])), (sh, .inr (9, [.int 0, .int 0, .int 0, .int 0, .int 0, .int 0, .ref a1, .ref a2, .ref a3, .ref a4, .ref a5, .ref a6, .ref a7, .ref a8]))] (fun (v : Option Value) (_ : Unit) => v = some (.int (-1))) (fun (_ : Unit) => []) 0 0 := by
  refine Ct.start (by decide) (Nat.le_of_ble_eq_true rfl) (fun p e s m below meth c A ls hx hb hr hlk hin hml hown hts hK hX hP hD hA hl hS => ?_)
  have hl : lv_has ls 2 [(0, .ref h0), (1, .int x1)] := hl
  refine lv_aload_n hx hb dX11_ring_0 rfl (lv_at hl 0 rfl) ?_
  refine gf_X11_51 hx hb hts hown hK hP 0 rfl rfl dX11_ring_1 ?_
  refine cV (a := sh) (As := []) (rest := []) (wr := [(h0, .inr (11, [.ref ta, .ref br, .ref rr, .ref ru, .int 0, .ref sc, .ref sh, .ref pa, .ref im, .ref ou, .ref ch, .ref iq]))]) ⟨hx, hb, hml, hown, hts⟩ hK hX hA (ct_X9_isTold l D tc sk sh a1 a2 a3 a4 a5 a6 a7 a8) k_724 k_721 k_722 k_723 k_98 pl_X9_isTold ⟨Nat.le_of_ble_eq_true rfl, Nat.le_of_ble_eq_true rfl⟩ rfl rfl (va_recv hK hP (ci := 9) (q0 := 1) rfl rfl) hP hD hS [1] [0] rfl rfl rfl rfl rfl (by decide) rfl hl.1 rfl (Nat.le_of_ble_eq_true rfl) dX11_ring_4 ⟨Nat.le_of_ble_eq_true rfl, Nat.le_of_ble_eq_true rfl⟩ (fun v_1 u_2 H locs hv_3 hP hD hS => ?_)
  obtain rfl : v_1 = some (.int 0) := hv_3
  refine W.eq (g2 := F0 m 7 ls [.int 0]) rfl ?_
  have hP : va_P D classes [(h0, .inr (11, [.ref ta, .ref br, .ref rr, .ref ru, .int 0, .ref sc, .ref sh, .ref pa, .ref im, .ref ou, .ref ch, .ref iq])), (sh, .inr (9, [.int 0, .int 0, .int 0, .int 0, .int 0, .int 0, .ref a1, .ref a2, .ref a3, .ref a4, .ref a5, .ref a6, .ref a7, .ref a8]))] H := hP
  have hD : va_D A [(h0, .inr (11, [.ref ta, .ref br, .ref rr, .ref ru, .int 0, .ref sc, .ref sh, .ref pa, .ref im, .ref ou, .ref ch, .ref iq])), (sh, .inr (9, [.int 0, .int 0, .int 0, .int 0, .int 0, .int 0, .ref a1, .ref a2, .ref a3, .ref a4, .ref a5, .ref a6, .ref a7, .ref a8]))] := hD
  refine lv_if_eq (tgt := 19) hx hb dX11_ring_7 (by decide) (fun c_4 => ?_) (fun c_4 => absurd c_4 (by decide))
  refine lv_iconst (v := (-1)) hx hb dX11_ring_19 (by decide) ?_
  exact retI (v := (-1)) hx hb hr hlk (rfl) hP hD hS () rfl [] rfl rfl dX11_ring_20 (Nat.le_of_ble_eq_true rfl) (Nat.le_of_ble_eq_true rfl) rfl
set_option maxHeartbeats 4000000 in
set_option maxRecDepth 100000 in
theorem ct_X11_peak (l : Launch) (D : va_G) (tc : Nat → ClassId) (sk : (Nat → Nat) × (Nat → Nat)) (h0 : Nat) (ta : Nat) (br : Nat) (rr : Nat) (ru : Nat) (sc : Nat) (sh : Nat) (pa : Nat) (im : Nat) (ou : Nat) (ch : Nat) (iq : Nat) (a1 : Nat) (a2 : Nat) (a3 : Nat) (a4 : Nat) (a5 : Nat) (a6 : Nat) (a7 : Nat) (a8 : Nat) (x1 : Int32) (x2 : Int32)  : Ct l yX11_peak cX11_peak 3 (some .int) { frames := 1, cells := 0, slots := 0, locals := 20 } D tc sk [.ref h0, .int x1, .int x2] [(h0, .inr (11, [.ref ta, .ref br, .ref rr, .ref ru, .int 0, .ref sc, .ref sh, .ref pa, .ref im, .ref ou, .ref ch, .ref iq])), (sh, .inr (9, [.int 0, .int 0, .int 0, .int 0, .int 0, .int 0, .ref a1, .ref a2, .ref a3, .ref a4, .ref a5, .ref a6, .ref a7, .ref a8]))] (fun (v : Option Value) (_ : Unit) => v = some (.int (-1))) (fun (_ : Unit) => []) 0 0 := by
  refine Ct.start (by decide) (Nat.le_of_ble_eq_true rfl) (fun p e s m below meth c A ls hx hb hr hlk hin hml hown hts hK hX hP hD hA hl hS => ?_)
  have hl : lv_has ls 3 [(0, .ref h0), (1, .int x1), (2, .int x2)] := hl
  refine lv_aload_n hx hb dX11_peak_0 rfl (lv_at hl 0 rfl) ?_
  refine gf_X11_51 hx hb hts hown hK hP 0 rfl rfl dX11_peak_1 ?_
  refine cV (a := sh) (As := []) (rest := []) (wr := [(h0, .inr (11, [.ref ta, .ref br, .ref rr, .ref ru, .int 0, .ref sc, .ref sh, .ref pa, .ref im, .ref ou, .ref ch, .ref iq]))]) ⟨hx, hb, hml, hown, hts⟩ hK hX hA (ct_X9_isTold l D tc sk sh a1 a2 a3 a4 a5 a6 a7 a8) k_724 k_721 k_722 k_723 k_98 pl_X9_isTold ⟨Nat.le_of_ble_eq_true rfl, Nat.le_of_ble_eq_true rfl⟩ rfl rfl (va_recv hK hP (ci := 9) (q0 := 1) rfl rfl) hP hD hS [1] [0] rfl rfl rfl rfl rfl (by decide) rfl hl.1 rfl (Nat.le_of_ble_eq_true rfl) dX11_peak_4 ⟨Nat.le_of_ble_eq_true rfl, Nat.le_of_ble_eq_true rfl⟩ (fun v_1 u_2 H locs hv_3 hP hD hS => ?_)
  obtain rfl : v_1 = some (.int 0) := hv_3
  refine W.eq (g2 := F0 m 7 ls [.int 0]) rfl ?_
  have hP : va_P D classes [(h0, .inr (11, [.ref ta, .ref br, .ref rr, .ref ru, .int 0, .ref sc, .ref sh, .ref pa, .ref im, .ref ou, .ref ch, .ref iq])), (sh, .inr (9, [.int 0, .int 0, .int 0, .int 0, .int 0, .int 0, .ref a1, .ref a2, .ref a3, .ref a4, .ref a5, .ref a6, .ref a7, .ref a8]))] H := hP
  have hD : va_D A [(h0, .inr (11, [.ref ta, .ref br, .ref rr, .ref ru, .int 0, .ref sc, .ref sh, .ref pa, .ref im, .ref ou, .ref ch, .ref iq])), (sh, .inr (9, [.int 0, .int 0, .int 0, .int 0, .int 0, .int 0, .ref a1, .ref a2, .ref a3, .ref a4, .ref a5, .ref a6, .ref a7, .ref a8]))] := hD
  refine lv_if_eq (tgt := 29) hx hb dX11_peak_7 (by decide) (fun c_4 => ?_) (fun c_4 => absurd c_4 (by decide))
  refine lv_iconst (v := (-1)) hx hb dX11_peak_29 (by decide) ?_
  exact retI (v := (-1)) hx hb hr hlk (rfl) hP hD hS () rfl [] rfl rfl dX11_peak_30 (Nat.le_of_ble_eq_true rfl) (Nat.le_of_ble_eq_true rfl) rfl
set_option maxHeartbeats 4000000 in
set_option maxRecDepth 100000 in
theorem ct_X11_ruled (l : Launch) (D : va_G) (tc : Nat → ClassId) (sk : (Nat → Nat) × (Nat → Nat)) (h0 : Nat) (ta : Nat) (br : Nat) (rr : Nat) (ru : Nat) (sc : Nat) (sh : Nat) (pa : Nat) (im : Nat) (ou : Nat) (ch : Nat) (iq : Nat) (a1 : Nat) (a2 : Nat) (a3 : Nat) (a4 : Nat) (a5 : Nat) (a6 : Nat) (a7 : Nat) (a8 : Nat) (x1 : Int32)  : Ct l yX11_ruled cX11_ruled 2 (some .int) { frames := 1, cells := 0, slots := 0, locals := 20 } D tc sk [.ref h0, .int x1] [(h0, .inr (11, [.ref ta, .ref br, .ref rr, .ref ru, .int 0, .ref sc, .ref sh, .ref pa, .ref im, .ref ou, .ref ch, .ref iq])), (sh, .inr (9, [.int 0, .int 0, .int 0, .int 0, .int 0, .int 0, .ref a1, .ref a2, .ref a3, .ref a4, .ref a5, .ref a6, .ref a7, .ref a8]))] (fun (v : Option Value) (_ : Unit) => v = some (.int (-3))) (fun (_ : Unit) => []) 0 0 := by
  refine Ct.start (by decide) (Nat.le_of_ble_eq_true rfl) (fun p e s m below meth c A ls hx hb hr hlk hin hml hown hts hK hX hP hD hA hl hS => ?_)
  have hl : lv_has ls 2 [(0, .ref h0), (1, .int x1)] := hl
  refine lv_aload_n hx hb dX11_ruled_0 rfl (lv_at hl 0 rfl) ?_
  refine gf_X11_51 hx hb hts hown hK hP 0 rfl rfl dX11_ruled_1 ?_
  refine cV (a := sh) (As := []) (rest := []) (wr := [(h0, .inr (11, [.ref ta, .ref br, .ref rr, .ref ru, .int 0, .ref sc, .ref sh, .ref pa, .ref im, .ref ou, .ref ch, .ref iq]))]) ⟨hx, hb, hml, hown, hts⟩ hK hX hA (ct_X9_isTold l D tc sk sh a1 a2 a3 a4 a5 a6 a7 a8) k_724 k_721 k_722 k_723 k_98 pl_X9_isTold ⟨Nat.le_of_ble_eq_true rfl, Nat.le_of_ble_eq_true rfl⟩ rfl rfl (va_recv hK hP (ci := 9) (q0 := 1) rfl rfl) hP hD hS [1] [0] rfl rfl rfl rfl rfl (by decide) rfl hl.1 rfl (Nat.le_of_ble_eq_true rfl) dX11_ruled_4 ⟨Nat.le_of_ble_eq_true rfl, Nat.le_of_ble_eq_true rfl⟩ (fun v_1 u_2 H locs hv_3 hP hD hS => ?_)
  obtain rfl : v_1 = some (.int 0) := hv_3
  refine W.eq (g2 := F0 m 7 ls [.int 0]) rfl ?_
  have hP : va_P D classes [(h0, .inr (11, [.ref ta, .ref br, .ref rr, .ref ru, .int 0, .ref sc, .ref sh, .ref pa, .ref im, .ref ou, .ref ch, .ref iq])), (sh, .inr (9, [.int 0, .int 0, .int 0, .int 0, .int 0, .int 0, .ref a1, .ref a2, .ref a3, .ref a4, .ref a5, .ref a6, .ref a7, .ref a8]))] H := hP
  have hD : va_D A [(h0, .inr (11, [.ref ta, .ref br, .ref rr, .ref ru, .int 0, .ref sc, .ref sh, .ref pa, .ref im, .ref ou, .ref ch, .ref iq])), (sh, .inr (9, [.int 0, .int 0, .int 0, .int 0, .int 0, .int 0, .ref a1, .ref a2, .ref a3, .ref a4, .ref a5, .ref a6, .ref a7, .ref a8]))] := hD
  refine lv_if_eq (tgt := 19) hx hb dX11_ruled_7 (by decide) (fun c_4 => ?_) (fun c_4 => absurd c_4 (by decide))
  refine lv_bipush (v := (-3)) hx hb dX11_ruled_19 (by decide) ?_
  exact retI (v := (-3)) hx hb hr hlk (rfl) hP hD hS () rfl [] rfl rfl dX11_ruled_21 (Nat.le_of_ble_eq_true rfl) (Nat.le_of_ble_eq_true rfl) rfl
set_option maxHeartbeats 4000000 in
set_option maxRecDepth 100000 in
theorem ct_X11_look (l : Launch) (D : va_G) (tc : Nat → ClassId) (sk : (Nat → Nat) × (Nat → Nat)) (h0 : Nat) (ta : Nat) (br : Nat) (rr : Nat) (ru : Nat) (sc : Nat) (sh : Nat) (pa : Nat) (im : Nat) (ou : Nat) (ch : Nat) (iq : Nat) (a1 : Nat) (a2 : Nat) (a3 : Nat) (a4 : Nat) (a5 : Nat) (a6 : Nat) (a7 : Nat) (a8 : Nat) (x1 : Int32)  : Ct l yX11_look cX11_look 2 (some .int) { frames := 1, cells := 0, slots := 0, locals := 20 } D tc sk [.ref h0, .int x1] [(h0, .inr (11, [.ref ta, .ref br, .ref rr, .ref ru, .int 0, .ref sc, .ref sh, .ref pa, .ref im, .ref ou, .ref ch, .ref iq])), (sh, .inr (9, [.int 0, .int 0, .int 0, .int 0, .int 0, .int 0, .ref a1, .ref a2, .ref a3, .ref a4, .ref a5, .ref a6, .ref a7, .ref a8]))] (fun (v : Option Value) (_ : Unit) => v = some (.int (-1))) (fun (_ : Unit) => []) 0 0 := by
  refine Ct.start (by decide) (Nat.le_of_ble_eq_true rfl) (fun p e s m below meth c A ls hx hb hr hlk hin hml hown hts hK hX hP hD hA hl hS => ?_)
  have hl : lv_has ls 2 [(0, .ref h0), (1, .int x1)] := hl
  refine lv_aload_n hx hb dX11_look_0 rfl (lv_at hl 0 rfl) ?_
  refine gf_X11_51 hx hb hts hown hK hP 0 rfl rfl dX11_look_1 ?_
  refine cV (a := sh) (As := []) (rest := []) (wr := [(h0, .inr (11, [.ref ta, .ref br, .ref rr, .ref ru, .int 0, .ref sc, .ref sh, .ref pa, .ref im, .ref ou, .ref ch, .ref iq]))]) ⟨hx, hb, hml, hown, hts⟩ hK hX hA (ct_X9_isTold l D tc sk sh a1 a2 a3 a4 a5 a6 a7 a8) k_724 k_721 k_722 k_723 k_98 pl_X9_isTold ⟨Nat.le_of_ble_eq_true rfl, Nat.le_of_ble_eq_true rfl⟩ rfl rfl (va_recv hK hP (ci := 9) (q0 := 1) rfl rfl) hP hD hS [1] [0] rfl rfl rfl rfl rfl (by decide) rfl hl.1 rfl (Nat.le_of_ble_eq_true rfl) dX11_look_4 ⟨Nat.le_of_ble_eq_true rfl, Nat.le_of_ble_eq_true rfl⟩ (fun v_1 u_2 H locs hv_3 hP hD hS => ?_)
  obtain rfl : v_1 = some (.int 0) := hv_3
  refine W.eq (g2 := F0 m 7 ls [.int 0]) rfl ?_
  have hP : va_P D classes [(h0, .inr (11, [.ref ta, .ref br, .ref rr, .ref ru, .int 0, .ref sc, .ref sh, .ref pa, .ref im, .ref ou, .ref ch, .ref iq])), (sh, .inr (9, [.int 0, .int 0, .int 0, .int 0, .int 0, .int 0, .ref a1, .ref a2, .ref a3, .ref a4, .ref a5, .ref a6, .ref a7, .ref a8]))] H := hP
  have hD : va_D A [(h0, .inr (11, [.ref ta, .ref br, .ref rr, .ref ru, .int 0, .ref sc, .ref sh, .ref pa, .ref im, .ref ou, .ref ch, .ref iq])), (sh, .inr (9, [.int 0, .int 0, .int 0, .int 0, .int 0, .int 0, .ref a1, .ref a2, .ref a3, .ref a4, .ref a5, .ref a6, .ref a7, .ref a8]))] := hD
  refine lv_if_eq (tgt := 19) hx hb dX11_look_7 (by decide) (fun c_4 => ?_) (fun c_4 => absurd c_4 (by decide))
  refine lv_iconst (v := (-1)) hx hb dX11_look_19 (by decide) ?_
  exact retI (v := (-1)) hx hb hr hlk (rfl) hP hD hS () rfl [] rfl rfl dX11_look_20 (Nat.le_of_ble_eq_true rfl) (Nat.le_of_ble_eq_true rfl) rfl
set_option maxHeartbeats 4000000 in
set_option maxRecDepth 100000 in
theorem ct_X11_summers (l : Launch) (D : va_G) (tc : Nat → ClassId) (sk : (Nat → Nat) × (Nat → Nat)) (h0 : Nat) (ta : Nat) (br : Nat) (rr : Nat) (ru : Nat) (sc : Nat) (sh : Nat) (pa : Nat) (im : Nat) (ou : Nat) (ch : Nat) (iq : Nat) (a1 : Nat) (a2 : Nat) (a3 : Nat) (a4 : Nat) (a5 : Nat) (a6 : Nat) (a7 : Nat) (a8 : Nat) (x1 : Int32) (x2 : Int32) (x3 : Int32) (x4 : Int32)  : Ct l yX11_summers cX11_summers 5 (some .int) { frames := 1, cells := 0, slots := 0, locals := 20 } D tc sk [.ref h0, .int x1, .int x2, .int x3, .int x4] [(h0, .inr (11, [.ref ta, .ref br, .ref rr, .ref ru, .int 0, .ref sc, .ref sh, .ref pa, .ref im, .ref ou, .ref ch, .ref iq])), (sh, .inr (9, [.int 0, .int 0, .int 0, .int 0, .int 0, .int 0, .ref a1, .ref a2, .ref a3, .ref a4, .ref a5, .ref a6, .ref a7, .ref a8]))] (fun (v : Option Value) (_ : Unit) => v = some (.int (-1))) (fun (_ : Unit) => []) 0 0 := by
  refine Ct.start (by decide) (Nat.le_of_ble_eq_true rfl) (fun p e s m below meth c A ls hx hb hr hlk hin hml hown hts hK hX hP hD hA hl hS => ?_)
  have hl : lv_has ls 5 [(0, .ref h0), (1, .int x1), (2, .int x2), (3, .int x3), (4, .int x4)] := hl
  refine lv_aload_n hx hb dX11_summers_0 rfl (lv_at hl 0 rfl) ?_
  refine gf_X11_51 hx hb hts hown hK hP 0 rfl rfl dX11_summers_1 ?_
  refine cV (a := sh) (As := []) (rest := []) (wr := [(h0, .inr (11, [.ref ta, .ref br, .ref rr, .ref ru, .int 0, .ref sc, .ref sh, .ref pa, .ref im, .ref ou, .ref ch, .ref iq]))]) ⟨hx, hb, hml, hown, hts⟩ hK hX hA (ct_X9_isTold l D tc sk sh a1 a2 a3 a4 a5 a6 a7 a8) k_724 k_721 k_722 k_723 k_98 pl_X9_isTold ⟨Nat.le_of_ble_eq_true rfl, Nat.le_of_ble_eq_true rfl⟩ rfl rfl (va_recv hK hP (ci := 9) (q0 := 1) rfl rfl) hP hD hS [1] [0] rfl rfl rfl rfl rfl (by decide) rfl hl.1 rfl (Nat.le_of_ble_eq_true rfl) dX11_summers_4 ⟨Nat.le_of_ble_eq_true rfl, Nat.le_of_ble_eq_true rfl⟩ (fun v_1 u_2 H locs hv_3 hP hD hS => ?_)
  obtain rfl : v_1 = some (.int 0) := hv_3
  refine W.eq (g2 := F0 m 7 ls [.int 0]) rfl ?_
  have hP : va_P D classes [(h0, .inr (11, [.ref ta, .ref br, .ref rr, .ref ru, .int 0, .ref sc, .ref sh, .ref pa, .ref im, .ref ou, .ref ch, .ref iq])), (sh, .inr (9, [.int 0, .int 0, .int 0, .int 0, .int 0, .int 0, .ref a1, .ref a2, .ref a3, .ref a4, .ref a5, .ref a6, .ref a7, .ref a8]))] H := hP
  have hD : va_D A [(h0, .inr (11, [.ref ta, .ref br, .ref rr, .ref ru, .int 0, .ref sc, .ref sh, .ref pa, .ref im, .ref ou, .ref ch, .ref iq])), (sh, .inr (9, [.int 0, .int 0, .int 0, .int 0, .int 0, .int 0, .ref a1, .ref a2, .ref a3, .ref a4, .ref a5, .ref a6, .ref a7, .ref a8]))] := hD
  refine lv_if_eq (tgt := 30) hx hb dX11_summers_7 (by decide) (fun c_4 => ?_) (fun c_4 => absurd c_4 (by decide))
  refine lv_iconst (v := (-1)) hx hb dX11_summers_30 (by decide) ?_
  exact retI (v := (-1)) hx hb hr hlk (rfl) hP hD hS () rfl [] rfl rfl dX11_summers_31 (Nat.le_of_ble_eq_true rfl) (Nat.le_of_ble_eq_true rfl) rfl
set_option maxHeartbeats 4000000 in
set_option maxRecDepth 100000 in
theorem ct_X11_fines (l : Launch) (D : va_G) (tc : Nat → ClassId) (sk : (Nat → Nat) × (Nat → Nat)) (h0 : Nat) (ta : Nat) (br : Nat) (rr : Nat) (ru : Nat) (sc : Nat) (sh : Nat) (pa : Nat) (im : Nat) (ou : Nat) (ch : Nat) (iq : Nat) (a1 : Nat) (a2 : Nat) (a3 : Nat) (a4 : Nat) (a5 : Nat) (a6 : Nat) (a7 : Nat) (a8 : Nat) (x1 : Int32) (x2 : Int32)  : Ct l yX11_fines cX11_fines 3 (some .int) { frames := 1, cells := 0, slots := 0, locals := 22 } D tc sk [.ref h0, .int x1, .int x2] [(h0, .inr (11, [.ref ta, .ref br, .ref rr, .ref ru, .int 0, .ref sc, .ref sh, .ref pa, .ref im, .ref ou, .ref ch, .ref iq])), (sh, .inr (9, [.int 0, .int 0, .int 0, .int 0, .int 0, .int 0, .ref a1, .ref a2, .ref a3, .ref a4, .ref a5, .ref a6, .ref a7, .ref a8]))] (fun (v : Option Value) (_ : Unit) => v = some (.int (-1))) (fun (_ : Unit) => []) 0 0 := by
  refine Ct.start (by decide) (Nat.le_of_ble_eq_true rfl) (fun p e s m below meth c A ls hx hb hr hlk hin hml hown hts hK hX hP hD hA hl hS => ?_)
  have hl : lv_has ls 3 [(0, .ref h0), (1, .int x1), (2, .int x2)] := hl
  refine lv_iload_n hx hb dX11_fines_0 rfl (lv_at hl 1 rfl) ?_
  refine lv_iconst (v := 0) hx hb dX11_fines_1 (by decide) ?_
  refine lv_sipush (v := 9999) hx hb dX11_fines_2 (by decide) ?_
  refine cS (As := [.int x1, .int 0, .int 9999]) (rest := []) (wr := [(h0, .inr (11, [.ref ta, .ref br, .ref rr, .ref ru, .int 0, .ref sc, .ref sh, .ref pa, .ref im, .ref ou, .ref ch, .ref iq])), (sh, .inr (9, [.int 0, .int 0, .int 0, .int 0, .int 0, .int 0, .ref a1, .ref a2, .ref a3, .ref a4, .ref a5, .ref a6, .ref a7, .ref a8]))]) ⟨hx, hb, hml, hown, hts⟩ hK hX hA (ct_X11_isWithin l D tc sk x1 0 9999) k_716 k_714 k_715 k_95 pl_X11_isWithin ⟨Nat.le_of_ble_eq_true rfl, Nat.le_of_ble_eq_true rfl⟩ rfl rfl  hP hD hS [] [0, 1] rfl rfl rfl rfl rfl (by decide) rfl hl.1 rfl (Nat.le_of_ble_eq_true rfl) dX11_fines_5 ⟨Nat.le_of_ble_eq_true rfl, Nat.le_of_ble_eq_true rfl⟩ (fun v_1 u_2 H locs hv_3 hP hD hS => ?_)
  obtain ⟨r_4, rfl, he_5⟩ := hv_3
  refine W.eq (g2 := F0 m 8 ls [.int r_4]) rfl ?_
  have hP : va_P D classes [(h0, .inr (11, [.ref ta, .ref br, .ref rr, .ref ru, .int 0, .ref sc, .ref sh, .ref pa, .ref im, .ref ou, .ref ch, .ref iq])), (sh, .inr (9, [.int 0, .int 0, .int 0, .int 0, .int 0, .int 0, .ref a1, .ref a2, .ref a3, .ref a4, .ref a5, .ref a6, .ref a7, .ref a8]))] H := hP
  have hD : va_D A [(h0, .inr (11, [.ref ta, .ref br, .ref rr, .ref ru, .int 0, .ref sc, .ref sh, .ref pa, .ref im, .ref ou, .ref ch, .ref iq])), (sh, .inr (9, [.int 0, .int 0, .int 0, .int 0, .int 0, .int 0, .ref a1, .ref a2, .ref a3, .ref a4, .ref a5, .ref a6, .ref a7, .ref a8]))] := hD
  refine lv_if_eq (tgt := 22) hx hb dX11_fines_8 (by decide) (fun c_6 => ?_) (fun c_6 => ?_)
  · skip
    refine lv_iconst (v := (-1)) hx hb dX11_fines_22 (by decide) ?_
    exact retI (v := (-1)) hx hb hr hlk (rfl) hP hD hS () rfl [] rfl rfl dX11_fines_23 (Nat.le_of_ble_eq_true rfl) (Nat.le_of_ble_eq_true rfl) rfl
  · skip
    refine lv_aload_n hx hb dX11_fines_11 rfl (lv_at hl 0 rfl) ?_
    refine gf_X11_51 hx hb hts hown hK hP 0 rfl rfl dX11_fines_12 ?_
    refine lv_iload_n hx hb dX11_fines_15 rfl (lv_at hl 2 rfl) ?_
    refine cV (a := sh) (As := [.int x2]) (rest := []) (wr := [(h0, .inr (11, [.ref ta, .ref br, .ref rr, .ref ru, .int 0, .ref sc, .ref sh, .ref pa, .ref im, .ref ou, .ref ch, .ref iq]))]) ⟨hx, hb, hml, hown, hts⟩ hK hX hA (ct_X9_hasBuyer l D tc sk sh a1 a2 a3 a4 a5 a6 a7 a8 x2) k_591 k_702 k_589 k_590 k_98 pl_X9_hasBuyer ⟨Nat.le_of_ble_eq_true rfl, Nat.le_of_ble_eq_true rfl⟩ rfl rfl (va_recv hK hP (ci := 9) (q0 := 1) rfl rfl) hP hD hS [1] [0] rfl rfl rfl rfl rfl (by decide) rfl hl.1 rfl (Nat.le_of_ble_eq_true rfl) dX11_fines_16 ⟨Nat.le_of_ble_eq_true rfl, Nat.le_of_ble_eq_true rfl⟩ (fun v_7 u_8 H locs hv_9 hP hD hS => ?_)
    obtain rfl : v_7 = some (.int 0) := hv_9
    refine W.eq (g2 := F0 m 19 ls [.int 0]) rfl ?_
    have hP : va_P D classes [(h0, .inr (11, [.ref ta, .ref br, .ref rr, .ref ru, .int 0, .ref sc, .ref sh, .ref pa, .ref im, .ref ou, .ref ch, .ref iq])), (sh, .inr (9, [.int 0, .int 0, .int 0, .int 0, .int 0, .int 0, .ref a1, .ref a2, .ref a3, .ref a4, .ref a5, .ref a6, .ref a7, .ref a8]))] H := hP
    have hD : va_D A [(h0, .inr (11, [.ref ta, .ref br, .ref rr, .ref ru, .int 0, .ref sc, .ref sh, .ref pa, .ref im, .ref ou, .ref ch, .ref iq])), (sh, .inr (9, [.int 0, .int 0, .int 0, .int 0, .int 0, .int 0, .ref a1, .ref a2, .ref a3, .ref a4, .ref a5, .ref a6, .ref a7, .ref a8]))] := hD
    refine lv_if_ne (tgt := 24) hx hb dX11_fines_19 (by decide) (fun c_10 => absurd c_10 (by decide)) (fun c_10 => ?_)
    refine lv_iconst (v := (-1)) hx hb dX11_fines_22 (by decide) ?_
    exact retI (v := (-1)) hx hb hr hlk (rfl) hP hD hS () rfl [] rfl rfl dX11_fines_23 (Nat.le_of_ble_eq_true rfl) (Nat.le_of_ble_eq_true rfl) rfl
set_option maxHeartbeats 4000000 in
set_option maxRecDepth 100000 in
theorem ct_X11_undo (l : Launch) (D : va_G) (tc : Nat → ClassId) (sk : (Nat → Nat) × (Nat → Nat)) (h0 : Nat) (ta : Nat) (br : Nat) (rr : Nat) (ru : Nat) (sc : Nat) (sh : Nat) (pa : Nat) (im : Nat) (ou : Nat) (ch : Nat) (iq : Nat) (b1 : Nat)  : Ct l yX11_undo cX11_undo 1 (some .int) { frames := 1, cells := 0, slots := 0, locals := 23 } D tc sk [.ref h0] [(h0, .inr (11, [.ref ta, .ref br, .ref rr, .ref ru, .int 0, .ref sc, .ref sh, .ref pa, .ref im, .ref ou, .ref ch, .ref iq])), (pa, .inr (5, [.ref b1, .int 0, .int 0]))] (fun (v : Option Value) (_ : Unit) => v = some (.int (-1))) (fun (_ : Unit) => []) 0 0 := by
  refine Ct.start (by decide) (Nat.le_of_ble_eq_true rfl) (fun p e s m below meth c A ls hx hb hr hlk hin hml hown hts hK hX hP hD hA hl hS => ?_)
  have hl : lv_has ls 1 [(0, .ref h0)] := hl
  refine lv_aload_n hx hb dX11_undo_0 rfl (lv_at hl 0 rfl) ?_
  refine gf_X11_57 hx hb hts hown hK hP 0 rfl rfl dX11_undo_1 ?_
  refine lv_aload_n hx hb dX11_undo_4 rfl (lv_at hl 0 rfl) ?_
  refine gf_X11_51 hx hb hts hown hK hP 0 rfl rfl dX11_undo_5 ?_
  refine cV (a := pa) (As := [.ref sh]) (rest := []) (wr := [(h0, .inr (11, [.ref ta, .ref br, .ref rr, .ref ru, .int 0, .ref sc, .ref sh, .ref pa, .ref im, .ref ou, .ref ch, .ref iq]))]) ⟨hx, hb, hml, hown, hts⟩ hK hX hA (ct_X5_giveBack l D tc sk pa b1 sh) k_805 k_802 k_803 k_804 k_102 pl_X5_giveBack ⟨Nat.le_of_ble_eq_true rfl, Nat.le_of_ble_eq_true rfl⟩ rfl rfl (va_recv hK hP (ci := 5) (q0 := 1) rfl rfl) hP hD hS [1] [0] rfl rfl rfl rfl rfl (by decide) rfl hl.1 rfl (Nat.le_of_ble_eq_true rfl) dX11_undo_8 ⟨Nat.le_of_ble_eq_true rfl, Nat.le_of_ble_eq_true rfl⟩ (fun v_1 u_2 H locs hv_3 hP hD hS => ?_)
  obtain rfl : v_1 = some (.int (-1)) := hv_3
  refine W.eq (g2 := F0 m 11 ls [.int (-1)]) rfl ?_
  have hP : va_P D classes [(h0, .inr (11, [.ref ta, .ref br, .ref rr, .ref ru, .int 0, .ref sc, .ref sh, .ref pa, .ref im, .ref ou, .ref ch, .ref iq]))] H := hP
  have hD : va_D A [(h0, .inr (11, [.ref ta, .ref br, .ref rr, .ref ru, .int 0, .ref sc, .ref sh, .ref pa, .ref im, .ref ou, .ref ch, .ref iq]))] := hD
  exact retI (v := (-1)) hx hb hr hlk (rfl) hP hD hS () rfl [] rfl rfl dX11_undo_11 (Nat.le_of_ble_eq_true rfl) (Nat.le_of_ble_eq_true rfl) rfl
def frcF (k : Int32) : Int32 := if k < -1 then -2 else if 0 ≤ k then -2 else -1
def nteF (k : Int32) : Int32 := if k = -1 then 0 else -2
def sdF (k : Int32) : Int32 := if k < 0 then -1 else 0
def endF (k : Int32) : Int32 := if k < 0 then -1 else if 0 < k then -1 else k
def cntF (k : Int32) : Int32 := if k = 0 then 0 else if k = 1 then 0 else if k = 2 then 0 else if k = 3 then 0 else if k = 4 then -1 else if k = 5 then 0 else if k = 6 then 0 else if k = 7 then 0 else if k = 8 then 0 else if k = 9 then 0 else if k = 10 then 0 else if k = 11 then 0 else if k = 12 then 0 else if k = 13 then 0 else if k = 14 then 0 else if k = 15 then 0 else -1
set_option maxHeartbeats 4000000 in
set_option maxRecDepth 100000 in
theorem ct_X11_force (l : Launch) (D : va_G) (tc : Nat → ClassId) (sk : (Nat → Nat) × (Nat → Nat)) (h0 : Nat) (ta : Nat) (br : Nat) (rr : Nat) (ru : Nat) (sc : Nat) (sh : Nat) (pa : Nat) (im : Nat) (ou : Nat) (ch : Nat) (iq : Nat) (f0 : Nat) (g0 : Nat) (x1 : Int32)  : Ct l yX11_force cX11_force 3 (some .int) { frames := 0, cells := 0, slots := 0, locals := 0 } D tc sk [.ref h0, .int x1] [(h0, .inr (11, [.ref ta, .ref br, .ref rr, .ref ru, .int 0, .ref sc, .ref sh, .ref pa, .ref im, .ref ou, .ref ch, .ref iq])), (sc, .inr (8, [.ref sh, .ref f0, .ref g0, .int (-1), .int 0]))] (fun (v : Option Value) (_ : Unit) => v = some (.int (frcF x1))) (fun (_ : Unit) => []) 0 0 := by
  refine Ct.start (by decide) (Nat.le_of_ble_eq_true rfl) (fun p e s m below meth c A ls hx hb hr hlk hin hml hown hts hK hX hP hD hA hl hS => ?_)
  have hl : lv_has ls 3 [(0, .ref h0), (1, .int x1)] := hl
  refine lv_iload_n hx hb dX11_force_0 rfl (lv_at hl 1 rfl) ?_
  refine lv_iconst (v := (-1)) hx hb dX11_force_1 (by decide) ?_
  refine lv_icmp_lt (tgt := 13) hx hb dX11_force_2 (by decide) (fun c_1 => ?_) (fun c_1 => ?_)
  · skip
    refine lv_bipush (v := (-2)) hx hb dX11_force_13 (by decide) ?_
    have hp_2 : frcF x1 = (-2) := by simp [frcF, c_1, Int32.not_le.mpr c_1]
    exact retI (v := (-2)) hx hb hr hlk (rfl) hP hD hS () (by rw [hp_2]) [] rfl rfl dX11_force_15 (Nat.le_of_ble_eq_true rfl) (Nat.le_of_ble_eq_true rfl) rfl
  · skip
    refine lv_iload_n hx hb dX11_force_5 rfl (lv_at hl 1 rfl) ?_
    refine lv_aload_n hx hb dX11_force_6 rfl (lv_at hl 0 rfl) ?_
    refine gf_X11_36 hx hb hts hown hK hP 0 rfl rfl dX11_force_7 ?_
    refine lv_icmp_lt (tgt := 16) hx hb dX11_force_10 (by decide) (fun c_3 => ?_) (fun c_3 => ?_)
    · skip
      refine lv_aload_n hx hb dX11_force_16 rfl (lv_at hl 0 rfl) ?_
      refine gf_X11_43 hx hb hts hown hK hP 0 rfl rfl dX11_force_17 ?_
      refine gf_X11_130 hx hb hts hown hK hP 1 rfl rfl dX11_force_20 ?_
      refine lv_istore_n (lv' := [(2, .int (-1)), (0, .ref h0), (1, .int x1)]) hx hb dX11_force_23 rfl hl (by decide) rfl (fun ls hl => ?_)
      refine lv_aload_n hx hb dX11_force_24 rfl (lv_at hl 1 rfl) ?_
      refine gf_X11_43 hx hb hts hown hK hP 0 rfl rfl dX11_force_25 ?_
      refine lv_iload_n hx hb dX11_force_28 rfl (lv_at hl 2 rfl) ?_
      refine pf_X11_130 hx hb hts hown hK hP hD hS 1 rfl (Nat.le_of_ble_eq_true rfl) rfl rfl dX11_force_29 (fun H locs hP hD hS => ?_)
      have hP : va_P D classes [(h0, .inr (11, [.ref ta, .ref br, .ref rr, .ref ru, .int 0, .ref sc, .ref sh, .ref pa, .ref im, .ref ou, .ref ch, .ref iq])), (sc, .inr (8, [.ref sh, .ref f0, .ref g0, .int x1, .int 0]))] H := hP
      have hD : va_D A [(h0, .inr (11, [.ref ta, .ref br, .ref rr, .ref ru, .int 0, .ref sc, .ref sh, .ref pa, .ref im, .ref ou, .ref ch, .ref iq])), (sc, .inr (8, [.ref sh, .ref f0, .ref g0, .int x1, .int 0]))] := hD
      refine lv_iload_n hx hb dX11_force_32 rfl (lv_at hl 0 rfl) ?_
      have hp_4 : frcF x1 = (-1) := by simp [frcF, c_1, Int32.not_lt.mp c_1, c_3, Int32.not_le.mpr c_3]
      exact retI (v := (-1)) hx hb hr hlk (rfl) hP hD hS () (by rw [hp_4]) [] rfl rfl dX11_force_33 (Nat.le_of_ble_eq_true rfl) (Nat.le_of_ble_eq_true rfl) rfl
    · skip
      refine lv_bipush (v := (-2)) hx hb dX11_force_13 (by decide) ?_
      have hp_5 : frcF x1 = (-2) := by simp [frcF, c_1, Int32.not_lt.mp c_1, c_3, Int32.not_lt.mp c_3]
      exact retI (v := (-2)) hx hb hr hlk (rfl) hP hD hS () (by rw [hp_5]) [] rfl rfl dX11_force_15 (Nat.le_of_ble_eq_true rfl) (Nat.le_of_ble_eq_true rfl) rfl
set_option maxHeartbeats 4000000 in
set_option maxRecDepth 100000 in
theorem ct_X11_seed (l : Launch) (D : va_G) (tc : Nat → ClassId) (sk : (Nat → Nat) × (Nat → Nat)) (h0 : Nat) (ta : Nat) (br : Nat) (rr : Nat) (ru : Nat) (sc : Nat) (sh : Nat) (pa : Nat) (im : Nat) (ou : Nat) (ch : Nat) (iq : Nat) (f0 : Nat) (g0 : Nat) (x1 : Int32)  : Ct l yX11_seed cX11_seed 3 (some .int) { frames := 0, cells := 0, slots := 0, locals := 0 } D tc sk [.ref h0, .int x1] [(h0, .inr (11, [.ref ta, .ref br, .ref rr, .ref ru, .int 0, .ref sc, .ref sh, .ref pa, .ref im, .ref ou, .ref ch, .ref iq])), (sc, .inr (8, [.ref sh, .ref f0, .ref g0, .int (-1), .int 0]))] (fun (v : Option Value) (_ : Unit) => v = some (.int (sdF x1))) (fun (_ : Unit) => []) 0 0 := by
  refine Ct.start (by decide) (Nat.le_of_ble_eq_true rfl) (fun p e s m below meth c A ls hx hb hr hlk hin hml hown hts hK hX hP hD hA hl hS => ?_)
  have hl : lv_has ls 3 [(0, .ref h0), (1, .int x1)] := hl
  refine lv_iload_n hx hb dX11_seed_0 rfl (lv_at hl 1 rfl) ?_
  refine lv_if_ge (tgt := 6) hx hb dX11_seed_1 (by decide) (fun c_1 => ?_) (fun c_1 => ?_)
  · skip
    refine lv_aload_n hx hb dX11_seed_6 rfl (lv_at hl 0 rfl) ?_
    refine gf_X11_43 hx hb hts hown hK hP 0 rfl rfl dX11_seed_7 ?_
    refine gf_X11_272 hx hb hts hown hK hP 1 rfl rfl dX11_seed_10 ?_
    refine lv_istore_n (lv' := [(2, .int 0), (0, .ref h0), (1, .int x1)]) hx hb dX11_seed_13 rfl hl (by decide) rfl (fun ls hl => ?_)
    refine lv_aload_n hx hb dX11_seed_14 rfl (lv_at hl 1 rfl) ?_
    refine gf_X11_43 hx hb hts hown hK hP 0 rfl rfl dX11_seed_15 ?_
    refine lv_iload_n hx hb dX11_seed_18 rfl (lv_at hl 2 rfl) ?_
    refine pf_X11_272 hx hb hts hown hK hP hD hS 1 rfl (Nat.le_of_ble_eq_true rfl) rfl rfl dX11_seed_19 (fun H locs hP hD hS => ?_)
    have hP : va_P D classes [(h0, .inr (11, [.ref ta, .ref br, .ref rr, .ref ru, .int 0, .ref sc, .ref sh, .ref pa, .ref im, .ref ou, .ref ch, .ref iq])), (sc, .inr (8, [.ref sh, .ref f0, .ref g0, .int (-1), .int x1]))] H := hP
    have hD : va_D A [(h0, .inr (11, [.ref ta, .ref br, .ref rr, .ref ru, .int 0, .ref sc, .ref sh, .ref pa, .ref im, .ref ou, .ref ch, .ref iq])), (sc, .inr (8, [.ref sh, .ref f0, .ref g0, .int (-1), .int x1]))] := hD
    refine lv_iload_n hx hb dX11_seed_22 rfl (lv_at hl 0 rfl) ?_
    have hp_2 : sdF x1 = 0 := by simp [sdF, c_1, Int32.not_lt.mpr c_1]
    exact retI (v := 0) hx hb hr hlk (rfl) hP hD hS () (by rw [hp_2]) [] rfl rfl dX11_seed_23 (Nat.le_of_ble_eq_true rfl) (Nat.le_of_ble_eq_true rfl) rfl
  · skip
    refine lv_iconst (v := (-1)) hx hb dX11_seed_4 (by decide) ?_
    have hp_3 : sdF x1 = (-1) := by simp [sdF, c_1, Int32.not_le.mp c_1]
    exact retI (v := (-1)) hx hb hr hlk (rfl) hP hD hS () (by rw [hp_3]) [] rfl rfl dX11_seed_5 (Nat.le_of_ble_eq_true rfl) (Nat.le_of_ble_eq_true rfl) rfl
set_option maxHeartbeats 4000000 in
set_option maxRecDepth 100000 in
theorem ct_X11_end (l : Launch) (D : va_G) (tc : Nat → ClassId) (sk : (Nat → Nat) × (Nat → Nat)) (h0 : Nat) (ta : Nat) (br : Nat) (rr : Nat) (ru : Nat) (sc : Nat) (sh : Nat) (pa : Nat) (im : Nat) (ou : Nat) (ch : Nat) (iq : Nat) (t1 : Nat) (x1 : Int32)  : Ct l yX11_end cX11_end 2 (some .int) { frames := 0, cells := 0, slots := 0, locals := 0 } D tc sk [.ref h0, .int x1] [(h0, .inr (11, [.ref ta, .ref br, .ref rr, .ref ru, .int 0, .ref sc, .ref sh, .ref pa, .ref im, .ref ou, .ref ch, .ref iq])), (ta, .inr (10, [.ref t1, .int 0, .int 0, .int 0, .int (-1), .int 0]))] (fun (v : Option Value) (_ : Unit) => v = some (.int (endF x1))) (fun (_ : Unit) => []) 0 0 := by
  refine Ct.start (by decide) (Nat.le_of_ble_eq_true rfl) (fun p e s m below meth c A ls hx hb hr hlk hin hml hown hts hK hX hP hD hA hl hS => ?_)
  have hl : lv_has ls 2 [(0, .ref h0), (1, .int x1)] := hl
  refine lv_iload_n hx hb dX11_end_0 rfl (lv_at hl 1 rfl) ?_
  refine lv_if_lt (tgt := 15) hx hb dX11_end_1 (by decide) (fun c_1 => ?_) (fun c_1 => ?_)
  · skip
    refine lv_iconst (v := (-1)) hx hb dX11_end_15 (by decide) ?_
    have hp_2 : endF x1 = (-1) := by simp [endF, c_1, Int32.not_le.mpr c_1]
    exact retI (v := (-1)) hx hb hr hlk (rfl) hP hD hS () (by rw [hp_2]) [] rfl rfl dX11_end_16 (Nat.le_of_ble_eq_true rfl) (Nat.le_of_ble_eq_true rfl) rfl
  · skip
    refine lv_iload_n hx hb dX11_end_4 rfl (lv_at hl 1 rfl) ?_
    refine lv_aload_n hx hb dX11_end_5 rfl (lv_at hl 0 rfl) ?_
    refine gf_X11_10 hx hb hts hown hK hP 0 rfl rfl dX11_end_6 ?_
    refine gf_X11_94 hx hb hts hown hK hP 1 rfl rfl dX11_end_9 ?_
    refine lv_icmp_le (tgt := 17) hx hb dX11_end_12 (by decide) (fun c_3 => ?_) (fun c_3 => ?_)
    · skip
      refine lv_aload_n hx hb dX11_end_17 rfl (lv_at hl 0 rfl) ?_
      refine gf_X11_10 hx hb hts hown hK hP 0 rfl rfl dX11_end_18 ?_
      refine lv_iload_n hx hb dX11_end_21 rfl (lv_at hl 1 rfl) ?_
      refine pf_X11_94 hx hb hts hown hK hP hD hS 1 rfl (Nat.le_of_ble_eq_true rfl) rfl rfl dX11_end_22 (fun H locs hP hD hS => ?_)
      have hP : va_P D classes [(h0, .inr (11, [.ref ta, .ref br, .ref rr, .ref ru, .int 0, .ref sc, .ref sh, .ref pa, .ref im, .ref ou, .ref ch, .ref iq])), (ta, .inr (10, [.ref t1, .int x1, .int 0, .int 0, .int (-1), .int 0]))] H := hP
      have hD : va_D A [(h0, .inr (11, [.ref ta, .ref br, .ref rr, .ref ru, .int 0, .ref sc, .ref sh, .ref pa, .ref im, .ref ou, .ref ch, .ref iq])), (ta, .inr (10, [.ref t1, .int x1, .int 0, .int 0, .int (-1), .int 0]))] := hD
      refine lv_iload_n hx hb dX11_end_25 rfl (lv_at hl 1 rfl) ?_
      have hp_4 : endF x1 = x1 := by simp [endF, c_1, Int32.not_lt.mp c_1, c_3, Int32.not_lt.mpr c_3]
      exact retI (v := x1) hx hb hr hlk (rfl) hP hD hS () (by rw [hp_4]) [] rfl rfl dX11_end_26 (Nat.le_of_ble_eq_true rfl) (Nat.le_of_ble_eq_true rfl) rfl
    · skip
      refine lv_iconst (v := (-1)) hx hb dX11_end_15 (by decide) ?_
      have hp_5 : endF x1 = (-1) := by simp [endF, c_1, Int32.not_lt.mp c_1, c_3, Int32.not_le.mp c_3]
      exact retI (v := (-1)) hx hb hr hlk (rfl) hP hD hS () (by rw [hp_5]) [] rfl rfl dX11_end_16 (Nat.le_of_ble_eq_true rfl) (Nat.le_of_ble_eq_true rfl) rfl
set_option maxHeartbeats 4000000 in
set_option maxRecDepth 100000 in
theorem ct_X11_note (l : Launch) (D : va_G) (tc : Nat → ClassId) (sk : (Nat → Nat) × (Nat → Nat)) (h0 : Nat) (ta : Nat) (br : Nat) (rr : Nat) (ru : Nat) (sc : Nat) (sh : Nat) (pa : Nat) (im : Nat) (ou : Nat) (ch : Nat) (iq : Nat) (f0 : Nat) (g0 : Nat) (g1 : Nat) (g2 : Nat) (g3 : Nat) (a1 : Nat) (a2 : Nat) (a3 : Nat) (a4 : Nat) (a5 : Nat) (a6 : Nat) (a7 : Nat) (a8 : Nat) (x1 : Int32) (x2 : Int32) (x3 : Int32)  : Ct l yX11_note cX11_note 4 (some .int) { frames := 1, cells := 0, slots := 0, locals := 22 } D tc sk [.ref h0, .int x1, .int x2, .int x3] [(h0, .inr (11, [.ref ta, .ref br, .ref rr, .ref ru, .int 0, .ref sc, .ref sh, .ref pa, .ref im, .ref ou, .ref ch, .ref iq])), (sc, .inr (8, [.ref sh, .ref f0, .ref g0, .int (-1), .int 0])), (g0, .inr (3, [.ref g1, .ref g2, .ref g3, .int 0])), (sh, .inr (9, [.int 0, .int 0, .int 0, .int 0, .int 0, .int 0, .ref a1, .ref a2, .ref a3, .ref a4, .ref a5, .ref a6, .ref a7, .ref a8]))] (fun (v : Option Value) (_ : Unit) => v = some (.int (nteF x1))) (fun (_ : Unit) => []) 0 0 := by
  refine Ct.start (by decide) (Nat.le_of_ble_eq_true rfl) (fun p e s m below meth c A ls hx hb hr hlk hin hml hown hts hK hX hP hD hA hl hS => ?_)
  have hl : lv_has ls 4 [(0, .ref h0), (1, .int x1), (2, .int x2), (3, .int x3)] := hl
  refine lv_iload_n hx hb dX11_note_0 rfl (lv_at hl 1 rfl) ?_
  refine lv_iconst (v := (-1)) hx hb dX11_note_1 (by decide) ?_
  refine lv_icmp_ne (tgt := 18) hx hb dX11_note_2 (by decide) (fun c_1 => ?_) (fun c_1 => ?_)
  · skip
    refine lv_iload_n hx hb dX11_note_18 rfl (lv_at hl 1 rfl) ?_
    refine lv_iconst (v := 0) hx hb dX11_note_19 (by decide) ?_
    refine lv_bipush (v := 60) hx hb dX11_note_20 (by decide) ?_
    refine cS (As := [.int x1, .int 0, .int 60]) (rest := []) (wr := [(h0, .inr (11, [.ref ta, .ref br, .ref rr, .ref ru, .int 0, .ref sc, .ref sh, .ref pa, .ref im, .ref ou, .ref ch, .ref iq])), (sc, .inr (8, [.ref sh, .ref f0, .ref g0, .int (-1), .int 0])), (g0, .inr (3, [.ref g1, .ref g2, .ref g3, .int 0])), (sh, .inr (9, [.int 0, .int 0, .int 0, .int 0, .int 0, .int 0, .ref a1, .ref a2, .ref a3, .ref a4, .ref a5, .ref a6, .ref a7, .ref a8]))]) ⟨hx, hb, hml, hown, hts⟩ hK hX hA (ct_X11_isWithin l D tc sk x1 0 60) k_716 k_714 k_715 k_95 pl_X11_isWithin ⟨Nat.le_of_ble_eq_true rfl, Nat.le_of_ble_eq_true rfl⟩ rfl rfl  hP hD hS [] [0, 1, 2, 3] rfl rfl rfl rfl rfl (by decide) rfl hl.1 rfl (Nat.le_of_ble_eq_true rfl) dX11_note_22 ⟨Nat.le_of_ble_eq_true rfl, Nat.le_of_ble_eq_true rfl⟩ (fun v_2 u_3 H locs hv_4 hP hD hS => ?_)
    obtain ⟨r_5, rfl, he_6⟩ := hv_4
    refine W.eq (g2 := F0 m 25 ls [.int r_5]) rfl ?_
    have hP : va_P D classes [(h0, .inr (11, [.ref ta, .ref br, .ref rr, .ref ru, .int 0, .ref sc, .ref sh, .ref pa, .ref im, .ref ou, .ref ch, .ref iq])), (sc, .inr (8, [.ref sh, .ref f0, .ref g0, .int (-1), .int 0])), (g0, .inr (3, [.ref g1, .ref g2, .ref g3, .int 0])), (sh, .inr (9, [.int 0, .int 0, .int 0, .int 0, .int 0, .int 0, .ref a1, .ref a2, .ref a3, .ref a4, .ref a5, .ref a6, .ref a7, .ref a8]))] H := hP
    have hD : va_D A [(h0, .inr (11, [.ref ta, .ref br, .ref rr, .ref ru, .int 0, .ref sc, .ref sh, .ref pa, .ref im, .ref ou, .ref ch, .ref iq])), (sc, .inr (8, [.ref sh, .ref f0, .ref g0, .int (-1), .int 0])), (g0, .inr (3, [.ref g1, .ref g2, .ref g3, .int 0])), (sh, .inr (9, [.int 0, .int 0, .int 0, .int 0, .int 0, .int 0, .ref a1, .ref a2, .ref a3, .ref a4, .ref a5, .ref a6, .ref a7, .ref a8]))] := hD
    refine lv_if_eq (tgt := 48) hx hb dX11_note_25 (by decide) (fun c_7 => ?_) (fun c_7 => ?_)
    · skip
      refine lv_bipush (v := (-2)) hx hb dX11_note_48 (by decide) ?_
      have hp_8 : nteF x1 = (-2) := by simp [nteF, c_1, c_7]
      exact retI (v := (-2)) hx hb hr hlk (rfl) hP hD hS () (by rw [hp_8]) [] rfl rfl dX11_note_50 (Nat.le_of_ble_eq_true rfl) (Nat.le_of_ble_eq_true rfl) rfl
    · skip
      refine lv_aload_n hx hb dX11_note_28 rfl (lv_at hl 0 rfl) ?_
      refine gf_X11_51 hx hb hts hown hK hP 0 rfl rfl dX11_note_29 ?_
      refine lv_iload_n hx hb dX11_note_32 rfl (lv_at hl 2 rfl) ?_
      refine cV (a := sh) (As := [.int x2]) (rest := []) (wr := [(h0, .inr (11, [.ref ta, .ref br, .ref rr, .ref ru, .int 0, .ref sc, .ref sh, .ref pa, .ref im, .ref ou, .ref ch, .ref iq])), (sc, .inr (8, [.ref sh, .ref f0, .ref g0, .int (-1), .int 0])), (g0, .inr (3, [.ref g1, .ref g2, .ref g3, .int 0]))]) ⟨hx, hb, hml, hown, hts⟩ hK hX hA (ct_X9_hasBuyer l D tc sk sh a1 a2 a3 a4 a5 a6 a7 a8 x2) k_591 k_702 k_589 k_590 k_98 pl_X9_hasBuyer ⟨Nat.le_of_ble_eq_true rfl, Nat.le_of_ble_eq_true rfl⟩ rfl rfl (va_recv hK hP (ci := 9) (q0 := 3) rfl rfl) hP hD hS [3] [0, 1, 2] rfl rfl rfl rfl rfl (by decide) rfl hl.1 rfl (Nat.le_of_ble_eq_true rfl) dX11_note_33 ⟨Nat.le_of_ble_eq_true rfl, Nat.le_of_ble_eq_true rfl⟩ (fun v_9 u_10 H locs hv_11 hP hD hS => ?_)
      obtain rfl : v_9 = some (.int 0) := hv_11
      refine W.eq (g2 := F0 m 36 ls [.int 0]) rfl ?_
      have hP : va_P D classes [(h0, .inr (11, [.ref ta, .ref br, .ref rr, .ref ru, .int 0, .ref sc, .ref sh, .ref pa, .ref im, .ref ou, .ref ch, .ref iq])), (sc, .inr (8, [.ref sh, .ref f0, .ref g0, .int (-1), .int 0])), (g0, .inr (3, [.ref g1, .ref g2, .ref g3, .int 0])), (sh, .inr (9, [.int 0, .int 0, .int 0, .int 0, .int 0, .int 0, .ref a1, .ref a2, .ref a3, .ref a4, .ref a5, .ref a6, .ref a7, .ref a8]))] H := hP
      have hD : va_D A [(h0, .inr (11, [.ref ta, .ref br, .ref rr, .ref ru, .int 0, .ref sc, .ref sh, .ref pa, .ref im, .ref ou, .ref ch, .ref iq])), (sc, .inr (8, [.ref sh, .ref f0, .ref g0, .int (-1), .int 0])), (g0, .inr (3, [.ref g1, .ref g2, .ref g3, .int 0])), (sh, .inr (9, [.int 0, .int 0, .int 0, .int 0, .int 0, .int 0, .ref a1, .ref a2, .ref a3, .ref a4, .ref a5, .ref a6, .ref a7, .ref a8]))] := hD
      refine lv_if_eq (tgt := 48) hx hb dX11_note_36 (by decide) (fun c_12 => ?_) (fun c_12 => absurd c_12 (by decide))
      refine lv_bipush (v := (-2)) hx hb dX11_note_48 (by decide) ?_
      have hp_13 : nteF x1 = (-2) := by simp [nteF, c_1, c_7]
      exact retI (v := (-2)) hx hb hr hlk (rfl) hP hD hS () (by rw [hp_13]) [] rfl rfl dX11_note_50 (Nat.le_of_ble_eq_true rfl) (Nat.le_of_ble_eq_true rfl) rfl
  · skip
    refine lv_aload_n hx hb dX11_note_5 rfl (lv_at hl 0 rfl) ?_
    refine gf_X11_43 hx hb hts hown hK hP 0 rfl rfl dX11_note_6 ?_
    refine gf_X11_111 hx hb hts hown hK hP 1 rfl rfl dX11_note_9 ?_
    refine lv_iconst (v := 0) hx hb dX11_note_12 (by decide) ?_
    refine pf_X11_115 hx hb hts hown hK hP hD hS 2 rfl (Nat.le_of_ble_eq_true rfl) rfl rfl dX11_note_13 (fun H locs hP hD hS => ?_)
    have hP : va_P D classes [(h0, .inr (11, [.ref ta, .ref br, .ref rr, .ref ru, .int 0, .ref sc, .ref sh, .ref pa, .ref im, .ref ou, .ref ch, .ref iq])), (sc, .inr (8, [.ref sh, .ref f0, .ref g0, .int (-1), .int 0])), (g0, .inr (3, [.ref g1, .ref g2, .ref g3, .int 0])), (sh, .inr (9, [.int 0, .int 0, .int 0, .int 0, .int 0, .int 0, .ref a1, .ref a2, .ref a3, .ref a4, .ref a5, .ref a6, .ref a7, .ref a8]))] H := hP
    have hD : va_D A [(h0, .inr (11, [.ref ta, .ref br, .ref rr, .ref ru, .int 0, .ref sc, .ref sh, .ref pa, .ref im, .ref ou, .ref ch, .ref iq])), (sc, .inr (8, [.ref sh, .ref f0, .ref g0, .int (-1), .int 0])), (g0, .inr (3, [.ref g1, .ref g2, .ref g3, .int 0])), (sh, .inr (9, [.int 0, .int 0, .int 0, .int 0, .int 0, .int 0, .ref a1, .ref a2, .ref a3, .ref a4, .ref a5, .ref a6, .ref a7, .ref a8]))] := hD
    refine lv_iconst (v := 0) hx hb dX11_note_16 (by decide) ?_
    have hp_14 : nteF x1 = 0 := by simp [nteF, c_1]
    exact retI (v := 0) hx hb hr hlk (rfl) hP hD hS () (by rw [hp_14]) [] rfl rfl dX11_note_17 (Nat.le_of_ble_eq_true rfl) (Nat.le_of_ble_eq_true rfl) rfl
set_option maxHeartbeats 4000000 in
set_option maxRecDepth 100000 in
theorem ct_X11_count (l : Launch) (D : va_G) (tc : Nat → ClassId) (sk : (Nat → Nat) × (Nat → Nat)) (h0 : Nat) (ta : Nat) (br : Nat) (rr : Nat) (ru : Nat) (sc : Nat) (sh : Nat) (pa : Nat) (im : Nat) (ou : Nat) (ch : Nat) (iq : Nat) (f0 : Nat) (g0 : Nat) (g1 : Nat) (g2 : Nat) (g3 : Nat) (b1 : Nat) (t1 : Nat) (a1 : Nat) (a2 : Nat) (a3 : Nat) (a4 : Nat) (a5 : Nat) (a6 : Nat) (a7 : Nat) (a8 : Nat) (x1 : Int32)  : Ct l yX11_count cX11_count 2 (some .int) { frames := 1, cells := 0, slots := 0, locals := 22 } D tc sk [.ref h0, .int x1] [(h0, .inr (11, [.ref ta, .ref br, .ref rr, .ref ru, .int 0, .ref sc, .ref sh, .ref pa, .ref im, .ref ou, .ref ch, .ref iq])), (sc, .inr (8, [.ref sh, .ref f0, .ref g0, .int (-1), .int 0])), (g0, .inr (3, [.ref g1, .ref g2, .ref g3, .int 0])), (sh, .inr (9, [.int 0, .int 0, .int 0, .int 0, .int 0, .int 0, .ref a1, .ref a2, .ref a3, .ref a4, .ref a5, .ref a6, .ref a7, .ref a8])), (pa, .inr (5, [.ref b1, .int 0, .int 0])), (ta, .inr (10, [.ref t1, .int 0, .int 0, .int 0, .int (-1), .int 0]))] (fun (v : Option Value) (_ : Unit) => v = some (.int (cntF x1))) (fun (_ : Unit) => []) 0 0 := by
  refine Ct.start (by decide) (Nat.le_of_ble_eq_true rfl) (fun p e s m below meth c A ls hx hb hr hlk hin hml hown hts hK hX hP hD hA hl hS => ?_)
  have hl : lv_has ls 2 [(0, .ref h0), (1, .int x1)] := hl
  refine lv_iload_n hx hb dX11_count_0 rfl (lv_at hl 1 rfl) ?_
  by_cases c_1 : x1 = 0
  · skip
    subst c_1
    refine lv_tableIn (off := 79) (tgt := 80) hx hb dX11_count_1 (by decide) (by decide) (by decide) (by decide) ?_
    refine lv_aload_n hx hb dX11_count_80 rfl (lv_at hl 0 rfl) ?_
    refine gf_X11_51 hx hb hts hown hK hP 0 rfl rfl dX11_count_81 ?_
    refine gf_X11_282 hx hb hts hown hK hP 3 rfl rfl dX11_count_84 ?_
    have hp_2 : cntF 0 = 0 := by decide
    exact retI (v := 0) hx hb hr hlk (rfl) hP hD hS () (by rw [hp_2]) [] rfl rfl dX11_count_87 (Nat.le_of_ble_eq_true rfl) (Nat.le_of_ble_eq_true rfl) rfl
  · skip
    by_cases c_3 : x1 = 1
    · skip
      subst c_3
      refine lv_tableIn (off := 87) (tgt := 88) hx hb dX11_count_1 (by decide) (by decide) (by decide) (by decide) ?_
      refine lv_aload_n hx hb dX11_count_88 rfl (lv_at hl 0 rfl) ?_
      refine gf_X11_51 hx hb hts hown hK hP 0 rfl rfl dX11_count_89 ?_
      refine gf_X11_285 hx hb hts hown hK hP 3 rfl rfl dX11_count_92 ?_
      have hp_4 : cntF 1 = 0 := by decide
      exact retI (v := 0) hx hb hr hlk (rfl) hP hD hS () (by rw [hp_4]) [] rfl rfl dX11_count_95 (Nat.le_of_ble_eq_true rfl) (Nat.le_of_ble_eq_true rfl) rfl
    · skip
      by_cases c_5 : x1 = 2
      · skip
        subst c_5
        refine lv_tableIn (off := 95) (tgt := 96) hx hb dX11_count_1 (by decide) (by decide) (by decide) (by decide) ?_
        refine lv_aload_n hx hb dX11_count_96 rfl (lv_at hl 0 rfl) ?_
        refine gf_X11_51 hx hb hts hown hK hP 0 rfl rfl dX11_count_97 ?_
        refine gf_X11_121 hx hb hts hown hK hP 3 rfl rfl dX11_count_100 ?_
        have hp_6 : cntF 2 = 0 := by decide
        exact retI (v := 0) hx hb hr hlk (rfl) hP hD hS () (by rw [hp_6]) [] rfl rfl dX11_count_103 (Nat.le_of_ble_eq_true rfl) (Nat.le_of_ble_eq_true rfl) rfl
      · skip
        by_cases c_7 : x1 = 3
        · skip
          subst c_7
          refine lv_tableIn (off := 103) (tgt := 104) hx hb dX11_count_1 (by decide) (by decide) (by decide) (by decide) ?_
          refine lv_aload_n hx hb dX11_count_104 rfl (lv_at hl 0 rfl) ?_
          refine gf_X11_36 hx hb hts hown hK hP 0 rfl rfl dX11_count_105 ?_
          have hp_8 : cntF 3 = 0 := by decide
          exact retI (v := 0) hx hb hr hlk (rfl) hP hD hS () (by rw [hp_8]) [] rfl rfl dX11_count_108 (Nat.le_of_ble_eq_true rfl) (Nat.le_of_ble_eq_true rfl) rfl
        · skip
          by_cases c_9 : x1 = 4
          · skip
            subst c_9
            refine lv_tableIn (off := 108) (tgt := 109) hx hb dX11_count_1 (by decide) (by decide) (by decide) (by decide) ?_
            refine lv_aload_n hx hb dX11_count_109 rfl (lv_at hl 0 rfl) ?_
            refine gf_X11_43 hx hb hts hown hK hP 0 rfl rfl dX11_count_110 ?_
            refine gf_X11_130 hx hb hts hown hK hP 1 rfl rfl dX11_count_113 ?_
            have hp_10 : cntF 4 = (-1) := by decide
            exact retI (v := (-1)) hx hb hr hlk (rfl) hP hD hS () (by rw [hp_10]) [] rfl rfl dX11_count_116 (Nat.le_of_ble_eq_true rfl) (Nat.le_of_ble_eq_true rfl) rfl
          · skip
            by_cases c_11 : x1 = 5
            · skip
              subst c_11
              refine lv_tableIn (off := 116) (tgt := 117) hx hb dX11_count_1 (by decide) (by decide) (by decide) (by decide) ?_
              refine lv_aload_n hx hb dX11_count_117 rfl (lv_at hl 0 rfl) ?_
              refine gf_X11_51 hx hb hts hown hK hP 0 rfl rfl dX11_count_118 ?_
              refine gf_X11_179 hx hb hts hown hK hP 3 rfl rfl dX11_count_121 ?_
              have hp_12 : cntF 5 = 0 := by decide
              exact retI (v := 0) hx hb hr hlk (rfl) hP hD hS () (by rw [hp_12]) [] rfl rfl dX11_count_124 (Nat.le_of_ble_eq_true rfl) (Nat.le_of_ble_eq_true rfl) rfl
            · skip
              by_cases c_13 : x1 = 6
              · skip
                subst c_13
                refine lv_tableIn (off := 124) (tgt := 125) hx hb dX11_count_1 (by decide) (by decide) (by decide) (by decide) ?_
                refine lv_aload_n hx hb dX11_count_125 rfl (lv_at hl 0 rfl) ?_
                refine gf_X11_51 hx hb hts hown hK hP 0 rfl rfl dX11_count_126 ?_
                refine lv_aload_n hx hb dX11_count_129 rfl (lv_at hl 0 rfl) ?_
                refine gf_X11_51 hx hb hts hown hK hP 0 rfl rfl dX11_count_130 ?_
                refine gf_X11_179 hx hb hts hown hK hP 3 rfl rfl dX11_count_133 ?_
                refine cV (a := sh) (As := [.int 0]) (rest := []) (wr := [(h0, .inr (11, [.ref ta, .ref br, .ref rr, .ref ru, .int 0, .ref sc, .ref sh, .ref pa, .ref im, .ref ou, .ref ch, .ref iq])), (sc, .inr (8, [.ref sh, .ref f0, .ref g0, .int (-1), .int 0])), (g0, .inr (3, [.ref g1, .ref g2, .ref g3, .int 0])), (pa, .inr (5, [.ref b1, .int 0, .int 0])), (ta, .inr (10, [.ref t1, .int 0, .int 0, .int 0, .int (-1), .int 0]))]) ⟨hx, hb, hml, hown, hts⟩ hK hX hA (ct_X9_clockOn l D tc sk sh a1 a2 a3 a4 a5 a6 a7 a8) k_747 k_1041 k_745 k_746 k_98 pl_X9_clockOn ⟨Nat.le_of_ble_eq_true rfl, Nat.le_of_ble_eq_true rfl⟩ rfl rfl (va_recv hK hP (ci := 9) (q0 := 3) rfl rfl) hP hD hS [3] [0, 1, 2, 4, 5] rfl rfl rfl rfl rfl (by decide) rfl hl.1 rfl (Nat.le_of_ble_eq_true rfl) dX11_count_136 ⟨Nat.le_of_ble_eq_true rfl, Nat.le_of_ble_eq_true rfl⟩ (fun v_14 u_15 H locs hv_16 hP hD hS => ?_)
                obtain rfl : v_14 = some (.int 0) := hv_16
                refine W.eq (g2 := F0 m 139 ls [.int 0]) rfl ?_
                have hP : va_P D classes [(h0, .inr (11, [.ref ta, .ref br, .ref rr, .ref ru, .int 0, .ref sc, .ref sh, .ref pa, .ref im, .ref ou, .ref ch, .ref iq])), (sc, .inr (8, [.ref sh, .ref f0, .ref g0, .int (-1), .int 0])), (g0, .inr (3, [.ref g1, .ref g2, .ref g3, .int 0])), (pa, .inr (5, [.ref b1, .int 0, .int 0])), (ta, .inr (10, [.ref t1, .int 0, .int 0, .int 0, .int (-1), .int 0])), (sh, .inr (9, [.int 0, .int 0, .int 0, .int 0, .int 0, .int 0, .ref a1, .ref a2, .ref a3, .ref a4, .ref a5, .ref a6, .ref a7, .ref a8]))] H := hP
                have hD : va_D A [(h0, .inr (11, [.ref ta, .ref br, .ref rr, .ref ru, .int 0, .ref sc, .ref sh, .ref pa, .ref im, .ref ou, .ref ch, .ref iq])), (sc, .inr (8, [.ref sh, .ref f0, .ref g0, .int (-1), .int 0])), (g0, .inr (3, [.ref g1, .ref g2, .ref g3, .int 0])), (pa, .inr (5, [.ref b1, .int 0, .int 0])), (ta, .inr (10, [.ref t1, .int 0, .int 0, .int 0, .int (-1), .int 0])), (sh, .inr (9, [.int 0, .int 0, .int 0, .int 0, .int 0, .int 0, .ref a1, .ref a2, .ref a3, .ref a4, .ref a5, .ref a6, .ref a7, .ref a8]))] := hD
                have hp_17 : cntF 6 = 0 := by decide
                exact retI (v := 0) hx hb hr hlk (rfl) hP hD hS () (by rw [hp_17]) [] rfl rfl dX11_count_139 (Nat.le_of_ble_eq_true rfl) (Nat.le_of_ble_eq_true rfl) rfl
              · skip
                by_cases c_18 : x1 = 7
                · skip
                  subst c_18
                  refine lv_tableIn (off := 139) (tgt := 140) hx hb dX11_count_1 (by decide) (by decide) (by decide) (by decide) ?_
                  refine lv_aload_n hx hb dX11_count_140 rfl (lv_at hl 0 rfl) ?_
                  refine gf_X11_51 hx hb hts hown hK hP 0 rfl rfl dX11_count_141 ?_
                  refine gf_X11_193 hx hb hts hown hK hP 3 rfl rfl dX11_count_144 ?_
                  have hp_19 : cntF 7 = 0 := by decide
                  exact retI (v := 0) hx hb hr hlk (rfl) hP hD hS () (by rw [hp_19]) [] rfl rfl dX11_count_147 (Nat.le_of_ble_eq_true rfl) (Nat.le_of_ble_eq_true rfl) rfl
                · skip
                  by_cases c_20 : x1 = 8
                  · skip
                    subst c_20
                    refine lv_tableIn (off := 147) (tgt := 148) hx hb dX11_count_1 (by decide) (by decide) (by decide) (by decide) ?_
                    refine lv_aload_n hx hb dX11_count_148 rfl (lv_at hl 0 rfl) ?_
                    refine gf_X11_51 hx hb hts hown hK hP 0 rfl rfl dX11_count_149 ?_
                    refine lv_aload_n hx hb dX11_count_152 rfl (lv_at hl 0 rfl) ?_
                    refine gf_X11_51 hx hb hts hown hK hP 0 rfl rfl dX11_count_153 ?_
                    refine gf_X11_179 hx hb hts hown hK hP 3 rfl rfl dX11_count_156 ?_
                    refine cV (a := sh) (As := [.int 0]) (rest := []) (wr := [(h0, .inr (11, [.ref ta, .ref br, .ref rr, .ref ru, .int 0, .ref sc, .ref sh, .ref pa, .ref im, .ref ou, .ref ch, .ref iq])), (sc, .inr (8, [.ref sh, .ref f0, .ref g0, .int (-1), .int 0])), (g0, .inr (3, [.ref g1, .ref g2, .ref g3, .int 0])), (pa, .inr (5, [.ref b1, .int 0, .int 0])), (ta, .inr (10, [.ref t1, .int 0, .int 0, .int 0, .int (-1), .int 0]))]) ⟨hx, hb, hml, hown, hts⟩ hK hX hA (ct_X9_stillOn l D tc sk sh a1 a2 a3 a4 a5 a6 a7 a8) k_743 k_1042 k_741 k_742 k_98 pl_X9_stillOn ⟨Nat.le_of_ble_eq_true rfl, Nat.le_of_ble_eq_true rfl⟩ rfl rfl (va_recv hK hP (ci := 9) (q0 := 3) rfl rfl) hP hD hS [3] [0, 1, 2, 4, 5] rfl rfl rfl rfl rfl (by decide) rfl hl.1 rfl (Nat.le_of_ble_eq_true rfl) dX11_count_159 ⟨Nat.le_of_ble_eq_true rfl, Nat.le_of_ble_eq_true rfl⟩ (fun v_21 u_22 H locs hv_23 hP hD hS => ?_)
                    obtain rfl : v_21 = some (.int 0) := hv_23
                    refine W.eq (g2 := F0 m 162 ls [.int 0]) rfl ?_
                    have hP : va_P D classes [(h0, .inr (11, [.ref ta, .ref br, .ref rr, .ref ru, .int 0, .ref sc, .ref sh, .ref pa, .ref im, .ref ou, .ref ch, .ref iq])), (sc, .inr (8, [.ref sh, .ref f0, .ref g0, .int (-1), .int 0])), (g0, .inr (3, [.ref g1, .ref g2, .ref g3, .int 0])), (pa, .inr (5, [.ref b1, .int 0, .int 0])), (ta, .inr (10, [.ref t1, .int 0, .int 0, .int 0, .int (-1), .int 0])), (sh, .inr (9, [.int 0, .int 0, .int 0, .int 0, .int 0, .int 0, .ref a1, .ref a2, .ref a3, .ref a4, .ref a5, .ref a6, .ref a7, .ref a8]))] H := hP
                    have hD : va_D A [(h0, .inr (11, [.ref ta, .ref br, .ref rr, .ref ru, .int 0, .ref sc, .ref sh, .ref pa, .ref im, .ref ou, .ref ch, .ref iq])), (sc, .inr (8, [.ref sh, .ref f0, .ref g0, .int (-1), .int 0])), (g0, .inr (3, [.ref g1, .ref g2, .ref g3, .int 0])), (pa, .inr (5, [.ref b1, .int 0, .int 0])), (ta, .inr (10, [.ref t1, .int 0, .int 0, .int 0, .int (-1), .int 0])), (sh, .inr (9, [.int 0, .int 0, .int 0, .int 0, .int 0, .int 0, .ref a1, .ref a2, .ref a3, .ref a4, .ref a5, .ref a6, .ref a7, .ref a8]))] := hD
                    have hp_24 : cntF 8 = 0 := by decide
                    exact retI (v := 0) hx hb hr hlk (rfl) hP hD hS () (by rw [hp_24]) [] rfl rfl dX11_count_162 (Nat.le_of_ble_eq_true rfl) (Nat.le_of_ble_eq_true rfl) rfl
                  · skip
                    by_cases c_25 : x1 = 9
                    · skip
                      subst c_25
                      refine lv_tableIn (off := 162) (tgt := 163) hx hb dX11_count_1 (by decide) (by decide) (by decide) (by decide) ?_
                      refine lv_aload_n hx hb dX11_count_163 rfl (lv_at hl 0 rfl) ?_
                      refine gf_X11_51 hx hb hts hown hK hP 0 rfl rfl dX11_count_164 ?_
                      refine gf_X11_294 hx hb hts hown hK hP 3 rfl rfl dX11_count_167 ?_
                      have hp_26 : cntF 9 = 0 := by decide
                      exact retI (v := 0) hx hb hr hlk (rfl) hP hD hS () (by rw [hp_26]) [] rfl rfl dX11_count_170 (Nat.le_of_ble_eq_true rfl) (Nat.le_of_ble_eq_true rfl) rfl
                    · skip
                      by_cases c_27 : x1 = 10
                      · skip
                        subst c_27
                        refine lv_tableIn (off := 170) (tgt := 171) hx hb dX11_count_1 (by decide) (by decide) (by decide) (by decide) ?_
                        refine lv_aload_n hx hb dX11_count_171 rfl (lv_at hl 0 rfl) ?_
                        refine gf_X11_51 hx hb hts hown hK hP 0 rfl rfl dX11_count_172 ?_
                        refine cV (a := sh) (As := []) (rest := []) (wr := [(h0, .inr (11, [.ref ta, .ref br, .ref rr, .ref ru, .int 0, .ref sc, .ref sh, .ref pa, .ref im, .ref ou, .ref ch, .ref iq])), (sc, .inr (8, [.ref sh, .ref f0, .ref g0, .int (-1), .int 0])), (g0, .inr (3, [.ref g1, .ref g2, .ref g3, .int 0])), (pa, .inr (5, [.ref b1, .int 0, .int 0])), (ta, .inr (10, [.ref t1, .int 0, .int 0, .int 0, .int (-1), .int 0]))]) ⟨hx, hb, hml, hown, hts⟩ hK hX hA (ct_X9_timesMet l D tc sk sh a1 a2 a3 a4 a5 a6 a7 a8) k_1046 k_1043 k_1044 k_1045 k_98 pl_X9_timesMet ⟨Nat.le_of_ble_eq_true rfl, Nat.le_of_ble_eq_true rfl⟩ rfl rfl (va_recv hK hP (ci := 9) (q0 := 3) rfl rfl) hP hD hS [3] [0, 1, 2, 4, 5] rfl rfl rfl rfl rfl (by decide) rfl hl.1 rfl (Nat.le_of_ble_eq_true rfl) dX11_count_175 ⟨Nat.le_of_ble_eq_true rfl, Nat.le_of_ble_eq_true rfl⟩ (fun v_28 u_29 H locs hv_30 hP hD hS => ?_)
                        obtain rfl : v_28 = some (.int 0) := hv_30
                        refine W.eq (g2 := F0 m 178 ls [.int 0]) rfl ?_
                        have hP : va_P D classes [(h0, .inr (11, [.ref ta, .ref br, .ref rr, .ref ru, .int 0, .ref sc, .ref sh, .ref pa, .ref im, .ref ou, .ref ch, .ref iq])), (sc, .inr (8, [.ref sh, .ref f0, .ref g0, .int (-1), .int 0])), (g0, .inr (3, [.ref g1, .ref g2, .ref g3, .int 0])), (pa, .inr (5, [.ref b1, .int 0, .int 0])), (ta, .inr (10, [.ref t1, .int 0, .int 0, .int 0, .int (-1), .int 0])), (sh, .inr (9, [.int 0, .int 0, .int 0, .int 0, .int 0, .int 0, .ref a1, .ref a2, .ref a3, .ref a4, .ref a5, .ref a6, .ref a7, .ref a8]))] H := hP
                        have hD : va_D A [(h0, .inr (11, [.ref ta, .ref br, .ref rr, .ref ru, .int 0, .ref sc, .ref sh, .ref pa, .ref im, .ref ou, .ref ch, .ref iq])), (sc, .inr (8, [.ref sh, .ref f0, .ref g0, .int (-1), .int 0])), (g0, .inr (3, [.ref g1, .ref g2, .ref g3, .int 0])), (pa, .inr (5, [.ref b1, .int 0, .int 0])), (ta, .inr (10, [.ref t1, .int 0, .int 0, .int 0, .int (-1), .int 0])), (sh, .inr (9, [.int 0, .int 0, .int 0, .int 0, .int 0, .int 0, .ref a1, .ref a2, .ref a3, .ref a4, .ref a5, .ref a6, .ref a7, .ref a8]))] := hD
                        have hp_31 : cntF 10 = 0 := by decide
                        exact retI (v := 0) hx hb hr hlk (rfl) hP hD hS () (by rw [hp_31]) [] rfl rfl dX11_count_178 (Nat.le_of_ble_eq_true rfl) (Nat.le_of_ble_eq_true rfl) rfl
                      · skip
                        by_cases c_32 : x1 = 11
                        · skip
                          subst c_32
                          refine lv_tableIn (off := 178) (tgt := 179) hx hb dX11_count_1 (by decide) (by decide) (by decide) (by decide) ?_
                          refine lv_aload_n hx hb dX11_count_179 rfl (lv_at hl 0 rfl) ?_
                          refine gf_X11_51 hx hb hts hown hK hP 0 rfl rfl dX11_count_180 ?_
                          refine cV (a := sh) (As := []) (rest := []) (wr := [(h0, .inr (11, [.ref ta, .ref br, .ref rr, .ref ru, .int 0, .ref sc, .ref sh, .ref pa, .ref im, .ref ou, .ref ch, .ref iq])), (sc, .inr (8, [.ref sh, .ref f0, .ref g0, .int (-1), .int 0])), (g0, .inr (3, [.ref g1, .ref g2, .ref g3, .int 0])), (pa, .inr (5, [.ref b1, .int 0, .int 0])), (ta, .inr (10, [.ref t1, .int 0, .int 0, .int 0, .int (-1), .int 0]))]) ⟨hx, hb, hml, hown, hts⟩ hK hX hA (ct_X9_whoCanBuy l D tc sk sh a1 a2 a3 a4 a5 a6 a7 a8) k_1050 k_1047 k_1048 k_1049 k_98 pl_X9_whoCanBuy ⟨Nat.le_of_ble_eq_true rfl, Nat.le_of_ble_eq_true rfl⟩ rfl rfl (va_recv hK hP (ci := 9) (q0 := 3) rfl rfl) hP hD hS [3] [0, 1, 2, 4, 5] rfl rfl rfl rfl rfl (by decide) rfl hl.1 rfl (Nat.le_of_ble_eq_true rfl) dX11_count_183 ⟨Nat.le_of_ble_eq_true rfl, Nat.le_of_ble_eq_true rfl⟩ (fun v_33 u_34 H locs hv_35 hP hD hS => ?_)
                          obtain rfl : v_33 = some (.int 0) := hv_35
                          refine W.eq (g2 := F0 m 186 ls [.int 0]) rfl ?_
                          have hP : va_P D classes [(h0, .inr (11, [.ref ta, .ref br, .ref rr, .ref ru, .int 0, .ref sc, .ref sh, .ref pa, .ref im, .ref ou, .ref ch, .ref iq])), (sc, .inr (8, [.ref sh, .ref f0, .ref g0, .int (-1), .int 0])), (g0, .inr (3, [.ref g1, .ref g2, .ref g3, .int 0])), (pa, .inr (5, [.ref b1, .int 0, .int 0])), (ta, .inr (10, [.ref t1, .int 0, .int 0, .int 0, .int (-1), .int 0])), (sh, .inr (9, [.int 0, .int 0, .int 0, .int 0, .int 0, .int 0, .ref a1, .ref a2, .ref a3, .ref a4, .ref a5, .ref a6, .ref a7, .ref a8]))] H := hP
                          have hD : va_D A [(h0, .inr (11, [.ref ta, .ref br, .ref rr, .ref ru, .int 0, .ref sc, .ref sh, .ref pa, .ref im, .ref ou, .ref ch, .ref iq])), (sc, .inr (8, [.ref sh, .ref f0, .ref g0, .int (-1), .int 0])), (g0, .inr (3, [.ref g1, .ref g2, .ref g3, .int 0])), (pa, .inr (5, [.ref b1, .int 0, .int 0])), (ta, .inr (10, [.ref t1, .int 0, .int 0, .int 0, .int (-1), .int 0])), (sh, .inr (9, [.int 0, .int 0, .int 0, .int 0, .int 0, .int 0, .ref a1, .ref a2, .ref a3, .ref a4, .ref a5, .ref a6, .ref a7, .ref a8]))] := hD
                          have hp_36 : cntF 11 = 0 := by decide
                          exact retI (v := 0) hx hb hr hlk (rfl) hP hD hS () (by rw [hp_36]) [] rfl rfl dX11_count_186 (Nat.le_of_ble_eq_true rfl) (Nat.le_of_ble_eq_true rfl) rfl
                        · skip
                          by_cases c_37 : x1 = 12
                          · skip
                            subst c_37
                            refine lv_tableIn (off := 186) (tgt := 187) hx hb dX11_count_1 (by decide) (by decide) (by decide) (by decide) ?_
                            refine lv_aload_n hx hb dX11_count_187 rfl (lv_at hl 0 rfl) ?_
                            refine gf_X11_43 hx hb hts hown hK hP 0 rfl rfl dX11_count_188 ?_
                            refine gf_X11_111 hx hb hts hown hK hP 1 rfl rfl dX11_count_191 ?_
                            refine gf_X11_115 hx hb hts hown hK hP 2 rfl rfl dX11_count_194 ?_
                            have hp_38 : cntF 12 = 0 := by decide
                            exact retI (v := 0) hx hb hr hlk (rfl) hP hD hS () (by rw [hp_38]) [] rfl rfl dX11_count_197 (Nat.le_of_ble_eq_true rfl) (Nat.le_of_ble_eq_true rfl) rfl
                          · skip
                            by_cases c_39 : x1 = 13
                            · skip
                              subst c_39
                              refine lv_tableIn (off := 197) (tgt := 198) hx hb dX11_count_1 (by decide) (by decide) (by decide) (by decide) ?_
                              refine lv_aload_n hx hb dX11_count_198 rfl (lv_at hl 0 rfl) ?_
                              refine gf_X11_57 hx hb hts hown hK hP 0 rfl rfl dX11_count_199 ?_
                              refine gf_X11_120 hx hb hts hown hK hP 4 rfl rfl dX11_count_202 ?_
                              have hp_40 : cntF 13 = 0 := by decide
                              exact retI (v := 0) hx hb hr hlk (rfl) hP hD hS () (by rw [hp_40]) [] rfl rfl dX11_count_205 (Nat.le_of_ble_eq_true rfl) (Nat.le_of_ble_eq_true rfl) rfl
                            · skip
                              by_cases c_41 : x1 = 14
                              · skip
                                subst c_41
                                refine lv_tableIn (off := 205) (tgt := 206) hx hb dX11_count_1 (by decide) (by decide) (by decide) (by decide) ?_
                                refine lv_aload_n hx hb dX11_count_206 rfl (lv_at hl 0 rfl) ?_
                                refine gf_X11_43 hx hb hts hown hK hP 0 rfl rfl dX11_count_207 ?_
                                refine gf_X11_272 hx hb hts hown hK hP 1 rfl rfl dX11_count_210 ?_
                                have hp_42 : cntF 14 = 0 := by decide
                                exact retI (v := 0) hx hb hr hlk (rfl) hP hD hS () (by rw [hp_42]) [] rfl rfl dX11_count_213 (Nat.le_of_ble_eq_true rfl) (Nat.le_of_ble_eq_true rfl) rfl
                              · skip
                                by_cases c_43 : x1 = 15
                                · skip
                                  subst c_43
                                  refine lv_tableIn (off := 213) (tgt := 214) hx hb dX11_count_1 (by decide) (by decide) (by decide) (by decide) ?_
                                  refine lv_aload_n hx hb dX11_count_214 rfl (lv_at hl 0 rfl) ?_
                                  refine gf_X11_10 hx hb hts hown hK hP 0 rfl rfl dX11_count_215 ?_
                                  refine gf_X11_94 hx hb hts hown hK hP 5 rfl rfl dX11_count_218 ?_
                                  have hp_44 : cntF 15 = 0 := by decide
                                  exact retI (v := 0) hx hb hr hlk (rfl) hP hD hS () (by rw [hp_44]) [] rfl rfl dX11_count_221 (Nat.le_of_ble_eq_true rfl) (Nat.le_of_ble_eq_true rfl) rfl
                                · skip
                                  have ho_45 : (x1 : Int32).toInt < 0 ∨ 15 < (x1 : Int32).toInt := by
                                    have z_1 : ¬ (x1 : Int32).toInt = (0 : Int32).toInt := fun z => c_1 (Int32.toInt_inj.mp z)
                                    have z_2 : ¬ (x1 : Int32).toInt = (1 : Int32).toInt := fun z => c_3 (Int32.toInt_inj.mp z)
                                    have z_3 : ¬ (x1 : Int32).toInt = (2 : Int32).toInt := fun z => c_5 (Int32.toInt_inj.mp z)
                                    have z_4 : ¬ (x1 : Int32).toInt = (3 : Int32).toInt := fun z => c_7 (Int32.toInt_inj.mp z)
                                    have z_5 : ¬ (x1 : Int32).toInt = (4 : Int32).toInt := fun z => c_9 (Int32.toInt_inj.mp z)
                                    have z_6 : ¬ (x1 : Int32).toInt = (5 : Int32).toInt := fun z => c_11 (Int32.toInt_inj.mp z)
                                    have z_7 : ¬ (x1 : Int32).toInt = (6 : Int32).toInt := fun z => c_13 (Int32.toInt_inj.mp z)
                                    have z_8 : ¬ (x1 : Int32).toInt = (7 : Int32).toInt := fun z => c_18 (Int32.toInt_inj.mp z)
                                    have z_9 : ¬ (x1 : Int32).toInt = (8 : Int32).toInt := fun z => c_20 (Int32.toInt_inj.mp z)
                                    have z_10 : ¬ (x1 : Int32).toInt = (9 : Int32).toInt := fun z => c_25 (Int32.toInt_inj.mp z)
                                    have z_11 : ¬ (x1 : Int32).toInt = (10 : Int32).toInt := fun z => c_27 (Int32.toInt_inj.mp z)
                                    have z_12 : ¬ (x1 : Int32).toInt = (11 : Int32).toInt := fun z => c_32 (Int32.toInt_inj.mp z)
                                    have z_13 : ¬ (x1 : Int32).toInt = (12 : Int32).toInt := fun z => c_37 (Int32.toInt_inj.mp z)
                                    have z_14 : ¬ (x1 : Int32).toInt = (13 : Int32).toInt := fun z => c_39 (Int32.toInt_inj.mp z)
                                    have z_15 : ¬ (x1 : Int32).toInt = (14 : Int32).toInt := fun z => c_41 (Int32.toInt_inj.mp z)
                                    have z_16 : ¬ (x1 : Int32).toInt = (15 : Int32).toInt := fun z => c_43 (Int32.toInt_inj.mp z)
                                    have y_0 : (0 : Int32).toInt = 0 := by decide
                                    have y_1 : (1 : Int32).toInt = 1 := by decide
                                    have y_2 : (2 : Int32).toInt = 2 := by decide
                                    have y_3 : (3 : Int32).toInt = 3 := by decide
                                    have y_4 : (4 : Int32).toInt = 4 := by decide
                                    have y_5 : (5 : Int32).toInt = 5 := by decide
                                    have y_6 : (6 : Int32).toInt = 6 := by decide
                                    have y_7 : (7 : Int32).toInt = 7 := by decide
                                    have y_8 : (8 : Int32).toInt = 8 := by decide
                                    have y_9 : (9 : Int32).toInt = 9 := by decide
                                    have y_10 : (10 : Int32).toInt = 10 := by decide
                                    have y_11 : (11 : Int32).toInt = 11 := by decide
                                    have y_12 : (12 : Int32).toInt = 12 := by decide
                                    have y_13 : (13 : Int32).toInt = 13 := by decide
                                    have y_14 : (14 : Int32).toInt = 14 := by decide
                                    have y_15 : (15 : Int32).toInt = 15 := by decide
                                    omega
                                  refine lv_tableOut (tgt := 222) hx hb dX11_count_1 ho_45 (by decide) ?_
                                  refine lv_iconst (v := (-1)) hx hb dX11_count_222 (by decide) ?_
                                  have hp_46 : cntF x1 = (-1) := by simp [cntF, c_1, c_3, c_5, c_7, c_9, c_11, c_13, c_18, c_20, c_25, c_27, c_32, c_37, c_39, c_41, c_43]
                                  exact retI (v := (-1)) hx hb hr hlk (rfl) hP hD hS () (by rw [hp_46]) [] rfl rfl dX11_count_223 (Nat.le_of_ble_eq_true rfl) (Nat.le_of_ble_eq_true rfl) rfl
set_option maxHeartbeats 4000000 in
set_option maxRecDepth 100000 in
theorem ct_X11_back (l : Launch) (D : va_G) (tc : Nat → ClassId) (sk : (Nat → Nat) × (Nat → Nat)) (h0 : Nat) (ta : Nat) (br : Nat) (rr : Nat) (ru : Nat) (sc : Nat) (sh : Nat) (pa : Nat) (im : Nat) (ou : Nat) (ch : Nat) (iq : Nat) (x1 : Int32)  : Ct l yX11_back cX11_back 3 (some .int) { frames := 0, cells := 0, slots := 0, locals := 0 } D tc sk [.ref h0, .int x1] [(h0, .inr (11, [.ref ta, .ref br, .ref rr, .ref ru, .int 0, .ref sc, .ref sh, .ref pa, .ref im, .ref ou, .ref ch, .ref iq])), (im, .inl (tc 6, 4, .inr (.inr (.inr (.inr (fun _ => none))))))] (fun (v : Option Value) (_ : Unit) => v = some (.int (-1))) (fun (_ : Unit) => []) 0 0 := by
  refine Ct.start (by decide) (Nat.le_of_ble_eq_true rfl) (fun p e s m below meth c A ls hx hb hr hlk hin hml hown hts hK hX hP hD hA hl hS => ?_)
  have hl : lv_has ls 3 [(0, .ref h0), (1, .int x1)] := hl
  refine lv_iload_n hx hb dX11_back_0 rfl (lv_at hl 1 rfl) ?_
  refine lv_if_lt (tgt := 13) hx hb dX11_back_1 (by decide) (fun c_1 => ?_) (fun c_1 => ?_)
  · skip
    refine lv_iconst (v := (-1)) hx hb dX11_back_13 (by decide) ?_
    exact retI (v := (-1)) hx hb hr hlk (rfl) hP hD hS () rfl [] rfl rfl dX11_back_14 (Nat.le_of_ble_eq_true rfl) (Nat.le_of_ble_eq_true rfl) rfl
  · skip
    refine lv_iload_n hx hb dX11_back_4 rfl (lv_at hl 1 rfl) ?_
    refine lv_aload_n hx hb dX11_back_5 rfl (lv_at hl 0 rfl) ?_
    refine gf_X11_61 hx hb hts hown hK hP 0 rfl rfl dX11_back_6 ?_
    refine va_alen hx hb hK hP 1 6 rfl rfl (v := 4) (by decide) dX11_back_9 ?_
    refine lv_icmp_lt (tgt := 15) hx hb dX11_back_10 (by decide) (fun c_2 => ?_) (fun c_2 => ?_)
    · skip
      refine lv_aload_n hx hb dX11_back_15 rfl (lv_at hl 0 rfl) ?_
      refine gf_X11_61 hx hb hts hown hK hP 0 rfl rfl dX11_back_16 ?_
      refine lv_iload_n hx hb dX11_back_19 rfl (lv_at hl 1 rfl) ?_
      have hi_3 : vp_in x1 4 := by
        have z_1 := Int32.le_iff_toInt_le.mp (Int32.not_lt.mp c_1)
        have z_2 := Int32.lt_iff_toInt_lt.mp c_2
        have y_0 : (0 : Int32).toInt = 0 := by decide
        have y_4 : (4 : Int32).toInt = 4 := by decide
        refine vp_in_iff.mpr ⟨?_, ?_⟩ <;> omega
      refine va_aldq hx hb hK hP 1 6 rfl rfl hi_3 dX11_back_20 ?_
      refine lv_val (v := .null) rfl ?_
      refine lv_astore_nN (lv' := [(2, .null), (0, .ref h0), (1, .int x1)]) hx hb dX11_back_21 rfl hl (by decide) rfl (fun ls hl => ?_)
      refine lv_aload_nN hx hb dX11_back_22 rfl (lv_at hl 0 rfl) ?_
      refine lv_ifnonnullN hx hb dX11_back_23 ?_
      refine lv_iconst (v := (-1)) hx hb dX11_back_26 (by decide) ?_
      exact retI (v := (-1)) hx hb hr hlk (rfl) hP hD hS () rfl [] rfl rfl dX11_back_27 (Nat.le_of_ble_eq_true rfl) (Nat.le_of_ble_eq_true rfl) rfl
    · skip
      refine lv_iconst (v := (-1)) hx hb dX11_back_13 (by decide) ?_
      exact retI (v := (-1)) hx hb hr hlk (rfl) hP hD hS () rfl [] rfl rfl dX11_back_14 (Nat.le_of_ble_eq_true rfl) (Nat.le_of_ble_eq_true rfl) rfl
end
