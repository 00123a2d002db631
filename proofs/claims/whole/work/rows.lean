section
-- ===== PART A: goes FIRST, ahead of the names: the tables' words, and 'selects' of the private methods out of them =====
/-- a private method of a class that the tables say can be made, by its rows of tables_1 -/
def lw_okq (q : MethodName × Nat) : Prop := (q.1.cls ≠ "java/lang/invoke/MethodHandle" ∧ q.1.cls ≠ "java/lang/invoke/VarHandle") ∧ Cond.instantiable q.1.cls q.2 ∈ tables_1 ∧ Cond.privateMethod q.1 ∈ tables_1 ∧ Cond.instanceMethod q.1 ∈ tables_1
theorem lw_p0 : lw_okq (⟨"KingDrops$Text", "takes", "(I)Z"⟩, 6) := ⟨⟨by decide +kernel, by decide +kernel⟩, List.mem_of_getElem? (i := 18) (by decide +kernel), List.mem_of_getElem? (i := 164) (by decide +kernel), List.mem_of_getElem? (i := 165) (by decide +kernel)⟩
theorem lw_p1 : lw_okq (⟨"KingDrops$Sideboard", "empties", "()V"⟩, 7) := ⟨⟨by decide +kernel, by decide +kernel⟩, List.mem_of_getElem? (i := 45) (by decide +kernel), List.mem_of_getElem? (i := 176) (by decide +kernel), List.mem_of_getElem? (i := 177) (by decide +kernel)⟩
theorem lw_p2 : lw_okq (⟨"KingDrops$Text", "readsInto", "(LKingDrops$Sideboard;)I"⟩, 6) := ⟨⟨by decide +kernel, by decide +kernel⟩, List.mem_of_getElem? (i := 18) (by decide +kernel), List.mem_of_getElem? (i := 180) (by decide +kernel), List.mem_of_getElem? (i := 181) (by decide +kernel)⟩
theorem lw_p3 : lw_okq (⟨"KingDrops$Text", "advances", "()V"⟩, 6) := ⟨⟨by decide +kernel, by decide +kernel⟩, List.mem_of_getElem? (i := 18) (by decide +kernel), List.mem_of_getElem? (i := 184) (by decide +kernel), List.mem_of_getElem? (i := 185) (by decide +kernel)⟩
theorem lw_p4 : lw_okq (⟨"KingDrops$Text", "byteAt", "(I)I"⟩, 6) := ⟨⟨by decide +kernel, by decide +kernel⟩, List.mem_of_getElem? (i := 18) (by decide +kernel), List.mem_of_getElem? (i := 188) (by decide +kernel), List.mem_of_getElem? (i := 189) (by decide +kernel)⟩
theorem lw_p5 : lw_okq (⟨"KingDrops$Text", "setsValue", "(III)V"⟩, 6) := ⟨⟨by decide +kernel, by decide +kernel⟩, List.mem_of_getElem? (i := 18) (by decide +kernel), List.mem_of_getElem? (i := 195) (by decide +kernel), List.mem_of_getElem? (i := 196) (by decide +kernel)⟩
theorem lw_p6 : lw_okq (⟨"KingDrops$Text", "readsItem", "(LKingDrops$Sideboard;)Z"⟩, 6) := ⟨⟨by decide +kernel, by decide +kernel⟩, List.mem_of_getElem? (i := 18) (by decide +kernel), List.mem_of_getElem? (i := 199) (by decide +kernel), List.mem_of_getElem? (i := 200) (by decide +kernel)⟩
theorem lw_p7 : lw_okq (⟨"KingDrops$Text", "readsDecanter", "(LKingDrops$Sideboard;)Z"⟩, 6) := ⟨⟨by decide +kernel, by decide +kernel⟩, List.mem_of_getElem? (i := 18) (by decide +kernel), List.mem_of_getElem? (i := 203) (by decide +kernel), List.mem_of_getElem? (i := 204) (by decide +kernel)⟩
theorem lw_p8 : lw_okq (⟨"KingDrops$Text", "readsNumber", "(I)Z"⟩, 6) := ⟨⟨by decide +kernel, by decide +kernel⟩, List.mem_of_getElem? (i := 18) (by decide +kernel), List.mem_of_getElem? (i := 207) (by decide +kernel), List.mem_of_getElem? (i := 208) (by decide +kernel)⟩
theorem lw_p9 : lw_okq (⟨"KingDrops$Sideboard", "addsDecanter", "(II)V"⟩, 7) := ⟨⟨by decide +kernel, by decide +kernel⟩, List.mem_of_getElem? (i := 45) (by decide +kernel), List.mem_of_getElem? (i := 211) (by decide +kernel), List.mem_of_getElem? (i := 212) (by decide +kernel)⟩
theorem lw_p10 : lw_okq (⟨"KingDrops$Text", "readsStop", "()Z"⟩, 6) := ⟨⟨by decide +kernel, by decide +kernel⟩, List.mem_of_getElem? (i := 18) (by decide +kernel), List.mem_of_getElem? (i := 215) (by decide +kernel), List.mem_of_getElem? (i := 216) (by decide +kernel)⟩
theorem lw_p11 : lw_okq (⟨"KingDrops$Text", "readsAct", "(LKingDrops$Sideboard;)Z"⟩, 6) := ⟨⟨by decide +kernel, by decide +kernel⟩, List.mem_of_getElem? (i := 18) (by decide +kernel), List.mem_of_getElem? (i := 219) (by decide +kernel), List.mem_of_getElem? (i := 220) (by decide +kernel)⟩
theorem lw_p12 : lw_okq (⟨"KingDrops$Sideboard", "addsAct", "(I)V"⟩, 7) := ⟨⟨by decide +kernel, by decide +kernel⟩, List.mem_of_getElem? (i := 45) (by decide +kernel), List.mem_of_getElem? (i := 223) (by decide +kernel), List.mem_of_getElem? (i := 224) (by decide +kernel)⟩
theorem lw_p13 : lw_okq (⟨"KingDrops$Sideboard", "latestActNeeds", "(II)V"⟩, 7) := ⟨⟨by decide +kernel, by decide +kernel⟩, List.mem_of_getElem? (i := 45) (by decide +kernel), List.mem_of_getElem? (i := 227) (by decide +kernel), List.mem_of_getElem? (i := 228) (by decide +kernel)⟩
theorem lw_p14 : lw_okq (⟨"KingDrops$Text", "readsExchange", "(LKingDrops$Sideboard;)Z"⟩, 6) := ⟨⟨by decide +kernel, by decide +kernel⟩, List.mem_of_getElem? (i := 18) (by decide +kernel), List.mem_of_getElem? (i := 231) (by decide +kernel), List.mem_of_getElem? (i := 232) (by decide +kernel)⟩
theorem lw_p15 : lw_okq (⟨"KingDrops$Sideboard", "exchangesLabels", "(II)V"⟩, 7) := ⟨⟨by decide +kernel, by decide +kernel⟩, List.mem_of_getElem? (i := 45) (by decide +kernel), List.mem_of_getElem? (i := 235) (by decide +kernel), List.mem_of_getElem? (i := 236) (by decide +kernel)⟩
def lw_privs_1 : List (MethodName × Nat) := [(⟨"KingDrops$Text", "takes", "(I)Z"⟩, 6), (⟨"KingDrops$Sideboard", "empties", "()V"⟩, 7), (⟨"KingDrops$Text", "readsInto", "(LKingDrops$Sideboard;)I"⟩, 6), (⟨"KingDrops$Text", "advances", "()V"⟩, 6), (⟨"KingDrops$Text", "byteAt", "(I)I"⟩, 6), (⟨"KingDrops$Text", "setsValue", "(III)V"⟩, 6), (⟨"KingDrops$Text", "readsItem", "(LKingDrops$Sideboard;)Z"⟩, 6), (⟨"KingDrops$Text", "readsDecanter", "(LKingDrops$Sideboard;)Z"⟩, 6), (⟨"KingDrops$Text", "readsNumber", "(I)Z"⟩, 6), (⟨"KingDrops$Sideboard", "addsDecanter", "(II)V"⟩, 7), (⟨"KingDrops$Text", "readsStop", "()Z"⟩, 6), (⟨"KingDrops$Text", "readsAct", "(LKingDrops$Sideboard;)Z"⟩, 6), (⟨"KingDrops$Sideboard", "addsAct", "(I)V"⟩, 7), (⟨"KingDrops$Sideboard", "latestActNeeds", "(II)V"⟩, 7), (⟨"KingDrops$Text", "readsExchange", "(LKingDrops$Sideboard;)Z"⟩, 6), (⟨"KingDrops$Sideboard", "exchangesLabels", "(II)V"⟩, 7)]
theorem lw_r1 : ∀ q ∈ lw_privs_1, lw_okq q := List.forall_mem_cons.mpr ⟨lw_p0, List.forall_mem_cons.mpr ⟨lw_p1, List.forall_mem_cons.mpr ⟨lw_p2, List.forall_mem_cons.mpr ⟨lw_p3, List.forall_mem_cons.mpr ⟨lw_p4, List.forall_mem_cons.mpr ⟨lw_p5, List.forall_mem_cons.mpr ⟨lw_p6, List.forall_mem_cons.mpr ⟨lw_p7, List.forall_mem_cons.mpr ⟨lw_p8, List.forall_mem_cons.mpr ⟨lw_p9, List.forall_mem_cons.mpr ⟨lw_p10, List.forall_mem_cons.mpr ⟨lw_p11, List.forall_mem_cons.mpr ⟨lw_p12, List.forall_mem_cons.mpr ⟨lw_p13, List.forall_mem_cons.mpr ⟨lw_p14, List.forall_mem_cons.mpr ⟨lw_p15, fun _ h => absurd h List.not_mem_nil⟩⟩⟩⟩⟩⟩⟩⟩⟩⟩⟩⟩⟩⟩⟩⟩
theorem lw_p16 : lw_okq (⟨"KingDrops$Present", "begins", "(LKingDrops$Sideboard;)V"⟩, 9) := ⟨⟨by decide +kernel, by decide +kernel⟩, List.mem_of_getElem? (i := 83) (by decide +kernel), List.mem_of_getElem? (i := 239) (by decide +kernel), List.mem_of_getElem? (i := 240) (by decide +kernel)⟩
theorem lw_p17 : lw_okq (⟨"KingDrops", "isDecanter", "(I)Z"⟩, 11) := ⟨⟨by decide +kernel, by decide +kernel⟩, List.mem_of_getElem? (i := 10) (by decide +kernel), List.mem_of_getElem? (i := 247) (by decide +kernel), List.mem_of_getElem? (i := 248) (by decide +kernel)⟩
theorem lw_p18 : lw_okq (⟨"KingDrops", "span", "(I)I"⟩, 11) := ⟨⟨by decide +kernel, by decide +kernel⟩, List.mem_of_getElem? (i := 10) (by decide +kernel), List.mem_of_getElem? (i := 251) (by decide +kernel), List.mem_of_getElem? (i := 252) (by decide +kernel)⟩
theorem lw_p19 : lw_okq (⟨"KingDrops", "isAct", "(I)Z"⟩, 11) := ⟨⟨by decide +kernel, by decide +kernel⟩, List.mem_of_getElem? (i := 10) (by decide +kernel), List.mem_of_getElem? (i := 259) (by decide +kernel), List.mem_of_getElem? (i := 260) (by decide +kernel)⟩
theorem lw_p20 : lw_okq (⟨"KingDrops$Sideboard", "qualitiesNeeded", "(I)I"⟩, 7) := ⟨⟨by decide +kernel, by decide +kernel⟩, List.mem_of_getElem? (i := 45) (by decide +kernel), List.mem_of_getElem? (i := 263) (by decide +kernel), List.mem_of_getElem? (i := 264) (by decide +kernel)⟩
theorem lw_p21 : lw_okq (⟨"KingDrops$Sideboard", "dropsNeeded", "(II)I"⟩, 7) := ⟨⟨by decide +kernel, by decide +kernel⟩, List.mem_of_getElem? (i := 45) (by decide +kernel), List.mem_of_getElem? (i := 267) (by decide +kernel), List.mem_of_getElem? (i := 268) (by decide +kernel)⟩
theorem lw_p22 : lw_okq (⟨"KingDrops", "isDone", "(I)Z"⟩, 11) := ⟨⟨by decide +kernel, by decide +kernel⟩, List.mem_of_getElem? (i := 10) (by decide +kernel), List.mem_of_getElem? (i := 271) (by decide +kernel), List.mem_of_getElem? (i := 272) (by decide +kernel)⟩
theorem lw_p23 : lw_okq (⟨"KingDrops", "lastMonth", "(I)I"⟩, 11) := ⟨⟨by decide +kernel, by decide +kernel⟩, List.mem_of_getElem? (i := 10) (by decide +kernel), List.mem_of_getElem? (i := 278) (by decide +kernel), List.mem_of_getElem? (i := 279) (by decide +kernel)⟩
theorem lw_p24 : lw_okq (⟨"KingDrops", "isEnoughFor", "(I)Z"⟩, 11) := ⟨⟨by decide +kernel, by decide +kernel⟩, List.mem_of_getElem? (i := 10) (by decide +kernel), List.mem_of_getElem? (i := 282) (by decide +kernel), List.mem_of_getElem? (i := 283) (by decide +kernel)⟩
theorem lw_p25 : lw_okq (⟨"KingDrops", "isEnoughForAll", "(I)Z"⟩, 11) := ⟨⟨by decide +kernel, by decide +kernel⟩, List.mem_of_getElem? (i := 10) (by decide +kernel), List.mem_of_getElem? (i := 286) (by decide +kernel), List.mem_of_getElem? (i := 287) (by decide +kernel)⟩
theorem lw_p26 : lw_okq (⟨"KingDrops", "dropsFrom", "(II)I"⟩, 11) := ⟨⟨by decide +kernel, by decide +kernel⟩, List.mem_of_getElem? (i := 10) (by decide +kernel), List.mem_of_getElem? (i := 290) (by decide +kernel), List.mem_of_getElem? (i := 291) (by decide +kernel)⟩
theorem lw_p27 : lw_okq (⟨"KingDrops$Present", "remembers", "()V"⟩, 9) := ⟨⟨by decide +kernel, by decide +kernel⟩, List.mem_of_getElem? (i := 83) (by decide +kernel), List.mem_of_getElem? (i := 306) (by decide +kernel), List.mem_of_getElem? (i := 307) (by decide +kernel)⟩
theorem lw_p28 : lw_okq (⟨"KingDrops", "wouldGoWell", "(I)Z"⟩, 11) := ⟨⟨by decide +kernel, by decide +kernel⟩, List.mem_of_getElem? (i := 10) (by decide +kernel), List.mem_of_getElem? (i := 313) (by decide +kernel), List.mem_of_getElem? (i := 314) (by decide +kernel)⟩
theorem lw_p29 : lw_okq (⟨"KingDrops$Present", "loses", "(II)V"⟩, 9) := ⟨⟨by decide +kernel, by decide +kernel⟩, List.mem_of_getElem? (i := 83) (by decide +kernel), List.mem_of_getElem? (i := 317) (by decide +kernel), List.mem_of_getElem? (i := 318) (by decide +kernel)⟩
theorem lw_p30 : lw_okq (⟨"KingDrops$Present", "stepsBack", "()Z"⟩, 9) := ⟨⟨by decide +kernel, by decide +kernel⟩, List.mem_of_getElem? (i := 83) (by decide +kernel), List.mem_of_getElem? (i := 341) (by decide +kernel), List.mem_of_getElem? (i := 342) (by decide +kernel)⟩
theorem lw_p31 : lw_okq (⟨"KingDrops", "actsThatCan", "()I"⟩, 11) := ⟨⟨by decide +kernel, by decide +kernel⟩, List.mem_of_getElem? (i := 10) (by decide +kernel), List.mem_of_getElem? (i := 349) (by decide +kernel), List.mem_of_getElem? (i := 350) (by decide +kernel)⟩
def lw_privs_2 : List (MethodName × Nat) := [(⟨"KingDrops$Present", "begins", "(LKingDrops$Sideboard;)V"⟩, 9), (⟨"KingDrops", "isDecanter", "(I)Z"⟩, 11), (⟨"KingDrops", "span", "(I)I"⟩, 11), (⟨"KingDrops", "isAct", "(I)Z"⟩, 11), (⟨"KingDrops$Sideboard", "qualitiesNeeded", "(I)I"⟩, 7), (⟨"KingDrops$Sideboard", "dropsNeeded", "(II)I"⟩, 7), (⟨"KingDrops", "isDone", "(I)Z"⟩, 11), (⟨"KingDrops", "lastMonth", "(I)I"⟩, 11), (⟨"KingDrops", "isEnoughFor", "(I)Z"⟩, 11), (⟨"KingDrops", "isEnoughForAll", "(I)Z"⟩, 11), (⟨"KingDrops", "dropsFrom", "(II)I"⟩, 11), (⟨"KingDrops$Present", "remembers", "()V"⟩, 9), (⟨"KingDrops", "wouldGoWell", "(I)Z"⟩, 11), (⟨"KingDrops$Present", "loses", "(II)V"⟩, 9), (⟨"KingDrops$Present", "stepsBack", "()Z"⟩, 9), (⟨"KingDrops", "actsThatCan", "()I"⟩, 11)]
theorem lw_r2 : ∀ q ∈ lw_privs_2, lw_okq q := List.forall_mem_cons.mpr ⟨lw_p16, List.forall_mem_cons.mpr ⟨lw_p17, List.forall_mem_cons.mpr ⟨lw_p18, List.forall_mem_cons.mpr ⟨lw_p19, List.forall_mem_cons.mpr ⟨lw_p20, List.forall_mem_cons.mpr ⟨lw_p21, List.forall_mem_cons.mpr ⟨lw_p22, List.forall_mem_cons.mpr ⟨lw_p23, List.forall_mem_cons.mpr ⟨lw_p24, List.forall_mem_cons.mpr ⟨lw_p25, List.forall_mem_cons.mpr ⟨lw_p26, List.forall_mem_cons.mpr ⟨lw_p27, List.forall_mem_cons.mpr ⟨lw_p28, List.forall_mem_cons.mpr ⟨lw_p29, List.forall_mem_cons.mpr ⟨lw_p30, List.forall_mem_cons.mpr ⟨lw_p31, fun _ h => absurd h List.not_mem_nil⟩⟩⟩⟩⟩⟩⟩⟩⟩⟩⟩⟩⟩⟩⟩⟩
theorem lw_p32 : lw_okq (⟨"KingDrops", "levelsTogether", "()I"⟩, 11) := ⟨⟨by decide +kernel, by decide +kernel⟩, List.mem_of_getElem? (i := 10) (by decide +kernel), List.mem_of_getElem? (i := 353) (by decide +kernel), List.mem_of_getElem? (i := 354) (by decide +kernel)⟩
theorem lw_p33 : lw_okq (⟨"KingDrops$Sideboard", "worthOf", "(I)I"⟩, 7) := ⟨⟨by decide +kernel, by decide +kernel⟩, List.mem_of_getElem? (i := 45) (by decide +kernel), List.mem_of_getElem? (i := 364) (by decide +kernel), List.mem_of_getElem? (i := 365) (by decide +kernel)⟩
theorem lw_p34 : lw_okq (⟨"KingDrops", "fewestChanges", "()I"⟩, 11) := ⟨⟨by decide +kernel, by decide +kernel⟩, List.mem_of_getElem? (i := 10) (by decide +kernel), List.mem_of_getElem? (i := 373) (by decide +kernel), List.mem_of_getElem? (i := 374) (by decide +kernel)⟩
theorem lw_p35 : lw_okq (⟨"KingDrops", "ringOf", "(I)I"⟩, 11) := ⟨⟨by decide +kernel, by decide +kernel⟩, List.mem_of_getElem? (i := 10) (by decide +kernel), List.mem_of_getElem? (i := 377) (by decide +kernel), List.mem_of_getElem? (i := 378) (by decide +kernel)⟩
theorem lw_p36 : lw_okq (⟨"KingDrops", "firstChange", "()I"⟩, 11) := ⟨⟨by decide +kernel, by decide +kernel⟩, List.mem_of_getElem? (i := 10) (by decide +kernel), List.mem_of_getElem? (i := 381) (by decide +kernel), List.mem_of_getElem? (i := 382) (by decide +kernel)⟩
theorem lw_p37 : lw_okq (⟨"KingDrops", "differenceOf", "(I)I"⟩, 11) := ⟨⟨by decide +kernel, by decide +kernel⟩, List.mem_of_getElem? (i := 10) (by decide +kernel), List.mem_of_getElem? (i := 389) (by decide +kernel), List.mem_of_getElem? (i := 390) (by decide +kernel)⟩
theorem lw_p38 : lw_okq (⟨"KingDrops", "waysThatFit", "()I"⟩, 11) := ⟨⟨by decide +kernel, by decide +kernel⟩, List.mem_of_getElem? (i := 10) (by decide +kernel), List.mem_of_getElem? (i := 421) (by decide +kernel), List.mem_of_getElem? (i := 422) (by decide +kernel)⟩
theorem lw_p39 : lw_okq (⟨"KingDrops", "waysWithOwn", "(I)I"⟩, 11) := ⟨⟨by decide +kernel, by decide +kernel⟩, List.mem_of_getElem? (i := 10) (by decide +kernel), List.mem_of_getElem? (i := 425) (by decide +kernel), List.mem_of_getElem? (i := 426) (by decide +kernel)⟩
theorem lw_p40 : lw_okq (⟨"KingDrops", "agreesWithTold", "(I)Z"⟩, 11) := ⟨⟨by decide +kernel, by decide +kernel⟩, List.mem_of_getElem? (i := 10) (by decide +kernel), List.mem_of_getElem? (i := 431) (by decide +kernel), List.mem_of_getElem? (i := 432) (by decide +kernel)⟩
theorem lw_p41 : lw_okq (⟨"KingDrops", "sureLabel", "(I)I"⟩, 11) := ⟨⟨by decide +kernel, by decide +kernel⟩, List.mem_of_getElem? (i := 10) (by decide +kernel), List.mem_of_getElem? (i := 435) (by decide +kernel), List.mem_of_getElem? (i := 436) (by decide +kernel)⟩
theorem lw_p42 : lw_okq (⟨"KingDrops", "markOfAct", "(I)I"⟩, 11) := ⟨⟨by decide +kernel, by decide +kernel⟩, List.mem_of_getElem? (i := 10) (by decide +kernel), List.mem_of_getElem? (i := 444) (by decide +kernel), List.mem_of_getElem? (i := 445) (by decide +kernel)⟩
theorem lw_p43 : lw_okq (⟨"KingDrops", "markOfTreaty", "(I)I"⟩, 11) := ⟨⟨by decide +kernel, by decide +kernel⟩, List.mem_of_getElem? (i := 10) (by decide +kernel), List.mem_of_getElem? (i := 448) (by decide +kernel), List.mem_of_getElem? (i := 449) (by decide +kernel)⟩
theorem lw_p44 : lw_okq (⟨"KingDrops", "markOfWar", "(I)I"⟩, 11) := ⟨⟨by decide +kernel, by decide +kernel⟩, List.mem_of_getElem? (i := 10) (by decide +kernel), List.mem_of_getElem? (i := 453) (by decide +kernel), List.mem_of_getElem? (i := 454) (by decide +kernel)⟩
theorem lw_p45 : lw_okq (⟨"KingDrops", "markOfPardon", "(I)I"⟩, 11) := ⟨⟨by decide +kernel, by decide +kernel⟩, List.mem_of_getElem? (i := 10) (by decide +kernel), List.mem_of_getElem? (i := 458) (by decide +kernel), List.mem_of_getElem? (i := 459) (by decide +kernel)⟩
theorem lw_p46 : lw_okq (⟨"KingDrops", "markOfHunt", "(I)I"⟩, 11) := ⟨⟨by decide +kernel, by decide +kernel⟩, List.mem_of_getElem? (i := 10) (by decide +kernel), List.mem_of_getElem? (i := 463) (by decide +kernel), List.mem_of_getElem? (i := 464) (by decide +kernel)⟩
theorem lw_p47 : lw_okq (⟨"KingDrops", "markOfBreath", "(I)I"⟩, 11) := ⟨⟨by decide +kernel, by decide +kernel⟩, List.mem_of_getElem? (i := 10) (by decide +kernel), List.mem_of_getElem? (i := 468) (by decide +kernel), List.mem_of_getElem? (i := 469) (by decide +kernel)⟩
def lw_privs_3 : List (MethodName × Nat) := [(⟨"KingDrops", "levelsTogether", "()I"⟩, 11), (⟨"KingDrops$Sideboard", "worthOf", "(I)I"⟩, 7), (⟨"KingDrops", "fewestChanges", "()I"⟩, 11), (⟨"KingDrops", "ringOf", "(I)I"⟩, 11), (⟨"KingDrops", "firstChange", "()I"⟩, 11), (⟨"KingDrops", "differenceOf", "(I)I"⟩, 11), (⟨"KingDrops", "waysThatFit", "()I"⟩, 11), (⟨"KingDrops", "waysWithOwn", "(I)I"⟩, 11), (⟨"KingDrops", "agreesWithTold", "(I)Z"⟩, 11), (⟨"KingDrops", "sureLabel", "(I)I"⟩, 11), (⟨"KingDrops", "markOfAct", "(I)I"⟩, 11), (⟨"KingDrops", "markOfTreaty", "(I)I"⟩, 11), (⟨"KingDrops", "markOfWar", "(I)I"⟩, 11), (⟨"KingDrops", "markOfPardon", "(I)I"⟩, 11), (⟨"KingDrops", "markOfHunt", "(I)I"⟩, 11), (⟨"KingDrops", "markOfBreath", "(I)I"⟩, 11)]
theorem lw_r3 : ∀ q ∈ lw_privs_3, lw_okq q := List.forall_mem_cons.mpr ⟨lw_p32, List.forall_mem_cons.mpr ⟨lw_p33, List.forall_mem_cons.mpr ⟨lw_p34, List.forall_mem_cons.mpr ⟨lw_p35, List.forall_mem_cons.mpr ⟨lw_p36, List.forall_mem_cons.mpr ⟨lw_p37, List.forall_mem_cons.mpr ⟨lw_p38, List.forall_mem_cons.mpr ⟨lw_p39, List.forall_mem_cons.mpr ⟨lw_p40, List.forall_mem_cons.mpr ⟨lw_p41, List.forall_mem_cons.mpr ⟨lw_p42, List.forall_mem_cons.mpr ⟨lw_p43, List.forall_mem_cons.mpr ⟨lw_p44, List.forall_mem_cons.mpr ⟨lw_p45, List.forall_mem_cons.mpr ⟨lw_p46, List.forall_mem_cons.mpr ⟨lw_p47, fun _ h => absurd h List.not_mem_nil⟩⟩⟩⟩⟩⟩⟩⟩⟩⟩⟩⟩⟩⟩⟩⟩
theorem lw_p48 : lw_okq (⟨"KingDrops", "imageOf", "(I)LKingDrops$Present;"⟩, 11) := ⟨⟨by decide +kernel, by decide +kernel⟩, List.mem_of_getElem? (i := 10) (by decide +kernel), List.mem_of_getElem? (i := 477) (by decide +kernel), List.mem_of_getElem? (i := 478) (by decide +kernel)⟩
theorem lw_p49 : lw_okq (⟨"KingDrops$Present", "becomes", "(LKingDrops$Present;)V"⟩, 9) := ⟨⟨by decide +kernel, by decide +kernel⟩, List.mem_of_getElem? (i := 83) (by decide +kernel), List.mem_of_getElem? (i := 481) (by decide +kernel), List.mem_of_getElem? (i := 482) (by decide +kernel)⟩
theorem lw_p50 : lw_okq (⟨"KingDropsModel", "plain", "()V"⟩, 21) := ⟨⟨by decide +kernel, by decide +kernel⟩, List.mem_of_getElem? (i := 497) (by decide +kernel), List.mem_of_getElem? (i := 503) (by decide +kernel), List.mem_of_getElem? (i := 504) (by decide +kernel)⟩
theorem lw_p51 : lw_okq (⟨"KingDropsModel", "takeDraft", "()V"⟩, 21) := ⟨⟨by decide +kernel, by decide +kernel⟩, List.mem_of_getElem? (i := 497) (by decide +kernel), List.mem_of_getElem? (i := 507) (by decide +kernel), List.mem_of_getElem? (i := 508) (by decide +kernel)⟩
theorem lw_p52 : lw_okq (⟨"KingDropsModel", "step", "()V"⟩, 21) := ⟨⟨by decide +kernel, by decide +kernel⟩, List.mem_of_getElem? (i := 497) (by decide +kernel), List.mem_of_getElem? (i := 591) (by decide +kernel), List.mem_of_getElem? (i := 592) (by decide +kernel)⟩
theorem lw_p53 : lw_okq (⟨"KingDropsModel", "here", "()I"⟩, 21) := ⟨⟨by decide +kernel, by decide +kernel⟩, List.mem_of_getElem? (i := 497) (by decide +kernel), List.mem_of_getElem? (i := 595) (by decide +kernel), List.mem_of_getElem? (i := 596) (by decide +kernel)⟩
theorem lw_p54 : lw_okq (⟨"KingDropsModel", "mayBe", "(I)Z"⟩, 21) := ⟨⟨by decide +kernel, by decide +kernel⟩, List.mem_of_getElem? (i := 497) (by decide +kernel), List.mem_of_getElem? (i := 599) (by decide +kernel), List.mem_of_getElem? (i := 600) (by decide +kernel)⟩
theorem lw_p55 : lw_okq (⟨"KingDropsModel", "due", "(Z)I"⟩, 21) := ⟨⟨by decide +kernel, by decide +kernel⟩, List.mem_of_getElem? (i := 497) (by decide +kernel), List.mem_of_getElem? (i := 603) (by decide +kernel), List.mem_of_getElem? (i := 604) (by decide +kernel)⟩
theorem lw_p56 : lw_okq (⟨"KingDropsModel", "readRow", "(I)V"⟩, 21) := ⟨⟨by decide +kernel, by decide +kernel⟩, List.mem_of_getElem? (i := 497) (by decide +kernel), List.mem_of_getElem? (i := 607) (by decide +kernel), List.mem_of_getElem? (i := 608) (by decide +kernel)⟩
theorem lw_p57 : lw_okq (⟨"KingDropsModel", "number", "(II)I"⟩, 21) := ⟨⟨by decide +kernel, by decide +kernel⟩, List.mem_of_getElem? (i := 497) (by decide +kernel), List.mem_of_getElem? (i := 611) (by decide +kernel), List.mem_of_getElem? (i := 612) (by decide +kernel)⟩
theorem lw_p58 : lw_okq (⟨"KingDropsModel", "readAct", "()V"⟩, 21) := ⟨⟨by decide +kernel, by decide +kernel⟩, List.mem_of_getElem? (i := 497) (by decide +kernel), List.mem_of_getElem? (i := 615) (by decide +kernel), List.mem_of_getElem? (i := 616) (by decide +kernel)⟩
theorem lw_p59 : lw_okq (⟨"KingDropsModel", "isDecanter", "(I)Z"⟩, 21) := ⟨⟨by decide +kernel, by decide +kernel⟩, List.mem_of_getElem? (i := 497) (by decide +kernel), List.mem_of_getElem? (i := 623) (by decide +kernel), List.mem_of_getElem? (i := 624) (by decide +kernel)⟩
theorem lw_p60 : lw_okq (⟨"KingDropsModel", "span", "(I)I"⟩, 21) := ⟨⟨by decide +kernel, by decide +kernel⟩, List.mem_of_getElem? (i := 497) (by decide +kernel), List.mem_of_getElem? (i := 627) (by decide +kernel), List.mem_of_getElem? (i := 628) (by decide +kernel)⟩
theorem lw_p61 : lw_okq (⟨"KingDropsModel", "isAct", "(I)Z"⟩, 21) := ⟨⟨by decide +kernel, by decide +kernel⟩, List.mem_of_getElem? (i := 497) (by decide +kernel), List.mem_of_getElem? (i := 635) (by decide +kernel), List.mem_of_getElem? (i := 636) (by decide +kernel)⟩
theorem lw_p62 : lw_okq (⟨"KingDropsModel", "qualities", "(I)I"⟩, 21) := ⟨⟨by decide +kernel, by decide +kernel⟩, List.mem_of_getElem? (i := 497) (by decide +kernel), List.mem_of_getElem? (i := 639) (by decide +kernel), List.mem_of_getElem? (i := 640) (by decide +kernel)⟩
theorem lw_p63 : lw_okq (⟨"KingDropsModel", "needOf", "(II)I"⟩, 21) := ⟨⟨by decide +kernel, by decide +kernel⟩, List.mem_of_getElem? (i := 497) (by decide +kernel), List.mem_of_getElem? (i := 643) (by decide +kernel), List.mem_of_getElem? (i := 644) (by decide +kernel)⟩
def lw_privs_4 : List (MethodName × Nat) := [(⟨"KingDrops", "imageOf", "(I)LKingDrops$Present;"⟩, 11), (⟨"KingDrops$Present", "becomes", "(LKingDrops$Present;)V"⟩, 9), (⟨"KingDropsModel", "plain", "()V"⟩, 21), (⟨"KingDropsModel", "takeDraft", "()V"⟩, 21), (⟨"KingDropsModel", "step", "()V"⟩, 21), (⟨"KingDropsModel", "here", "()I"⟩, 21), (⟨"KingDropsModel", "mayBe", "(I)Z"⟩, 21), (⟨"KingDropsModel", "due", "(Z)I"⟩, 21), (⟨"KingDropsModel", "readRow", "(I)V"⟩, 21), (⟨"KingDropsModel", "number", "(II)I"⟩, 21), (⟨"KingDropsModel", "readAct", "()V"⟩, 21), (⟨"KingDropsModel", "isDecanter", "(I)Z"⟩, 21), (⟨"KingDropsModel", "span", "(I)I"⟩, 21), (⟨"KingDropsModel", "isAct", "(I)Z"⟩, 21), (⟨"KingDropsModel", "qualities", "(I)I"⟩, 21), (⟨"KingDropsModel", "needOf", "(II)I"⟩, 21)]
theorem lw_r4 : ∀ q ∈ lw_privs_4, lw_okq q := List.forall_mem_cons.mpr ⟨lw_p48, List.forall_mem_cons.mpr ⟨lw_p49, List.forall_mem_cons.mpr ⟨lw_p50, List.forall_mem_cons.mpr ⟨lw_p51, List.forall_mem_cons.mpr ⟨lw_p52, List.forall_mem_cons.mpr ⟨lw_p53, List.forall_mem_cons.mpr ⟨lw_p54, List.forall_mem_cons.mpr ⟨lw_p55, List.forall_mem_cons.mpr ⟨lw_p56, List.forall_mem_cons.mpr ⟨lw_p57, List.forall_mem_cons.mpr ⟨lw_p58, List.forall_mem_cons.mpr ⟨lw_p59, List.forall_mem_cons.mpr ⟨lw_p60, List.forall_mem_cons.mpr ⟨lw_p61, List.forall_mem_cons.mpr ⟨lw_p62, List.forall_mem_cons.mpr ⟨lw_p63, fun _ h => absurd h List.not_mem_nil⟩⟩⟩⟩⟩⟩⟩⟩⟩⟩⟩⟩⟩⟩⟩⟩
theorem lw_p64 : lw_okq (⟨"KingDropsModel", "isDone", "(I)Z"⟩, 21) := ⟨⟨by decide +kernel, by decide +kernel⟩, List.mem_of_getElem? (i := 497) (by decide +kernel), List.mem_of_getElem? (i := 647) (by decide +kernel), List.mem_of_getElem? (i := 648) (by decide +kernel)⟩
theorem lw_p65 : lw_okq (⟨"KingDropsModel", "lastOf", "(I)I"⟩, 21) := ⟨⟨by decide +kernel, by decide +kernel⟩, List.mem_of_getElem? (i := 497) (by decide +kernel), List.mem_of_getElem? (i := 651) (by decide +kernel), List.mem_of_getElem? (i := 652) (by decide +kernel)⟩
theorem lw_p66 : lw_okq (⟨"KingDropsModel", "can", "(II)Z"⟩, 21) := ⟨⟨by decide +kernel, by decide +kernel⟩, List.mem_of_getElem? (i := 497) (by decide +kernel), List.mem_of_getElem? (i := 655) (by decide +kernel), List.mem_of_getElem? (i := 656) (by decide +kernel)⟩
theorem lw_p67 : lw_okq (⟨"KingDropsModel", "with", "(I)I"⟩, 21) := ⟨⟨by decide +kernel, by decide +kernel⟩, List.mem_of_getElem? (i := 497) (by decide +kernel), List.mem_of_getElem? (i := 659) (by decide +kernel), List.mem_of_getElem? (i := 660) (by decide +kernel)⟩
theorem lw_p68 : lw_okq (⟨"KingDropsModel", "levelIn", "(II)I"⟩, 21) := ⟨⟨by decide +kernel, by decide +kernel⟩, List.mem_of_getElem? (i := 497) (by decide +kernel), List.mem_of_getElem? (i := 663) (by decide +kernel), List.mem_of_getElem? (i := 664) (by decide +kernel)⟩
theorem lw_p69 : lw_okq (⟨"KingDropsModel", "know", "()V"⟩, 21) := ⟨⟨by decide +kernel, by decide +kernel⟩, List.mem_of_getElem? (i := 497) (by decide +kernel), List.mem_of_getElem? (i := 675) (by decide +kernel), List.mem_of_getElem? (i := 676) (by decide +kernel)⟩
theorem lw_p70 : lw_okq (⟨"KingDropsModel", "settle", "()V"⟩, 21) := ⟨⟨by decide +kernel, by decide +kernel⟩, List.mem_of_getElem? (i := 497) (by decide +kernel), List.mem_of_getElem? (i := 679) (by decide +kernel), List.mem_of_getElem? (i := 680) (by decide +kernel)⟩
theorem lw_p71 : lw_okq (⟨"KingDropsModel", "rightOnes", "()I"⟩, 21) := ⟨⟨by decide +kernel, by decide +kernel⟩, List.mem_of_getElem? (i := 497) (by decide +kernel), List.mem_of_getElem? (i := 695) (by decide +kernel), List.mem_of_getElem? (i := 696) (by decide +kernel)⟩
theorem lw_p72 : lw_okq (⟨"KingDropsModel", "worthOf", "(I)I"⟩, 21) := ⟨⟨by decide +kernel, by decide +kernel⟩, List.mem_of_getElem? (i := 497) (by decide +kernel), List.mem_of_getElem? (i := 711) (by decide +kernel), List.mem_of_getElem? (i := 712) (by decide +kernel)⟩
theorem lw_p73 : lw_okq (⟨"KingDropsModel", "isAsTold", "()Z"⟩, 21) := ⟨⟨by decide +kernel, by decide +kernel⟩, List.mem_of_getElem? (i := 497) (by decide +kernel), List.mem_of_getElem? (i := 739) (by decide +kernel), List.mem_of_getElem? (i := 740) (by decide +kernel)⟩
theorem lw_p74 : lw_okq (⟨"KingDropsModel", "goOn", "()Z"⟩, 21) := ⟨⟨by decide +kernel, by decide +kernel⟩, List.mem_of_getElem? (i := 497) (by decide +kernel), List.mem_of_getElem? (i := 743) (by decide +kernel), List.mem_of_getElem? (i := 744) (by decide +kernel)⟩
def lw_privs_5 : List (MethodName × Nat) := [(⟨"KingDropsModel", "isDone", "(I)Z"⟩, 21), (⟨"KingDropsModel", "lastOf", "(I)I"⟩, 21), (⟨"KingDropsModel", "can", "(II)Z"⟩, 21), (⟨"KingDropsModel", "with", "(I)I"⟩, 21), (⟨"KingDropsModel", "levelIn", "(II)I"⟩, 21), (⟨"KingDropsModel", "know", "()V"⟩, 21), (⟨"KingDropsModel", "settle", "()V"⟩, 21), (⟨"KingDropsModel", "rightOnes", "()I"⟩, 21), (⟨"KingDropsModel", "worthOf", "(I)I"⟩, 21), (⟨"KingDropsModel", "isAsTold", "()Z"⟩, 21), (⟨"KingDropsModel", "goOn", "()Z"⟩, 21)]
theorem lw_r5 : ∀ q ∈ lw_privs_5, lw_okq q := List.forall_mem_cons.mpr ⟨lw_p64, List.forall_mem_cons.mpr ⟨lw_p65, List.forall_mem_cons.mpr ⟨lw_p66, List.forall_mem_cons.mpr ⟨lw_p67, List.forall_mem_cons.mpr ⟨lw_p68, List.forall_mem_cons.mpr ⟨lw_p69, List.forall_mem_cons.mpr ⟨lw_p70, List.forall_mem_cons.mpr ⟨lw_p71, List.forall_mem_cons.mpr ⟨lw_p72, List.forall_mem_cons.mpr ⟨lw_p73, List.forall_mem_cons.mpr ⟨lw_p74, fun _ h => absurd h List.not_mem_nil⟩⟩⟩⟩⟩⟩⟩⟩⟩⟩⟩
def lw_privs : List (MethodName × Nat) := lw_privs_1 ++ (lw_privs_2 ++ (lw_privs_3 ++ (lw_privs_4 ++ (lw_privs_5))))
def lw_tbl : List Cond := k2_sels lw_privs ++ tables_1
theorem lw_privs_ok : ∀ q ∈ lw_privs, lw_okq q := by
  show ∀ q ∈ lw_privs_1 ++ (lw_privs_2 ++ (lw_privs_3 ++ (lw_privs_4 ++ (lw_privs_5)))), lw_okq q
  exact List.forall_mem_append.mpr ⟨lw_r1, List.forall_mem_append.mpr ⟨lw_r2, List.forall_mem_append.mpr ⟨lw_r3, List.forall_mem_append.mpr ⟨lw_r4, lw_r5⟩⟩⟩⟩

/-- a nest mate's link -/
def zz_nest : Cond → Bool
  | .fieldLinkNest .. => true
  | .methodLinkNest .. => true
  | _ => false
/-- the words that all methods here share -/
def wsU : List Cond := lw_tbl.filter (fun w => goodWord w || zz_nest w)
theorem memU {w : Cond} (i : Nat) (h : (decide (lw_tbl[i]? = some w) && (goodWord w || zz_nest w)) = true) : w ∈ wsU := by
  rw [Bool.and_eq_true] at h
  exact List.mem_filter.mpr ⟨List.mem_of_getElem? (of_decide_eq_true h.1), h.2⟩
theorem memUs {ws : List Cond} (ps : List Nat) (h : (decide (ws = ps.filterMap (fun i => lw_tbl[i]?)) && ws.all (fun w => goodWord w || zz_nest w)) = true) : ∀ w ∈ ws, w ∈ wsU := by
  rw [Bool.and_eq_true] at h
  intro w hw
  have h2 := List.all_eq_true.mp h.2 w hw
  rw [of_decide_eq_true h.1] at hw
  obtain ⟨i, -, hi⟩ := List.mem_filterMap.mp hw
  exact List.mem_filter.mpr ⟨List.mem_of_getElem? hi, h2⟩
theorem payU {args : Array Value} {s : State} (h : ∀ w ∈ wsU, w.before args s = true) : ∀ w ∈ wsU, ∀ (a' : Array Value) (U : State), s.WarmedH U.vm → w.before a' U = true := by
  intro w hw a' U hW
  have h0 := h w hw
  have h1 := (List.mem_filter.mp hw).2
  rw [Bool.or_eq_true] at h1
  rcases h1 with h1 | h1
  · exact word_at hW (good_of_word h1) h0
  · cases w <;> first
      | (exact va_Nw.use rfl (va_Nw.warmF hW (va_Nw.of rfl h0)))
      | (exact va_Nw.use rfl (va_Nw.warmM hW (va_Nw.of rfl h0)))
      | (cases h1)
theorem wsU_tbl : ∀ w ∈ wsU, w ∈ lw_tbl := fun _ h => (List.mem_filter.mp h).1
end
section
def RX0 : String := "KingDrops$Present"
def TX0 : u_T := fun k => match k with
  | 0 => ("KingDrops$Present", "levels", "[I", true)
  | 1 => ("KingDrops$Present", "teas", "[I", true)
  | 2 => ("KingDrops$Present", "labels", "[I", true)
  | 3 => ("KingDrops$Present", "months", "I", false)
  | 4 => ("KingDrops$Present", "done", "I", false)
  | 5 => ("KingDrops$Present", "earned", "I", false)
  | 6 => ("KingDrops$Present", "blunders", "I", false)
  | 7 => ("KingDrops$Present", "steps", "[I", true)
  | _ => ("KingDrops$Present", "stepsKnown", "I", false)
def tyX0 : Nat → FieldType := fun k => match k with
  | 0 => .array .int
  | 1 => .array .int
  | 2 => .array .int
  | 3 => .int
  | 4 => .int
  | 5 => .int
  | 6 => .int
  | 7 => .array .int
  | _ => .int
abbrev wsX00 : List Cond := u_ws RX0 TX0 9
theorem nmX0 : ∀ a, a < 9 → ∀ b, b < 9 → a ≠ b → (TX0 a).2.1 ≠ (TX0 b).2.1 := by decide +kernel
theorem tyX0_ok : ∀ k, k < 9 → parseFieldDescriptor (TX0 k).2.2.1 = some (tyX0 k) := by decide +kernel
abbrev cX0_init : ByteArray := prog_2_method_1_code
def yX0_init : MethodName := ⟨RX0, "<init>", "()V"⟩
abbrev cX0_begins : ByteArray := prog_2_method_2_code
def yX0_begins : MethodName := ⟨RX0, "begins", "(LKingDrops$Sideboard;)V"⟩
abbrev cX0_loses : ByteArray := prog_2_method_3_code
def yX0_loses : MethodName := ⟨RX0, "loses", "(II)V"⟩
abbrev cX0_remembers : ByteArray := prog_2_method_4_code
def yX0_remembers : MethodName := ⟨RX0, "remembers", "()V"⟩
abbrev cX0_stepsBack : ByteArray := prog_2_method_5_code
def yX0_stepsBack : MethodName := ⟨RX0, "stepsBack", "()Z"⟩
abbrev cX0_becomes : ByteArray := prog_2_method_6_code
def yX0_becomes : MethodName := ⟨RX0, "becomes", "(LKingDrops$Present;)V"⟩
def RX1 : String := "KingDrops$Sideboard"
def TX1 : u_T := fun k => match k with
  | 0 => ("KingDrops$Sideboard", "decanters", "I", false)
  | 1 => ("KingDrops$Sideboard", "levels", "[I", true)
  | 2 => ("KingDrops$Sideboard", "airs", "[I", true)
  | 3 => ("KingDrops$Sideboard", "labels", "[I", true)
  | 4 => ("KingDrops$Sideboard", "acts", "I", false)
  | 5 => ("KingDrops$Sideboard", "worths", "[I", true)
  | _ => ("KingDrops$Sideboard", "drops", "[[I", true)
def tyX1 : Nat → FieldType := fun k => match k with
  | 0 => .int
  | 1 => .array .int
  | 2 => .array .int
  | 3 => .array .int
  | 4 => .int
  | 5 => .array .int
  | _ => .array (.array .int)
abbrev wsX10 : List Cond := u_ws RX1 TX1 7
theorem nmX1 : ∀ a, a < 7 → ∀ b, b < 7 → a ≠ b → (TX1 a).2.1 ≠ (TX1 b).2.1 := by decide +kernel
theorem tyX1_ok : ∀ k, k < 7 → parseFieldDescriptor (TX1 k).2.2.1 = some (tyX1 k) := by decide +kernel
abbrev cX1_init : ByteArray := prog_3_method_1_code
def yX1_init : MethodName := ⟨RX1, "<init>", "()V"⟩
abbrev cX1_empties : ByteArray := prog_3_method_2_code
def yX1_empties : MethodName := ⟨RX1, "empties", "()V"⟩
abbrev cX1_addsDecanter : ByteArray := prog_3_method_3_code
def yX1_addsDecanter : MethodName := ⟨RX1, "addsDecanter", "(II)V"⟩
abbrev cX1_addsAct : ByteArray := prog_3_method_4_code
def yX1_addsAct : MethodName := ⟨RX1, "addsAct", "(I)V"⟩
abbrev cX1_latestActNeeds : ByteArray := prog_3_method_5_code
def yX1_latestActNeeds : MethodName := ⟨RX1, "latestActNeeds", "(II)V"⟩
abbrev cX1_exchangesLabels : ByteArray := prog_3_method_6_code
def yX1_exchangesLabels : MethodName := ⟨RX1, "exchangesLabels", "(II)V"⟩
abbrev cX1_dropsNeeded : ByteArray := prog_3_method_7_code
def yX1_dropsNeeded : MethodName := ⟨RX1, "dropsNeeded", "(II)I"⟩
abbrev cX1_qualitiesNeeded : ByteArray := prog_3_method_8_code
def yX1_qualitiesNeeded : MethodName := ⟨RX1, "qualitiesNeeded", "(I)I"⟩
abbrev cX1_worthOf : ByteArray := prog_3_method_9_code
def yX1_worthOf : MethodName := ⟨RX1, "worthOf", "(I)I"⟩
def RX2 : String := "KingDrops$Text"
def TX2 : u_T := fun k => match k with
  | 0 => ("KingDrops$Text", "bytes", "[I", true)
  | 1 => ("KingDrops$Text", "length", "I", false)
  | 2 => ("KingDrops$Text", "place", "I", false)
  | 3 => ("KingDrops$Text", "token", "I", false)
  | 4 => ("KingDrops$Text", "tokenAt", "I", false)
  | _ => ("KingDrops$Text", "value", "I", false)
def tyX2 : Nat → FieldType := fun k => match k with
  | 0 => .array .int
  | 1 => .int
  | 2 => .int
  | 3 => .int
  | 4 => .int
  | _ => .int
abbrev wsX20 : List Cond := u_ws RX2 TX2 6
theorem nmX2 : ∀ a, a < 6 → ∀ b, b < 6 → a ≠ b → (TX2 a).2.1 ≠ (TX2 b).2.1 := by decide +kernel
theorem tyX2_ok : ∀ k, k < 6 → parseFieldDescriptor (TX2 k).2.2.1 = some (tyX2 k) := by decide +kernel
abbrev cX2_init : ByteArray := prog_4_method_1_code
def yX2_init : MethodName := ⟨RX2, "<init>", "()V"⟩
abbrev cX2_takes : ByteArray := prog_4_method_2_code
def yX2_takes : MethodName := ⟨RX2, "takes", "(I)Z"⟩
abbrev cX2_readsInto : ByteArray := prog_4_method_3_code
def yX2_readsInto : MethodName := ⟨RX2, "readsInto", "(LKingDrops$Sideboard;)I"⟩
abbrev cX2_readsItem : ByteArray := prog_4_method_4_code
def yX2_readsItem : MethodName := ⟨RX2, "readsItem", "(LKingDrops$Sideboard;)Z"⟩
abbrev cX2_readsDecanter : ByteArray := prog_4_method_5_code
def yX2_readsDecanter : MethodName := ⟨RX2, "readsDecanter", "(LKingDrops$Sideboard;)Z"⟩
abbrev cX2_readsAct : ByteArray := prog_4_method_6_code
def yX2_readsAct : MethodName := ⟨RX2, "readsAct", "(LKingDrops$Sideboard;)Z"⟩
abbrev cX2_readsExchange : ByteArray := prog_4_method_7_code
def yX2_readsExchange : MethodName := ⟨RX2, "readsExchange", "(LKingDrops$Sideboard;)Z"⟩
abbrev cX2_readsNumber : ByteArray := prog_4_method_8_code
def yX2_readsNumber : MethodName := ⟨RX2, "readsNumber", "(I)Z"⟩
abbrev cX2_readsStop : ByteArray := prog_4_method_9_code
def yX2_readsStop : MethodName := ⟨RX2, "readsStop", "()Z"⟩
abbrev cX2_advances : ByteArray := prog_4_method_10_code
def yX2_advances : MethodName := ⟨RX2, "advances", "()V"⟩
abbrev cX2_setsValue : ByteArray := prog_4_method_11_code
def yX2_setsValue : MethodName := ⟨RX2, "setsValue", "(III)V"⟩
abbrev cX2_byteAt : ByteArray := prog_4_method_12_code
def yX2_byteAt : MethodName := ⟨RX2, "byteAt", "(I)I"⟩
abbrev cX2_sortOf : ByteArray := prog_4_method_13_code
def yX2_sortOf : MethodName := ⟨RX2, "sortOf", "(I)I"⟩
def RX3 : String := "KingDrops"
def TX3 : u_T := fun k => match k with
  | 0 => ("KingDrops", "text", "LKingDrops$Text;", true)
  | 1 => ("KingDrops", "board", "LKingDrops$Sideboard;", false)
  | 2 => ("KingDrops", "draft", "LKingDrops$Sideboard;", false)
  | 3 => ("KingDrops", "present", "LKingDrops$Present;", true)
  | 4 => ("KingDrops", "firstImage", "LKingDrops$Present;", true)
  | 5 => ("KingDrops", "secondImage", "LKingDrops$Present;", true)
  | 6 => ("KingDrops", "imagesKept", "I", false)
  | 7 => ("KingDrops", "toldNeeds", "[I", true)
  | 8 => ("KingDrops", "toldWell", "[Z", true)
  | 9 => ("KingDrops", "told", "I", false)
  | _ => ("KingDrops", "traced", "J", false)
def tyX3 : Nat → FieldType := fun k => match k with
  | 0 => .object "KingDrops$Text"
  | 1 => .object "KingDrops$Sideboard"
  | 2 => .object "KingDrops$Sideboard"
  | 3 => .object "KingDrops$Present"
  | 4 => .object "KingDrops$Present"
  | 5 => .object "KingDrops$Present"
  | 6 => .int
  | 7 => .array .int
  | 8 => .array .boolean
  | 9 => .int
  | _ => .long
abbrev wsX30 : List Cond := u_ws RX3 TX3 11
theorem nmX3 : ∀ a, a < 11 → ∀ b, b < 11 → a ≠ b → (TX3 a).2.1 ≠ (TX3 b).2.1 := by decide +kernel
theorem tyX3_ok : ∀ k, k < 11 → parseFieldDescriptor (TX3 k).2.2.1 = some (tyX3 k) := by decide +kernel
abbrev cX3_init : ByteArray := prog_1_method_1_code
def yX3_init : MethodName := ⟨RX3, "<init>", "()V"⟩
abbrev cX3_type : ByteArray := prog_1_method_2_code
def yX3_type : MethodName := ⟨RX3, "type", "(I)I"⟩
abbrev cX3_clear : ByteArray := prog_1_method_3_code
def yX3_clear : MethodName := ⟨RX3, "clear", "()I"⟩
abbrev cX3_sideboard : ByteArray := prog_1_method_4_code
def yX3_sideboard : MethodName := ⟨RX3, "sideboard", "()I"⟩
abbrev cX3_decanter : ByteArray := prog_1_method_5_code
def yX3_decanter : MethodName := ⟨RX3, "decanter", "(II)I"⟩
abbrev cX3_act : ByteArray := prog_1_method_6_code
def yX3_act : MethodName := ⟨RX3, "act", "(II)I"⟩
abbrev cX3_needs : ByteArray := prog_1_method_7_code
def yX3_needs : MethodName := ⟨RX3, "needs", "(II)I"⟩
abbrev cX3_pours : ByteArray := prog_1_method_8_code
def yX3_pours : MethodName := ⟨RX3, "pours", "(I)I"⟩
abbrev cX3_month : ByteArray := prog_1_method_9_code
def yX3_month : MethodName := ⟨RX3, "month", "()I"⟩
abbrev cX3_tops : ByteArray := prog_1_method_10_code
def yX3_tops : MethodName := ⟨RX3, "tops", "(II)I"⟩
abbrev cX3_labels : ByteArray := prog_1_method_11_code
def yX3_labels : MethodName := ⟨RX3, "labels", "(II)I"⟩
abbrev cX3_undo : ByteArray := prog_1_method_12_code
def yX3_undo : MethodName := ⟨RX3, "undo", "()I"⟩
abbrev cX3_now : ByteArray := prog_1_method_13_code
def yX3_now : MethodName := ⟨RX3, "now", "(I)I"⟩
abbrev cX3_tray : ByteArray := prog_1_method_14_code
def yX3_tray : MethodName := ⟨RX3, "tray", "(I)I"⟩
abbrev cX3_right : ByteArray := prog_1_method_15_code
def yX3_right : MethodName := ⟨RX3, "right", "(I)I"⟩
abbrev cX3_share : ByteArray := prog_1_method_16_code
def yX3_share : MethodName := ⟨RX3, "share", "(I)I"⟩
abbrev cX3_odds : ByteArray := prog_1_method_17_code
def yX3_odds : MethodName := ⟨RX3, "odds", "(III)I"⟩
abbrev cX3_tells : ByteArray := prog_1_method_18_code
def yX3_tells : MethodName := ⟨RX3, "tells", "(II)I"⟩
abbrev cX3_forget : ByteArray := prog_1_method_19_code
def yX3_forget : MethodName := ⟨RX3, "forget", "()I"⟩
abbrev cX3_fits : ByteArray := prog_1_method_20_code
def yX3_fits : MethodName := ⟨RX3, "fits", "(I)I"⟩
abbrev cX3_mark : ByteArray := prog_1_method_21_code
def yX3_mark : MethodName := ⟨RX3, "mark", "(II)I"⟩
abbrev cX3_keep : ByteArray := prog_1_method_22_code
def yX3_keep : MethodName := ⟨RX3, "keep", "(I)I"⟩
abbrev cX3_back : ByteArray := prog_1_method_23_code
def yX3_back : MethodName := ⟨RX3, "back", "(I)I"⟩
abbrev cX3_count : ByteArray := prog_1_method_24_code
def yX3_count : MethodName := ⟨RX3, "count", "(I)I"⟩
abbrev cX3_trace : ByteArray := prog_1_method_25_code
def yX3_trace : MethodName := ⟨RX3, "trace", "()J"⟩
abbrev cX3_isDecanter : ByteArray := prog_1_method_26_code
def yX3_isDecanter : MethodName := ⟨RX3, "isDecanter", "(I)Z"⟩
abbrev cX3_isAct : ByteArray := prog_1_method_27_code
def yX3_isAct : MethodName := ⟨RX3, "isAct", "(I)Z"⟩
abbrev cX3_isDone : ByteArray := prog_1_method_28_code
def yX3_isDone : MethodName := ⟨RX3, "isDone", "(I)Z"⟩
abbrev cX3_has : ByteArray := prog_1_method_29_code
def yX3_has : MethodName := ⟨RX3, "has", "(II)Z"⟩
abbrev cX3_isNoughtOrOne : ByteArray := prog_1_method_30_code
def yX3_isNoughtOrOne : MethodName := ⟨RX3, "isNoughtOrOne", "(I)Z"⟩
abbrev cX3_imageOf : ByteArray := prog_1_method_31_code
def yX3_imageOf : MethodName := ⟨RX3, "imageOf", "(I)LKingDrops$Present;"⟩
abbrev cX3_dropsFrom : ByteArray := prog_1_method_32_code
def yX3_dropsFrom : MethodName := ⟨RX3, "dropsFrom", "(II)I"⟩
abbrev cX3_isEnoughFor : ByteArray := prog_1_method_33_code
def yX3_isEnoughFor : MethodName := ⟨RX3, "isEnoughFor", "(I)Z"⟩
abbrev cX3_isEnoughForAll : ByteArray := prog_1_method_34_code
def yX3_isEnoughForAll : MethodName := ⟨RX3, "isEnoughForAll", "(I)Z"⟩
abbrev cX3_wouldGoWell : ByteArray := prog_1_method_35_code
def yX3_wouldGoWell : MethodName := ⟨RX3, "wouldGoWell", "(I)Z"⟩
abbrev cX3_actsThatCan : ByteArray := prog_1_method_36_code
def yX3_actsThatCan : MethodName := ⟨RX3, "actsThatCan", "()I"⟩
abbrev cX3_span : ByteArray := prog_1_method_37_code
def yX3_span : MethodName := ⟨RX3, "span", "(I)I"⟩
abbrev cX3_lastMonth : ByteArray := prog_1_method_38_code
def yX3_lastMonth : MethodName := ⟨RX3, "lastMonth", "(I)I"⟩
abbrev cX3_fewestChanges : ByteArray := prog_1_method_39_code
def yX3_fewestChanges : MethodName := ⟨RX3, "fewestChanges", "()I"⟩
abbrev cX3_ringOf : ByteArray := prog_1_method_40_code
def yX3_ringOf : MethodName := ⟨RX3, "ringOf", "(I)I"⟩
abbrev cX3_firstChange : ByteArray := prog_1_method_41_code
def yX3_firstChange : MethodName := ⟨RX3, "firstChange", "()I"⟩
abbrev cX3_levelsTogether : ByteArray := prog_1_method_42_code
def yX3_levelsTogether : MethodName := ⟨RX3, "levelsTogether", "()I"⟩
abbrev cX3_differenceOf : ByteArray := prog_1_method_43_code
def yX3_differenceOf : MethodName := ⟨RX3, "differenceOf", "(I)I"⟩
abbrev cX3_inLeastTerms : ByteArray := prog_1_method_44_code
def yX3_inLeastTerms : MethodName := ⟨RX3, "inLeastTerms", "(II)I"⟩
abbrev cX3_agreesWithTold : ByteArray := prog_1_method_45_code
def yX3_agreesWithTold : MethodName := ⟨RX3, "agreesWithTold", "(I)Z"⟩
abbrev cX3_waysWithOwn : ByteArray := prog_1_method_46_code
def yX3_waysWithOwn : MethodName := ⟨RX3, "waysWithOwn", "(I)I"⟩
abbrev cX3_waysThatFit : ByteArray := prog_1_method_47_code
def yX3_waysThatFit : MethodName := ⟨RX3, "waysThatFit", "()I"⟩
abbrev cX3_sureLabel : ByteArray := prog_1_method_48_code
def yX3_sureLabel : MethodName := ⟨RX3, "sureLabel", "(I)I"⟩
abbrev cX3_markOfAct : ByteArray := prog_1_method_49_code
def yX3_markOfAct : MethodName := ⟨RX3, "markOfAct", "(I)I"⟩
abbrev cX3_markOfTreaty : ByteArray := prog_1_method_50_code
def yX3_markOfTreaty : MethodName := ⟨RX3, "markOfTreaty", "(I)I"⟩
abbrev cX3_markOfWar : ByteArray := prog_1_method_51_code
def yX3_markOfWar : MethodName := ⟨RX3, "markOfWar", "(I)I"⟩
abbrev cX3_markOfPardon : ByteArray := prog_1_method_52_code
def yX3_markOfPardon : MethodName := ⟨RX3, "markOfPardon", "(I)I"⟩
abbrev cX3_markOfHunt : ByteArray := prog_1_method_53_code
def yX3_markOfHunt : MethodName := ⟨RX3, "markOfHunt", "(I)I"⟩
abbrev cX3_markOfBreath : ByteArray := prog_1_method_54_code
def yX3_markOfBreath : MethodName := ⟨RX3, "markOfBreath", "(I)I"⟩
def RX4 : String := "KingDropsModel"
def TX4 : u_T := fun k => match k with
  | 0 => ("KingDropsModel", "trace", "J", false)
  | 1 => ("KingDropsModel", "text", "[B", true)
  | 2 => ("KingDropsModel", "typed", "I", false)
  | 3 => ("KingDropsModel", "decanters", "[I", true)
  | 4 => ("KingDropsModel", "draftLevel", "[I", true)
  | 5 => ("KingDropsModel", "draftLabel", "[I", true)
  | 6 => ("KingDropsModel", "air", "[I", true)
  | 7 => ("KingDropsModel", "acts", "[I", true)
  | 8 => ("KingDropsModel", "worth", "[I", true)
  | 9 => ("KingDropsModel", "need", "[I", true)
  | 10 => ("KingDropsModel", "at", "I", false)
  | 11 => ("KingDropsModel", "start", "I", false)
  | 12 => ("KingDropsModel", "sort", "I", false)
  | 13 => ("KingDropsModel", "value", "I", false)
  | 14 => ("KingDropsModel", "fault", "I", false)
  | 15 => ("KingDropsModel", "now", "[I", true)
  | 16 => ("KingDropsModel", "isKept", "[Z", true)
  | 17 => ("KingDropsModel", "toldAct", "[I", true)
  | 18 => ("KingDropsModel", "toldWell", "[I", true)
  | 19 => ("KingDropsModel", "told", "I", false)
  | _ => ("KingDropsModel", "hangs", "[I", true)
def tyX4 : Nat → FieldType := fun k => match k with
  | 0 => .long
  | 1 => .array .byte
  | 2 => .int
  | 3 => .array .int
  | 4 => .array .int
  | 5 => .array .int
  | 6 => .array .int
  | 7 => .array .int
  | 8 => .array .int
  | 9 => .array .int
  | 10 => .int
  | 11 => .int
  | 12 => .int
  | 13 => .int
  | 14 => .int
  | 15 => .array .int
  | 16 => .array .boolean
  | 17 => .array .int
  | 18 => .array .int
  | 19 => .int
  | _ => .array .int
abbrev wsX40 : List Cond := u_ws RX4 TX4 21
theorem nmX4 : ∀ a, a < 21 → ∀ b, b < 21 → a ≠ b → (TX4 a).2.1 ≠ (TX4 b).2.1 := by decide +kernel
theorem tyX4_ok : ∀ k, k < 21 → parseFieldDescriptor (TX4 k).2.2.1 = some (tyX4 k) := by decide +kernel
abbrev cX4_init : ByteArray := prog_6_method_1_code
def yX4_init : MethodName := ⟨RX4, "<init>", "()V"⟩
abbrev cX4_in : ByteArray := prog_6_method_3_code
def yX4_in : MethodName := ⟨RX4, "in", "(III)Z"⟩
abbrev cX4_type : ByteArray := prog_6_method_4_code
def yX4_type : MethodName := ⟨RX4, "type", "(I)I"⟩
abbrev cX4_clear : ByteArray := prog_6_method_5_code
def yX4_clear : MethodName := ⟨RX4, "clear", "()I"⟩
abbrev cX4_here : ByteArray := prog_6_method_6_code
def yX4_here : MethodName := ⟨RX4, "here", "()I"⟩
abbrev cX4_step : ByteArray := prog_6_method_7_code
def yX4_step : MethodName := ⟨RX4, "step", "()V"⟩
abbrev cX4_due : ByteArray := prog_6_method_8_code
def yX4_due : MethodName := ⟨RX4, "due", "(Z)I"⟩
abbrev cX4_number : ByteArray := prog_6_method_9_code
def yX4_number : MethodName := ⟨RX4, "number", "(II)I"⟩
abbrev cX4_mayBe : ByteArray := prog_6_method_10_code
def yX4_mayBe : MethodName := ⟨RX4, "mayBe", "(I)Z"⟩
abbrev cX4_readAct : ByteArray := prog_6_method_11_code
def yX4_readAct : MethodName := ⟨RX4, "readAct", "()V"⟩
abbrev cX4_readRow : ByteArray := prog_6_method_12_code
def yX4_readRow : MethodName := ⟨RX4, "readRow", "(I)V"⟩
abbrev cX4_plain : ByteArray := prog_6_method_13_code
def yX4_plain : MethodName := ⟨RX4, "plain", "()V"⟩
abbrev cX4_takeDraft : ByteArray := prog_6_method_14_code
def yX4_takeDraft : MethodName := ⟨RX4, "takeDraft", "()V"⟩
abbrev cX4_sideboard : ByteArray := prog_6_method_15_code
def yX4_sideboard : MethodName := ⟨RX4, "sideboard", "()I"⟩
abbrev cX4_isDecanter : ByteArray := prog_6_method_16_code
def yX4_isDecanter : MethodName := ⟨RX4, "isDecanter", "(I)Z"⟩
abbrev cX4_isAct : ByteArray := prog_6_method_17_code
def yX4_isAct : MethodName := ⟨RX4, "isAct", "(I)Z"⟩
abbrev cX4_isDone : ByteArray := prog_6_method_18_code
def yX4_isDone : MethodName := ⟨RX4, "isDone", "(I)Z"⟩
abbrev cX4_needOf : ByteArray := prog_6_method_19_code
def yX4_needOf : MethodName := ⟨RX4, "needOf", "(II)I"⟩
abbrev cX4_with : ByteArray := prog_6_method_20_code
def yX4_with : MethodName := ⟨RX4, "with", "(I)I"⟩
abbrev cX4_levelIn : ByteArray := prog_6_method_21_code
def yX4_levelIn : MethodName := ⟨RX4, "levelIn", "(II)I"⟩
abbrev cX4_can : ByteArray := prog_6_method_22_code
def yX4_can : MethodName := ⟨RX4, "can", "(II)Z"⟩
abbrev cX4_span : ByteArray := prog_6_method_23_code
def yX4_span : MethodName := ⟨RX4, "span", "(I)I"⟩
abbrev cX4_lastOf : ByteArray := prog_6_method_24_code
def yX4_lastOf : MethodName := ⟨RX4, "lastOf", "(I)I"⟩
abbrev cX4_qualities : ByteArray := prog_6_method_25_code
def yX4_qualities : MethodName := ⟨RX4, "qualities", "(I)I"⟩
abbrev cX4_manyOf : ByteArray := prog_6_method_26_code
def yX4_manyOf : MethodName := ⟨RX4, "manyOf", "(I)I"⟩
abbrev cX4_decanter : ByteArray := prog_6_method_27_code
def yX4_decanter : MethodName := ⟨RX4, "decanter", "(II)I"⟩
abbrev cX4_act : ByteArray := prog_6_method_28_code
def yX4_act : MethodName := ⟨RX4, "act", "(II)I"⟩
abbrev cX4_needs : ByteArray := prog_6_method_29_code
def yX4_needs : MethodName := ⟨RX4, "needs", "(II)I"⟩
abbrev cX4_know : ByteArray := prog_6_method_30_code
def yX4_know : MethodName := ⟨RX4, "know", "()V"⟩
abbrev cX4_settle : ByteArray := prog_6_method_31_code
def yX4_settle : MethodName := ⟨RX4, "settle", "()V"⟩
abbrev cX4_pours : ByteArray := prog_6_method_32_code
def yX4_pours : MethodName := ⟨RX4, "pours", "(I)I"⟩
abbrev cX4_month : ByteArray := prog_6_method_33_code
def yX4_month : MethodName := ⟨RX4, "month", "()I"⟩
abbrev cX4_tops : ByteArray := prog_6_method_34_code
def yX4_tops : MethodName := ⟨RX4, "tops", "(II)I"⟩
abbrev cX4_rightOnes : ByteArray := prog_6_method_35_code
def yX4_rightOnes : MethodName := ⟨RX4, "rightOnes", "()I"⟩
abbrev cX4_labels : ByteArray := prog_6_method_36_code
def yX4_labels : MethodName := ⟨RX4, "labels", "(II)I"⟩
abbrev cX4_undo : ByteArray := prog_6_method_37_code
def yX4_undo : MethodName := ⟨RX4, "undo", "()I"⟩
abbrev cX4_now : ByteArray := prog_6_method_38_code
def yX4_now : MethodName := ⟨RX4, "now", "(I)I"⟩
abbrev cX4_worthOf : ByteArray := prog_6_method_39_code
def yX4_worthOf : MethodName := ⟨RX4, "worthOf", "(I)I"⟩
abbrev cX4_tray : ByteArray := prog_6_method_40_code
def yX4_tray : MethodName := ⟨RX4, "tray", "(I)I"⟩
abbrev cX4_right : ByteArray := prog_6_method_41_code
def yX4_right : MethodName := ⟨RX4, "right", "(I)I"⟩
abbrev cX4_share : ByteArray := prog_6_method_42_code
def yX4_share : MethodName := ⟨RX4, "share", "(I)I"⟩
abbrev cX4_odds : ByteArray := prog_6_method_43_code
def yX4_odds : MethodName := ⟨RX4, "odds", "(III)I"⟩
abbrev cX4_tells : ByteArray := prog_6_method_44_code
def yX4_tells : MethodName := ⟨RX4, "tells", "(II)I"⟩
abbrev cX4_forget : ByteArray := prog_6_method_45_code
def yX4_forget : MethodName := ⟨RX4, "forget", "()I"⟩
abbrev cX4_goOn : ByteArray := prog_6_method_46_code
def yX4_goOn : MethodName := ⟨RX4, "goOn", "()Z"⟩
abbrev cX4_isAsTold : ByteArray := prog_6_method_47_code
def yX4_isAsTold : MethodName := ⟨RX4, "isAsTold", "()Z"⟩
abbrev cX4_fits : ByteArray := prog_6_method_48_code
def yX4_fits : MethodName := ⟨RX4, "fits", "(I)I"⟩
abbrev cX4_mark : ByteArray := prog_6_method_49_code
def yX4_mark : MethodName := ⟨RX4, "mark", "(II)I"⟩
abbrev cX4_keep : ByteArray := prog_6_method_50_code
def yX4_keep : MethodName := ⟨RX4, "keep", "(I)I"⟩
abbrev cX4_back : ByteArray := prog_6_method_51_code
def yX4_back : MethodName := ⟨RX4, "back", "(I)I"⟩
abbrev cX4_count : ByteArray := prog_6_method_52_code
def yX4_count : MethodName := ⟨RX4, "count", "(I)I"⟩
abbrev cX4_trace : ByteArray := prog_6_method_53_code
def yX4_trace : MethodName := ⟨RX4, "trace", "()J"⟩
def RJ6 : String := "java/lang/Integer"
def TJ6 : u_T := fun k => match k with
  | _ => ("", "", "", false)
def tyJ6 : Nat → FieldType := fun k => match k with
  | _ => .int
abbrev wsJ60 : List Cond := u_ws RJ6 TJ6 0
theorem nmJ6 : ∀ a, a < 0 → ∀ b, b < 0 → a ≠ b → (TJ6 a).2.1 ≠ (TJ6 b).2.1 := by decide +kernel
theorem tyJ6_ok : ∀ k, k < 0 → parseFieldDescriptor (TJ6 k).2.2.1 = some (tyJ6 k) := by decide +kernel
abbrev cJ6_bitCount_0f7a4 : ByteArray := prog_7_method_49_code
def yJ6_bitCount_0f7a4 : MethodName := ⟨RJ6, "bitCount", "(I)I"⟩
def RJ9 : String := "java/lang/Math"
def TJ9 : u_T := fun k => match k with
  | _ => ("", "", "", false)
def tyJ9 : Nat → FieldType := fun k => match k with
  | _ => .int
abbrev wsJ90 : List Cond := u_ws RJ9 TJ9 0
theorem nmJ9 : ∀ a, a < 0 → ∀ b, b < 0 → a ≠ b → (TJ9 a).2.1 ≠ (TJ9 b).2.1 := by decide +kernel
theorem tyJ9_ok : ∀ k, k < 0 → parseFieldDescriptor (TJ9 k).2.2.1 = some (tyJ9 k) := by decide +kernel
abbrev cJ9_abs_0f7a4 : ByteArray := prog_8_method_59_code
def yJ9_abs_0f7a4 : MethodName := ⟨RJ9, "abs", "(I)I"⟩
abbrev cJ9_max_7cf53 : ByteArray := prog_8_method_65_code
def yJ9_max_7cf53 : MethodName := ⟨RJ9, "max", "(II)I"⟩
abbrev cJ9_min_7cf53 : ByteArray := prog_8_method_69_code
def yJ9_min_7cf53 : MethodName := ⟨RJ9, "min", "(II)I"⟩
def RJ10 : String := "java/lang/System"
def TJ10 : u_T := fun k => match k with
  | _ => ("", "", "", false)
def tyJ10 : Nat → FieldType := fun k => match k with
  | _ => .int
abbrev wsJ100 : List Cond := u_ws RJ10 TJ10 0
theorem nmJ10 : ∀ a, a < 0 → ∀ b, b < 0 → a ≠ b → (TJ10 a).2.1 ≠ (TJ10 b).2.1 := by decide +kernel
theorem tyJ10_ok : ∀ k, k < 0 → parseFieldDescriptor (TJ10 k).2.2.1 = some (tyJ10 k) := by decide +kernel
def RL : String := "KingDropsLaw"
abbrev cL_law : ByteArray := code
def yL_law : MethodName := ⟨RL, "law", "([I)Z"⟩
abbrev vwCl : List vw_C := [(RX0, TX0, 9), (RX1, TX1, 7), (RX2, TX2, 6), (RX3, TX3, 11), (RX4, TX4, 21)]
end
section
theorem dX0_init_0 : decode cX0_init 0 = .ok (.aload_n 0, 1) := by decide +kernel
theorem dX0_init_1 : decode cX0_init 1 = .ok (.invokespecial 5, 3) := by decide +kernel
theorem dX0_init_4 : decode cX0_init 4 = .ok (.aload_n 0, 1) := by decide +kernel
theorem dX0_init_5 : decode cX0_init 5 = .ok (.bipush 6, 2) := by decide +kernel
theorem dX0_init_7 : decode cX0_init 7 = .ok (.newarray .int, 2) := by decide +kernel
theorem dX0_init_9 : decode cX0_init 9 = .ok (.putfield 11, 3) := by decide +kernel
theorem dX0_init_12 : decode cX0_init 12 = .ok (.aload_n 0, 1) := by decide +kernel
theorem dX0_init_13 : decode cX0_init 13 = .ok (.bipush 6, 2) := by decide +kernel
theorem dX0_init_15 : decode cX0_init 15 = .ok (.newarray .int, 2) := by decide +kernel
theorem dX0_init_17 : decode cX0_init 17 = .ok (.putfield 15, 3) := by decide +kernel
theorem dX0_init_20 : decode cX0_init 20 = .ok (.aload_n 0, 1) := by decide +kernel
theorem dX0_init_21 : decode cX0_init 21 = .ok (.bipush 6, 2) := by decide +kernel
theorem dX0_init_23 : decode cX0_init 23 = .ok (.newarray .int, 2) := by decide +kernel
theorem dX0_init_25 : decode cX0_init 25 = .ok (.putfield 18, 3) := by decide +kernel
theorem dX0_init_28 : decode cX0_init 28 = .ok (.aload_n 0, 1) := by decide +kernel
theorem dX0_init_29 : decode cX0_init 29 = .ok (.iconst 0, 1) := by decide +kernel
theorem dX0_init_30 : decode cX0_init 30 = .ok (.putfield 21, 3) := by decide +kernel
theorem dX0_init_33 : decode cX0_init 33 = .ok (.aload_n 0, 1) := by decide +kernel
theorem dX0_init_34 : decode cX0_init 34 = .ok (.iconst 0, 1) := by decide +kernel
theorem dX0_init_35 : decode cX0_init 35 = .ok (.putfield 25, 3) := by decide +kernel
theorem dX0_init_38 : decode cX0_init 38 = .ok (.aload_n 0, 1) := by decide +kernel
theorem dX0_init_39 : decode cX0_init 39 = .ok (.iconst 0, 1) := by decide +kernel
theorem dX0_init_40 : decode cX0_init 40 = .ok (.putfield 28, 3) := by decide +kernel
theorem dX0_init_43 : decode cX0_init 43 = .ok (.aload_n 0, 1) := by decide +kernel
theorem dX0_init_44 : decode cX0_init 44 = .ok (.iconst 0, 1) := by decide +kernel
theorem dX0_init_45 : decode cX0_init 45 = .ok (.putfield 31, 3) := by decide +kernel
theorem dX0_init_48 : decode cX0_init 48 = .ok (.aload_n 0, 1) := by decide +kernel
theorem dX0_init_49 : decode cX0_init 49 = .ok (.sipush 220, 3) := by decide +kernel
theorem dX0_init_52 : decode cX0_init 52 = .ok (.newarray .int, 2) := by decide +kernel
theorem dX0_init_54 : decode cX0_init 54 = .ok (.putfield 34, 3) := by decide +kernel
theorem dX0_init_57 : decode cX0_init 57 = .ok (.aload_n 0, 1) := by decide +kernel
theorem dX0_init_58 : decode cX0_init 58 = .ok (.iconst 0, 1) := by decide +kernel
theorem dX0_init_59 : decode cX0_init 59 = .ok (.putfield 37, 3) := by decide +kernel
theorem dX0_init_62 : decode cX0_init 62 = .ok (.return_, 1) := by decide +kernel
theorem dX0_begins_0 : decode cX0_begins 0 = .ok (.iconst 0, 1) := by decide +kernel
theorem dX0_begins_1 : decode cX0_begins 1 = .ok (.istore_n 2, 1) := by decide +kernel
theorem dX0_begins_2 : decode cX0_begins 2 = .ok (.iload_n 2, 1) := by decide +kernel
theorem dX0_begins_3 : decode cX0_begins 3 = .ok (.bipush 6, 2) := by decide +kernel
theorem dX0_begins_5 : decode cX0_begins 5 = .ok (.if_icmp .ge 40, 3) := by decide +kernel
theorem dX0_begins_8 : decode cX0_begins 8 = .ok (.aload_n 0, 1) := by decide +kernel
theorem dX0_begins_9 : decode cX0_begins 9 = .ok (.getfield 11, 3) := by decide +kernel
theorem dX0_begins_12 : decode cX0_begins 12 = .ok (.iload_n 2, 1) := by decide +kernel
theorem dX0_begins_13 : decode cX0_begins 13 = .ok (.aload_n 1, 1) := by decide +kernel
theorem dX0_begins_14 : decode cX0_begins 14 = .ok (.getfield 40, 3) := by decide +kernel
theorem dX0_begins_17 : decode cX0_begins 17 = .ok (.iload_n 2, 1) := by decide +kernel
theorem dX0_begins_18 : decode cX0_begins 18 = .ok (.iaload, 1) := by decide +kernel
theorem dX0_begins_19 : decode cX0_begins 19 = .ok (.iastore, 1) := by decide +kernel
theorem dX0_begins_20 : decode cX0_begins 20 = .ok (.aload_n 0, 1) := by decide +kernel
theorem dX0_begins_21 : decode cX0_begins 21 = .ok (.getfield 15, 3) := by decide +kernel
theorem dX0_begins_24 : decode cX0_begins 24 = .ok (.iload_n 2, 1) := by decide +kernel
theorem dX0_begins_25 : decode cX0_begins 25 = .ok (.iconst 0, 1) := by decide +kernel
theorem dX0_begins_26 : decode cX0_begins 26 = .ok (.iastore, 1) := by decide +kernel
theorem dX0_begins_27 : decode cX0_begins 27 = .ok (.aload_n 0, 1) := by decide +kernel
theorem dX0_begins_28 : decode cX0_begins 28 = .ok (.getfield 18, 3) := by decide +kernel
theorem dX0_begins_31 : decode cX0_begins 31 = .ok (.iload_n 2, 1) := by decide +kernel
theorem dX0_begins_32 : decode cX0_begins 32 = .ok (.aload_n 1, 1) := by decide +kernel
theorem dX0_begins_33 : decode cX0_begins 33 = .ok (.getfield 43, 3) := by decide +kernel
theorem dX0_begins_36 : decode cX0_begins 36 = .ok (.iload_n 2, 1) := by decide +kernel
theorem dX0_begins_37 : decode cX0_begins 37 = .ok (.iaload, 1) := by decide +kernel
theorem dX0_begins_38 : decode cX0_begins 38 = .ok (.iastore, 1) := by decide +kernel
theorem dX0_begins_39 : decode cX0_begins 39 = .ok (.iinc 2 1, 3) := by decide +kernel
theorem dX0_begins_42 : decode cX0_begins 42 = .ok (.goto (-40), 3) := by decide +kernel
theorem dX0_begins_45 : decode cX0_begins 45 = .ok (.aload_n 0, 1) := by decide +kernel
theorem dX0_begins_46 : decode cX0_begins 46 = .ok (.iconst 0, 1) := by decide +kernel
theorem dX0_begins_47 : decode cX0_begins 47 = .ok (.putfield 21, 3) := by decide +kernel
theorem dX0_begins_50 : decode cX0_begins 50 = .ok (.aload_n 0, 1) := by decide +kernel
theorem dX0_begins_51 : decode cX0_begins 51 = .ok (.iconst 0, 1) := by decide +kernel
theorem dX0_begins_52 : decode cX0_begins 52 = .ok (.putfield 25, 3) := by decide +kernel
theorem dX0_begins_55 : decode cX0_begins 55 = .ok (.aload_n 0, 1) := by decide +kernel
theorem dX0_begins_56 : decode cX0_begins 56 = .ok (.iconst 0, 1) := by decide +kernel
theorem dX0_begins_57 : decode cX0_begins 57 = .ok (.putfield 28, 3) := by decide +kernel
theorem dX0_begins_60 : decode cX0_begins 60 = .ok (.aload_n 0, 1) := by decide +kernel
theorem dX0_begins_61 : decode cX0_begins 61 = .ok (.iconst 0, 1) := by decide +kernel
theorem dX0_begins_62 : decode cX0_begins 62 = .ok (.putfield 31, 3) := by decide +kernel
theorem dX0_begins_65 : decode cX0_begins 65 = .ok (.aload_n 0, 1) := by decide +kernel
theorem dX0_begins_66 : decode cX0_begins 66 = .ok (.iconst 0, 1) := by decide +kernel
theorem dX0_begins_67 : decode cX0_begins 67 = .ok (.putfield 37, 3) := by decide +kernel
theorem dX0_begins_70 : decode cX0_begins 70 = .ok (.return_, 1) := by decide +kernel
theorem dX0_loses_0 : decode cX0_loses 0 = .ok (.iload_n 1, 1) := by decide +kernel
theorem dX0_loses_1 : decode cX0_loses 1 = .ok (.ifCond .lt 48, 3) := by decide +kernel
theorem dX0_loses_4 : decode cX0_loses 4 = .ok (.iload_n 1, 1) := by decide +kernel
theorem dX0_loses_5 : decode cX0_loses 5 = .ok (.bipush 6, 2) := by decide +kernel
theorem dX0_loses_7 : decode cX0_loses 7 = .ok (.if_icmp .ge 42, 3) := by decide +kernel
theorem dX0_loses_10 : decode cX0_loses 10 = .ok (.aload_n 0, 1) := by decide +kernel
theorem dX0_loses_11 : decode cX0_loses 11 = .ok (.getfield 11, 3) := by decide +kernel
theorem dX0_loses_14 : decode cX0_loses 14 = .ok (.iload_n 1, 1) := by decide +kernel
theorem dX0_loses_15 : decode cX0_loses 15 = .ok (.iconst 0, 1) := by decide +kernel
theorem dX0_loses_16 : decode cX0_loses 16 = .ok (.aload_n 0, 1) := by decide +kernel
theorem dX0_loses_17 : decode cX0_loses 17 = .ok (.getfield 11, 3) := by decide +kernel
theorem dX0_loses_20 : decode cX0_loses 20 = .ok (.iload_n 1, 1) := by decide +kernel
theorem dX0_loses_21 : decode cX0_loses 21 = .ok (.iaload, 1) := by decide +kernel
theorem dX0_loses_22 : decode cX0_loses 22 = .ok (.iload_n 2, 1) := by decide +kernel
theorem dX0_loses_23 : decode cX0_loses 23 = .ok (.isub, 1) := by decide +kernel
theorem dX0_loses_24 : decode cX0_loses 24 = .ok (.invokestatic 44, 3) := by decide +kernel
theorem dX0_loses_27 : decode cX0_loses 27 = .ok (.iastore, 1) := by decide +kernel
theorem dX0_loses_28 : decode cX0_loses 28 = .ok (.aload_n 0, 1) := by decide +kernel
theorem dX0_loses_29 : decode cX0_loses 29 = .ok (.getfield 15, 3) := by decide +kernel
theorem dX0_loses_32 : decode cX0_loses 32 = .ok (.iload_n 1, 1) := by decide +kernel
theorem dX0_loses_33 : decode cX0_loses 33 = .ok (.aload_n 0, 1) := by decide +kernel
theorem dX0_loses_34 : decode cX0_loses 34 = .ok (.getfield 15, 3) := by decide +kernel
theorem dX0_loses_37 : decode cX0_loses 37 = .ok (.iload_n 1, 1) := by decide +kernel
theorem dX0_loses_38 : decode cX0_loses 38 = .ok (.iaload, 1) := by decide +kernel
theorem dX0_loses_39 : decode cX0_loses 39 = .ok (.aload_n 0, 1) := by decide +kernel
theorem dX0_loses_40 : decode cX0_loses 40 = .ok (.getfield 11, 3) := by decide +kernel
theorem dX0_loses_43 : decode cX0_loses 43 = .ok (.iload_n 1, 1) := by decide +kernel
theorem dX0_loses_44 : decode cX0_loses 44 = .ok (.iaload, 1) := by decide +kernel
theorem dX0_loses_45 : decode cX0_loses 45 = .ok (.invokestatic 50, 3) := by decide +kernel
theorem dX0_loses_48 : decode cX0_loses 48 = .ok (.iastore, 1) := by decide +kernel
theorem dX0_loses_49 : decode cX0_loses 49 = .ok (.return_, 1) := by decide +kernel
theorem dX0_remembers_0 : decode cX0_remembers 0 = .ok (.aload_n 0, 1) := by decide +kernel
theorem dX0_remembers_1 : decode cX0_remembers 1 = .ok (.getfield 37, 3) := by decide +kernel
theorem dX0_remembers_4 : decode cX0_remembers 4 = .ok (.bipush 10, 2) := by decide +kernel
theorem dX0_remembers_6 : decode cX0_remembers 6 = .ok (.if_icmp .lt 30, 3) := by decide +kernel
theorem dX0_remembers_9 : decode cX0_remembers 9 = .ok (.aload_n 0, 1) := by decide +kernel
theorem dX0_remembers_10 : decode cX0_remembers 10 = .ok (.bipush 9, 2) := by decide +kernel
theorem dX0_remembers_12 : decode cX0_remembers 12 = .ok (.putfield 37, 3) := by decide +kernel
theorem dX0_remembers_15 : decode cX0_remembers 15 = .ok (.aload_n 0, 1) := by decide +kernel
theorem dX0_remembers_16 : decode cX0_remembers 16 = .ok (.getfield 34, 3) := by decide +kernel
theorem dX0_remembers_19 : decode cX0_remembers 19 = .ok (.bipush 22, 2) := by decide +kernel
theorem dX0_remembers_21 : decode cX0_remembers 21 = .ok (.aload_n 0, 1) := by decide +kernel
theorem dX0_remembers_22 : decode cX0_remembers 22 = .ok (.getfield 34, 3) := by decide +kernel
theorem dX0_remembers_25 : decode cX0_remembers 25 = .ok (.iconst 0, 1) := by decide +kernel
theorem dX0_remembers_26 : decode cX0_remembers 26 = .ok (.aload_n 0, 1) := by decide +kernel
theorem dX0_remembers_27 : decode cX0_remembers 27 = .ok (.getfield 37, 3) := by decide +kernel
theorem dX0_remembers_30 : decode cX0_remembers 30 = .ok (.bipush 22, 2) := by decide +kernel
theorem dX0_remembers_32 : decode cX0_remembers 32 = .ok (.imul, 1) := by decide +kernel
theorem dX0_remembers_33 : decode cX0_remembers 33 = .ok (.invokestatic 53, 3) := by decide +kernel
theorem dX0_remembers_36 : decode cX0_remembers 36 = .ok (.aload_n 0, 1) := by decide +kernel
theorem dX0_remembers_37 : decode cX0_remembers 37 = .ok (.getfield 37, 3) := by decide +kernel
theorem dX0_remembers_40 : decode cX0_remembers 40 = .ok (.bipush 22, 2) := by decide +kernel
theorem dX0_remembers_42 : decode cX0_remembers 42 = .ok (.imul, 1) := by decide +kernel
theorem dX0_remembers_43 : decode cX0_remembers 43 = .ok (.istore_n 1, 1) := by decide +kernel
theorem dX0_remembers_44 : decode cX0_remembers 44 = .ok (.aload_n 0, 1) := by decide +kernel
theorem dX0_remembers_45 : decode cX0_remembers 45 = .ok (.getfield 11, 3) := by decide +kernel
theorem dX0_remembers_48 : decode cX0_remembers 48 = .ok (.iconst 0, 1) := by decide +kernel
theorem dX0_remembers_49 : decode cX0_remembers 49 = .ok (.aload_n 0, 1) := by decide +kernel
theorem dX0_remembers_50 : decode cX0_remembers 50 = .ok (.getfield 34, 3) := by decide +kernel
theorem dX0_remembers_53 : decode cX0_remembers 53 = .ok (.iload_n 1, 1) := by decide +kernel
theorem dX0_remembers_54 : decode cX0_remembers 54 = .ok (.bipush 6, 2) := by decide +kernel
theorem dX0_remembers_56 : decode cX0_remembers 56 = .ok (.invokestatic 53, 3) := by decide +kernel
theorem dX0_remembers_59 : decode cX0_remembers 59 = .ok (.aload_n 0, 1) := by decide +kernel
theorem dX0_remembers_60 : decode cX0_remembers 60 = .ok (.getfield 15, 3) := by decide +kernel
theorem dX0_remembers_63 : decode cX0_remembers 63 = .ok (.iconst 0, 1) := by decide +kernel
theorem dX0_remembers_64 : decode cX0_remembers 64 = .ok (.aload_n 0, 1) := by decide +kernel
theorem dX0_remembers_65 : decode cX0_remembers 65 = .ok (.getfield 34, 3) := by decide +kernel
theorem dX0_remembers_68 : decode cX0_remembers 68 = .ok (.iload_n 1, 1) := by decide +kernel
theorem dX0_remembers_69 : decode cX0_remembers 69 = .ok (.bipush 6, 2) := by decide +kernel
theorem dX0_remembers_71 : decode cX0_remembers 71 = .ok (.iadd, 1) := by decide +kernel
theorem dX0_remembers_72 : decode cX0_remembers 72 = .ok (.bipush 6, 2) := by decide +kernel
theorem dX0_remembers_74 : decode cX0_remembers 74 = .ok (.invokestatic 53, 3) := by decide +kernel
theorem dX0_remembers_77 : decode cX0_remembers 77 = .ok (.aload_n 0, 1) := by decide +kernel
theorem dX0_remembers_78 : decode cX0_remembers 78 = .ok (.getfield 18, 3) := by decide +kernel
theorem dX0_remembers_81 : decode cX0_remembers 81 = .ok (.iconst 0, 1) := by decide +kernel
theorem dX0_remembers_82 : decode cX0_remembers 82 = .ok (.aload_n 0, 1) := by decide +kernel
theorem dX0_remembers_83 : decode cX0_remembers 83 = .ok (.getfield 34, 3) := by decide +kernel
theorem dX0_remembers_86 : decode cX0_remembers 86 = .ok (.iload_n 1, 1) := by decide +kernel
theorem dX0_remembers_87 : decode cX0_remembers 87 = .ok (.bipush 12, 2) := by decide +kernel
theorem dX0_remembers_89 : decode cX0_remembers 89 = .ok (.iadd, 1) := by decide +kernel
theorem dX0_remembers_90 : decode cX0_remembers 90 = .ok (.bipush 6, 2) := by decide +kernel
theorem dX0_remembers_92 : decode cX0_remembers 92 = .ok (.invokestatic 53, 3) := by decide +kernel
theorem dX0_remembers_95 : decode cX0_remembers 95 = .ok (.aload_n 0, 1) := by decide +kernel
theorem dX0_remembers_96 : decode cX0_remembers 96 = .ok (.getfield 34, 3) := by decide +kernel
theorem dX0_remembers_99 : decode cX0_remembers 99 = .ok (.iload_n 1, 1) := by decide +kernel
theorem dX0_remembers_100 : decode cX0_remembers 100 = .ok (.bipush 18, 2) := by decide +kernel
theorem dX0_remembers_102 : decode cX0_remembers 102 = .ok (.iadd, 1) := by decide +kernel
theorem dX0_remembers_103 : decode cX0_remembers 103 = .ok (.aload_n 0, 1) := by decide +kernel
theorem dX0_remembers_104 : decode cX0_remembers 104 = .ok (.getfield 21, 3) := by decide +kernel
theorem dX0_remembers_107 : decode cX0_remembers 107 = .ok (.iastore, 1) := by decide +kernel
theorem dX0_remembers_108 : decode cX0_remembers 108 = .ok (.aload_n 0, 1) := by decide +kernel
theorem dX0_remembers_109 : decode cX0_remembers 109 = .ok (.getfield 34, 3) := by decide +kernel
theorem dX0_remembers_112 : decode cX0_remembers 112 = .ok (.iload_n 1, 1) := by decide +kernel
theorem dX0_remembers_113 : decode cX0_remembers 113 = .ok (.bipush 18, 2) := by decide +kernel
theorem dX0_remembers_115 : decode cX0_remembers 115 = .ok (.iadd, 1) := by decide +kernel
theorem dX0_remembers_116 : decode cX0_remembers 116 = .ok (.iconst 1, 1) := by decide +kernel
theorem dX0_remembers_117 : decode cX0_remembers 117 = .ok (.iadd, 1) := by decide +kernel
theorem dX0_remembers_118 : decode cX0_remembers 118 = .ok (.aload_n 0, 1) := by decide +kernel
theorem dX0_remembers_119 : decode cX0_remembers 119 = .ok (.getfield 25, 3) := by decide +kernel
theorem dX0_remembers_122 : decode cX0_remembers 122 = .ok (.iastore, 1) := by decide +kernel
theorem dX0_remembers_123 : decode cX0_remembers 123 = .ok (.aload_n 0, 1) := by decide +kernel
theorem dX0_remembers_124 : decode cX0_remembers 124 = .ok (.getfield 34, 3) := by decide +kernel
theorem dX0_remembers_127 : decode cX0_remembers 127 = .ok (.iload_n 1, 1) := by decide +kernel
theorem dX0_remembers_128 : decode cX0_remembers 128 = .ok (.bipush 18, 2) := by decide +kernel
theorem dX0_remembers_130 : decode cX0_remembers 130 = .ok (.iadd, 1) := by decide +kernel
theorem dX0_remembers_131 : decode cX0_remembers 131 = .ok (.iconst 2, 1) := by decide +kernel
theorem dX0_remembers_132 : decode cX0_remembers 132 = .ok (.iadd, 1) := by decide +kernel
theorem dX0_remembers_133 : decode cX0_remembers 133 = .ok (.aload_n 0, 1) := by decide +kernel
theorem dX0_remembers_134 : decode cX0_remembers 134 = .ok (.getfield 28, 3) := by decide +kernel
theorem dX0_remembers_137 : decode cX0_remembers 137 = .ok (.iastore, 1) := by decide +kernel
theorem dX0_remembers_138 : decode cX0_remembers 138 = .ok (.aload_n 0, 1) := by decide +kernel
theorem dX0_remembers_139 : decode cX0_remembers 139 = .ok (.getfield 34, 3) := by decide +kernel
theorem dX0_remembers_142 : decode cX0_remembers 142 = .ok (.iload_n 1, 1) := by decide +kernel
theorem dX0_remembers_143 : decode cX0_remembers 143 = .ok (.bipush 18, 2) := by decide +kernel
theorem dX0_remembers_145 : decode cX0_remembers 145 = .ok (.iadd, 1) := by decide +kernel
theorem dX0_remembers_146 : decode cX0_remembers 146 = .ok (.iconst 3, 1) := by decide +kernel
theorem dX0_remembers_147 : decode cX0_remembers 147 = .ok (.iadd, 1) := by decide +kernel
theorem dX0_remembers_148 : decode cX0_remembers 148 = .ok (.aload_n 0, 1) := by decide +kernel
theorem dX0_remembers_149 : decode cX0_remembers 149 = .ok (.getfield 31, 3) := by decide +kernel
theorem dX0_remembers_152 : decode cX0_remembers 152 = .ok (.iastore, 1) := by decide +kernel
theorem dX0_remembers_153 : decode cX0_remembers 153 = .ok (.aload_n 0, 1) := by decide +kernel
theorem dX0_remembers_154 : decode cX0_remembers 154 = .ok (.dup, 1) := by decide +kernel
theorem dX0_remembers_155 : decode cX0_remembers 155 = .ok (.getfield 37, 3) := by decide +kernel
theorem dX0_remembers_158 : decode cX0_remembers 158 = .ok (.iconst 1, 1) := by decide +kernel
theorem dX0_remembers_159 : decode cX0_remembers 159 = .ok (.iadd, 1) := by decide +kernel
theorem dX0_remembers_160 : decode cX0_remembers 160 = .ok (.putfield 37, 3) := by decide +kernel
theorem dX0_remembers_163 : decode cX0_remembers 163 = .ok (.return_, 1) := by decide +kernel
theorem dX0_stepsBack_0 : decode cX0_stepsBack 0 = .ok (.aload_n 0, 1) := by decide +kernel
theorem dX0_stepsBack_1 : decode cX0_stepsBack 1 = .ok (.getfield 37, 3) := by decide +kernel
theorem dX0_stepsBack_4 : decode cX0_stepsBack 4 = .ok (.ifCond .gt 5, 3) := by decide +kernel
theorem dX0_stepsBack_7 : decode cX0_stepsBack 7 = .ok (.iconst 0, 1) := by decide +kernel
theorem dX0_stepsBack_8 : decode cX0_stepsBack 8 = .ok (.ireturn, 1) := by decide +kernel
theorem dX0_stepsBack_9 : decode cX0_stepsBack 9 = .ok (.aload_n 0, 1) := by decide +kernel
theorem dX0_stepsBack_10 : decode cX0_stepsBack 10 = .ok (.dup, 1) := by decide +kernel
theorem dX0_stepsBack_11 : decode cX0_stepsBack 11 = .ok (.getfield 37, 3) := by decide +kernel
theorem dX0_stepsBack_14 : decode cX0_stepsBack 14 = .ok (.iconst 1, 1) := by decide +kernel
theorem dX0_stepsBack_15 : decode cX0_stepsBack 15 = .ok (.isub, 1) := by decide +kernel
theorem dX0_stepsBack_16 : decode cX0_stepsBack 16 = .ok (.putfield 37, 3) := by decide +kernel
theorem dX0_stepsBack_19 : decode cX0_stepsBack 19 = .ok (.aload_n 0, 1) := by decide +kernel
theorem dX0_stepsBack_20 : decode cX0_stepsBack 20 = .ok (.getfield 37, 3) := by decide +kernel
theorem dX0_stepsBack_23 : decode cX0_stepsBack 23 = .ok (.bipush 22, 2) := by decide +kernel
theorem dX0_stepsBack_25 : decode cX0_stepsBack 25 = .ok (.imul, 1) := by decide +kernel
theorem dX0_stepsBack_26 : decode cX0_stepsBack 26 = .ok (.istore_n 1, 1) := by decide +kernel
theorem dX0_stepsBack_27 : decode cX0_stepsBack 27 = .ok (.aload_n 0, 1) := by decide +kernel
theorem dX0_stepsBack_28 : decode cX0_stepsBack 28 = .ok (.getfield 34, 3) := by decide +kernel
theorem dX0_stepsBack_31 : decode cX0_stepsBack 31 = .ok (.iload_n 1, 1) := by decide +kernel
theorem dX0_stepsBack_32 : decode cX0_stepsBack 32 = .ok (.aload_n 0, 1) := by decide +kernel
theorem dX0_stepsBack_33 : decode cX0_stepsBack 33 = .ok (.getfield 11, 3) := by decide +kernel
theorem dX0_stepsBack_36 : decode cX0_stepsBack 36 = .ok (.iconst 0, 1) := by decide +kernel
theorem dX0_stepsBack_37 : decode cX0_stepsBack 37 = .ok (.bipush 6, 2) := by decide +kernel
theorem dX0_stepsBack_39 : decode cX0_stepsBack 39 = .ok (.invokestatic 53, 3) := by decide +kernel
theorem dX0_stepsBack_42 : decode cX0_stepsBack 42 = .ok (.aload_n 0, 1) := by decide +kernel
theorem dX0_stepsBack_43 : decode cX0_stepsBack 43 = .ok (.getfield 34, 3) := by decide +kernel
theorem dX0_stepsBack_46 : decode cX0_stepsBack 46 = .ok (.iload_n 1, 1) := by decide +kernel
theorem dX0_stepsBack_47 : decode cX0_stepsBack 47 = .ok (.bipush 6, 2) := by decide +kernel
theorem dX0_stepsBack_49 : decode cX0_stepsBack 49 = .ok (.iadd, 1) := by decide +kernel
theorem dX0_stepsBack_50 : decode cX0_stepsBack 50 = .ok (.aload_n 0, 1) := by decide +kernel
theorem dX0_stepsBack_51 : decode cX0_stepsBack 51 = .ok (.getfield 15, 3) := by decide +kernel
theorem dX0_stepsBack_54 : decode cX0_stepsBack 54 = .ok (.iconst 0, 1) := by decide +kernel
theorem dX0_stepsBack_55 : decode cX0_stepsBack 55 = .ok (.bipush 6, 2) := by decide +kernel
theorem dX0_stepsBack_57 : decode cX0_stepsBack 57 = .ok (.invokestatic 53, 3) := by decide +kernel
theorem dX0_stepsBack_60 : decode cX0_stepsBack 60 = .ok (.aload_n 0, 1) := by decide +kernel
theorem dX0_stepsBack_61 : decode cX0_stepsBack 61 = .ok (.getfield 34, 3) := by decide +kernel
theorem dX0_stepsBack_64 : decode cX0_stepsBack 64 = .ok (.iload_n 1, 1) := by decide +kernel
theorem dX0_stepsBack_65 : decode cX0_stepsBack 65 = .ok (.bipush 12, 2) := by decide +kernel
theorem dX0_stepsBack_67 : decode cX0_stepsBack 67 = .ok (.iadd, 1) := by decide +kernel
theorem dX0_stepsBack_68 : decode cX0_stepsBack 68 = .ok (.aload_n 0, 1) := by decide +kernel
theorem dX0_stepsBack_69 : decode cX0_stepsBack 69 = .ok (.getfield 18, 3) := by decide +kernel
theorem dX0_stepsBack_72 : decode cX0_stepsBack 72 = .ok (.iconst 0, 1) := by decide +kernel
theorem dX0_stepsBack_73 : decode cX0_stepsBack 73 = .ok (.bipush 6, 2) := by decide +kernel
theorem dX0_stepsBack_75 : decode cX0_stepsBack 75 = .ok (.invokestatic 53, 3) := by decide +kernel
theorem dX0_stepsBack_78 : decode cX0_stepsBack 78 = .ok (.aload_n 0, 1) := by decide +kernel
theorem dX0_stepsBack_79 : decode cX0_stepsBack 79 = .ok (.aload_n 0, 1) := by decide +kernel
theorem dX0_stepsBack_80 : decode cX0_stepsBack 80 = .ok (.getfield 34, 3) := by decide +kernel
theorem dX0_stepsBack_83 : decode cX0_stepsBack 83 = .ok (.iload_n 1, 1) := by decide +kernel
theorem dX0_stepsBack_84 : decode cX0_stepsBack 84 = .ok (.bipush 18, 2) := by decide +kernel
theorem dX0_stepsBack_86 : decode cX0_stepsBack 86 = .ok (.iadd, 1) := by decide +kernel
theorem dX0_stepsBack_87 : decode cX0_stepsBack 87 = .ok (.iaload, 1) := by decide +kernel
theorem dX0_stepsBack_88 : decode cX0_stepsBack 88 = .ok (.putfield 21, 3) := by decide +kernel
theorem dX0_stepsBack_91 : decode cX0_stepsBack 91 = .ok (.aload_n 0, 1) := by decide +kernel
theorem dX0_stepsBack_92 : decode cX0_stepsBack 92 = .ok (.aload_n 0, 1) := by decide +kernel
theorem dX0_stepsBack_93 : decode cX0_stepsBack 93 = .ok (.getfield 34, 3) := by decide +kernel
theorem dX0_stepsBack_96 : decode cX0_stepsBack 96 = .ok (.iload_n 1, 1) := by decide +kernel
theorem dX0_stepsBack_97 : decode cX0_stepsBack 97 = .ok (.bipush 18, 2) := by decide +kernel
theorem dX0_stepsBack_99 : decode cX0_stepsBack 99 = .ok (.iadd, 1) := by decide +kernel
theorem dX0_stepsBack_100 : decode cX0_stepsBack 100 = .ok (.iconst 1, 1) := by decide +kernel
theorem dX0_stepsBack_101 : decode cX0_stepsBack 101 = .ok (.iadd, 1) := by decide +kernel
theorem dX0_stepsBack_102 : decode cX0_stepsBack 102 = .ok (.iaload, 1) := by decide +kernel
theorem dX0_stepsBack_103 : decode cX0_stepsBack 103 = .ok (.putfield 25, 3) := by decide +kernel
theorem dX0_stepsBack_106 : decode cX0_stepsBack 106 = .ok (.aload_n 0, 1) := by decide +kernel
theorem dX0_stepsBack_107 : decode cX0_stepsBack 107 = .ok (.aload_n 0, 1) := by decide +kernel
theorem dX0_stepsBack_108 : decode cX0_stepsBack 108 = .ok (.getfield 34, 3) := by decide +kernel
theorem dX0_stepsBack_111 : decode cX0_stepsBack 111 = .ok (.iload_n 1, 1) := by decide +kernel
theorem dX0_stepsBack_112 : decode cX0_stepsBack 112 = .ok (.bipush 18, 2) := by decide +kernel
theorem dX0_stepsBack_114 : decode cX0_stepsBack 114 = .ok (.iadd, 1) := by decide +kernel
theorem dX0_stepsBack_115 : decode cX0_stepsBack 115 = .ok (.iconst 2, 1) := by decide +kernel
theorem dX0_stepsBack_116 : decode cX0_stepsBack 116 = .ok (.iadd, 1) := by decide +kernel
theorem dX0_stepsBack_117 : decode cX0_stepsBack 117 = .ok (.iaload, 1) := by decide +kernel
theorem dX0_stepsBack_118 : decode cX0_stepsBack 118 = .ok (.putfield 28, 3) := by decide +kernel
theorem dX0_stepsBack_121 : decode cX0_stepsBack 121 = .ok (.aload_n 0, 1) := by decide +kernel
theorem dX0_stepsBack_122 : decode cX0_stepsBack 122 = .ok (.aload_n 0, 1) := by decide +kernel
theorem dX0_stepsBack_123 : decode cX0_stepsBack 123 = .ok (.getfield 34, 3) := by decide +kernel
theorem dX0_stepsBack_126 : decode cX0_stepsBack 126 = .ok (.iload_n 1, 1) := by decide +kernel
theorem dX0_stepsBack_127 : decode cX0_stepsBack 127 = .ok (.bipush 18, 2) := by decide +kernel
theorem dX0_stepsBack_129 : decode cX0_stepsBack 129 = .ok (.iadd, 1) := by decide +kernel
theorem dX0_stepsBack_130 : decode cX0_stepsBack 130 = .ok (.iconst 3, 1) := by decide +kernel
theorem dX0_stepsBack_131 : decode cX0_stepsBack 131 = .ok (.iadd, 1) := by decide +kernel
theorem dX0_stepsBack_132 : decode cX0_stepsBack 132 = .ok (.iaload, 1) := by decide +kernel
theorem dX0_stepsBack_133 : decode cX0_stepsBack 133 = .ok (.putfield 31, 3) := by decide +kernel
theorem dX0_stepsBack_136 : decode cX0_stepsBack 136 = .ok (.iconst 1, 1) := by decide +kernel
theorem dX0_stepsBack_137 : decode cX0_stepsBack 137 = .ok (.ireturn, 1) := by decide +kernel
theorem dX0_becomes_0 : decode cX0_becomes 0 = .ok (.aload_n 1, 1) := by decide +kernel
theorem dX0_becomes_1 : decode cX0_becomes 1 = .ok (.getfield 11, 3) := by decide +kernel
theorem dX0_becomes_4 : decode cX0_becomes 4 = .ok (.iconst 0, 1) := by decide +kernel
theorem dX0_becomes_5 : decode cX0_becomes 5 = .ok (.aload_n 0, 1) := by decide +kernel
theorem dX0_becomes_6 : decode cX0_becomes 6 = .ok (.getfield 11, 3) := by decide +kernel
theorem dX0_becomes_9 : decode cX0_becomes 9 = .ok (.iconst 0, 1) := by decide +kernel
theorem dX0_becomes_10 : decode cX0_becomes 10 = .ok (.bipush 6, 2) := by decide +kernel
theorem dX0_becomes_12 : decode cX0_becomes 12 = .ok (.invokestatic 53, 3) := by decide +kernel
theorem dX0_becomes_15 : decode cX0_becomes 15 = .ok (.aload_n 1, 1) := by decide +kernel
theorem dX0_becomes_16 : decode cX0_becomes 16 = .ok (.getfield 15, 3) := by decide +kernel
theorem dX0_becomes_19 : decode cX0_becomes 19 = .ok (.iconst 0, 1) := by decide +kernel
theorem dX0_becomes_20 : decode cX0_becomes 20 = .ok (.aload_n 0, 1) := by decide +kernel
theorem dX0_becomes_21 : decode cX0_becomes 21 = .ok (.getfield 15, 3) := by decide +kernel
theorem dX0_becomes_24 : decode cX0_becomes 24 = .ok (.iconst 0, 1) := by decide +kernel
theorem dX0_becomes_25 : decode cX0_becomes 25 = .ok (.bipush 6, 2) := by decide +kernel
theorem dX0_becomes_27 : decode cX0_becomes 27 = .ok (.invokestatic 53, 3) := by decide +kernel
theorem dX0_becomes_30 : decode cX0_becomes 30 = .ok (.aload_n 1, 1) := by decide +kernel
theorem dX0_becomes_31 : decode cX0_becomes 31 = .ok (.getfield 18, 3) := by decide +kernel
theorem dX0_becomes_34 : decode cX0_becomes 34 = .ok (.iconst 0, 1) := by decide +kernel
theorem dX0_becomes_35 : decode cX0_becomes 35 = .ok (.aload_n 0, 1) := by decide +kernel
theorem dX0_becomes_36 : decode cX0_becomes 36 = .ok (.getfield 18, 3) := by decide +kernel
theorem dX0_becomes_39 : decode cX0_becomes 39 = .ok (.iconst 0, 1) := by decide +kernel
theorem dX0_becomes_40 : decode cX0_becomes 40 = .ok (.bipush 6, 2) := by decide +kernel
theorem dX0_becomes_42 : decode cX0_becomes 42 = .ok (.invokestatic 53, 3) := by decide +kernel
theorem dX0_becomes_45 : decode cX0_becomes 45 = .ok (.aload_n 0, 1) := by decide +kernel
theorem dX0_becomes_46 : decode cX0_becomes 46 = .ok (.aload_n 1, 1) := by decide +kernel
theorem dX0_becomes_47 : decode cX0_becomes 47 = .ok (.getfield 21, 3) := by decide +kernel
theorem dX0_becomes_50 : decode cX0_becomes 50 = .ok (.putfield 21, 3) := by decide +kernel
theorem dX0_becomes_53 : decode cX0_becomes 53 = .ok (.aload_n 0, 1) := by decide +kernel
theorem dX0_becomes_54 : decode cX0_becomes 54 = .ok (.aload_n 1, 1) := by decide +kernel
theorem dX0_becomes_55 : decode cX0_becomes 55 = .ok (.getfield 25, 3) := by decide +kernel
theorem dX0_becomes_58 : decode cX0_becomes 58 = .ok (.putfield 25, 3) := by decide +kernel
theorem dX0_becomes_61 : decode cX0_becomes 61 = .ok (.aload_n 0, 1) := by decide +kernel
theorem dX0_becomes_62 : decode cX0_becomes 62 = .ok (.aload_n 1, 1) := by decide +kernel
theorem dX0_becomes_63 : decode cX0_becomes 63 = .ok (.getfield 28, 3) := by decide +kernel
theorem dX0_becomes_66 : decode cX0_becomes 66 = .ok (.putfield 28, 3) := by decide +kernel
theorem dX0_becomes_69 : decode cX0_becomes 69 = .ok (.aload_n 0, 1) := by decide +kernel
theorem dX0_becomes_70 : decode cX0_becomes 70 = .ok (.aload_n 1, 1) := by decide +kernel
theorem dX0_becomes_71 : decode cX0_becomes 71 = .ok (.getfield 31, 3) := by decide +kernel
theorem dX0_becomes_74 : decode cX0_becomes 74 = .ok (.putfield 31, 3) := by decide +kernel
theorem dX0_becomes_77 : decode cX0_becomes 77 = .ok (.aload_n 1, 1) := by decide +kernel
theorem dX0_becomes_78 : decode cX0_becomes 78 = .ok (.getfield 34, 3) := by decide +kernel
theorem dX0_becomes_81 : decode cX0_becomes 81 = .ok (.iconst 0, 1) := by decide +kernel
theorem dX0_becomes_82 : decode cX0_becomes 82 = .ok (.aload_n 0, 1) := by decide +kernel
theorem dX0_becomes_83 : decode cX0_becomes 83 = .ok (.getfield 34, 3) := by decide +kernel
theorem dX0_becomes_86 : decode cX0_becomes 86 = .ok (.iconst 0, 1) := by decide +kernel
theorem dX0_becomes_87 : decode cX0_becomes 87 = .ok (.sipush 220, 3) := by decide +kernel
theorem dX0_becomes_90 : decode cX0_becomes 90 = .ok (.invokestatic 53, 3) := by decide +kernel
theorem dX0_becomes_93 : decode cX0_becomes 93 = .ok (.aload_n 0, 1) := by decide +kernel
theorem dX0_becomes_94 : decode cX0_becomes 94 = .ok (.aload_n 1, 1) := by decide +kernel
theorem dX0_becomes_95 : decode cX0_becomes 95 = .ok (.getfield 37, 3) := by decide +kernel
theorem dX0_becomes_98 : decode cX0_becomes 98 = .ok (.putfield 37, 3) := by decide +kernel
theorem dX0_becomes_101 : decode cX0_becomes 101 = .ok (.return_, 1) := by decide +kernel
theorem dX1_init_0 : decode cX1_init 0 = .ok (.aload_n 0, 1) := by decide +kernel
theorem dX1_init_1 : decode cX1_init 1 = .ok (.invokespecial 3, 3) := by decide +kernel
theorem dX1_init_4 : decode cX1_init 4 = .ok (.aload_n 0, 1) := by decide +kernel
theorem dX1_init_5 : decode cX1_init 5 = .ok (.iconst 0, 1) := by decide +kernel
theorem dX1_init_6 : decode cX1_init 6 = .ok (.putfield 9, 3) := by decide +kernel
theorem dX1_init_9 : decode cX1_init 9 = .ok (.aload_n 0, 1) := by decide +kernel
theorem dX1_init_10 : decode cX1_init 10 = .ok (.bipush 6, 2) := by decide +kernel
theorem dX1_init_12 : decode cX1_init 12 = .ok (.newarray .int, 2) := by decide +kernel
theorem dX1_init_14 : decode cX1_init 14 = .ok (.putfield 15, 3) := by decide +kernel
theorem dX1_init_17 : decode cX1_init 17 = .ok (.aload_n 0, 1) := by decide +kernel
theorem dX1_init_18 : decode cX1_init 18 = .ok (.bipush 6, 2) := by decide +kernel
theorem dX1_init_20 : decode cX1_init 20 = .ok (.newarray .int, 2) := by decide +kernel
theorem dX1_init_22 : decode cX1_init 22 = .ok (.putfield 19, 3) := by decide +kernel
theorem dX1_init_25 : decode cX1_init 25 = .ok (.aload_n 0, 1) := by decide +kernel
theorem dX1_init_26 : decode cX1_init 26 = .ok (.bipush 6, 2) := by decide +kernel
theorem dX1_init_28 : decode cX1_init 28 = .ok (.newarray .int, 2) := by decide +kernel
theorem dX1_init_30 : decode cX1_init 30 = .ok (.putfield 22, 3) := by decide +kernel
theorem dX1_init_33 : decode cX1_init 33 = .ok (.aload_n 0, 1) := by decide +kernel
theorem dX1_init_34 : decode cX1_init 34 = .ok (.iconst 0, 1) := by decide +kernel
theorem dX1_init_35 : decode cX1_init 35 = .ok (.putfield 25, 3) := by decide +kernel
theorem dX1_init_38 : decode cX1_init 38 = .ok (.aload_n 0, 1) := by decide +kernel
theorem dX1_init_39 : decode cX1_init 39 = .ok (.iconst 5, 1) := by decide +kernel
theorem dX1_init_40 : decode cX1_init 40 = .ok (.newarray .int, 2) := by decide +kernel
theorem dX1_init_42 : decode cX1_init 42 = .ok (.putfield 28, 3) := by decide +kernel
theorem dX1_init_45 : decode cX1_init 45 = .ok (.aload_n 0, 1) := by decide +kernel
theorem dX1_init_46 : decode cX1_init 46 = .ok (.iconst 5, 1) := by decide +kernel
theorem dX1_init_47 : decode cX1_init 47 = .ok (.bipush 6, 2) := by decide +kernel
theorem dX1_init_49 : decode cX1_init 49 = .ok (.multianewarray 31 2, 4) := by decide +kernel
theorem dX1_init_53 : decode cX1_init 53 = .ok (.putfield 33, 3) := by decide +kernel
theorem dX1_init_56 : decode cX1_init 56 = .ok (.return_, 1) := by decide +kernel
theorem dX1_empties_0 : decode cX1_empties 0 = .ok (.aload_n 0, 1) := by decide +kernel
theorem dX1_empties_1 : decode cX1_empties 1 = .ok (.iconst 0, 1) := by decide +kernel
theorem dX1_empties_2 : decode cX1_empties 2 = .ok (.putfield 9, 3) := by decide +kernel
theorem dX1_empties_5 : decode cX1_empties 5 = .ok (.aload_n 0, 1) := by decide +kernel
theorem dX1_empties_6 : decode cX1_empties 6 = .ok (.iconst 0, 1) := by decide +kernel
theorem dX1_empties_7 : decode cX1_empties 7 = .ok (.putfield 25, 3) := by decide +kernel
theorem dX1_empties_10 : decode cX1_empties 10 = .ok (.return_, 1) := by decide +kernel
theorem dX1_addsDecanter_0 : decode cX1_addsDecanter 0 = .ok (.aload_n 0, 1) := by decide +kernel
theorem dX1_addsDecanter_1 : decode cX1_addsDecanter 1 = .ok (.getfield 9, 3) := by decide +kernel
theorem dX1_addsDecanter_4 : decode cX1_addsDecanter 4 = .ok (.bipush 6, 2) := by decide +kernel
theorem dX1_addsDecanter_6 : decode cX1_addsDecanter 6 = .ok (.if_icmp .ge 46, 3) := by decide +kernel
theorem dX1_addsDecanter_9 : decode cX1_addsDecanter 9 = .ok (.aload_n 0, 1) := by decide +kernel
theorem dX1_addsDecanter_10 : decode cX1_addsDecanter 10 = .ok (.getfield 15, 3) := by decide +kernel
theorem dX1_addsDecanter_13 : decode cX1_addsDecanter 13 = .ok (.aload_n 0, 1) := by decide +kernel
theorem dX1_addsDecanter_14 : decode cX1_addsDecanter 14 = .ok (.getfield 9, 3) := by decide +kernel
theorem dX1_addsDecanter_17 : decode cX1_addsDecanter 17 = .ok (.iload_n 1, 1) := by decide +kernel
theorem dX1_addsDecanter_18 : decode cX1_addsDecanter 18 = .ok (.iastore, 1) := by decide +kernel
theorem dX1_addsDecanter_19 : decode cX1_addsDecanter 19 = .ok (.aload_n 0, 1) := by decide +kernel
theorem dX1_addsDecanter_20 : decode cX1_addsDecanter 20 = .ok (.getfield 19, 3) := by decide +kernel
theorem dX1_addsDecanter_23 : decode cX1_addsDecanter 23 = .ok (.aload_n 0, 1) := by decide +kernel
theorem dX1_addsDecanter_24 : decode cX1_addsDecanter 24 = .ok (.getfield 9, 3) := by decide +kernel
theorem dX1_addsDecanter_27 : decode cX1_addsDecanter 27 = .ok (.iload_n 2, 1) := by decide +kernel
theorem dX1_addsDecanter_28 : decode cX1_addsDecanter 28 = .ok (.iastore, 1) := by decide +kernel
theorem dX1_addsDecanter_29 : decode cX1_addsDecanter 29 = .ok (.aload_n 0, 1) := by decide +kernel
theorem dX1_addsDecanter_30 : decode cX1_addsDecanter 30 = .ok (.getfield 22, 3) := by decide +kernel
theorem dX1_addsDecanter_33 : decode cX1_addsDecanter 33 = .ok (.aload_n 0, 1) := by decide +kernel
theorem dX1_addsDecanter_34 : decode cX1_addsDecanter 34 = .ok (.getfield 9, 3) := by decide +kernel
theorem dX1_addsDecanter_37 : decode cX1_addsDecanter 37 = .ok (.aload_n 0, 1) := by decide +kernel
theorem dX1_addsDecanter_38 : decode cX1_addsDecanter 38 = .ok (.getfield 9, 3) := by decide +kernel
theorem dX1_addsDecanter_41 : decode cX1_addsDecanter 41 = .ok (.iastore, 1) := by decide +kernel
theorem dX1_addsDecanter_42 : decode cX1_addsDecanter 42 = .ok (.aload_n 0, 1) := by decide +kernel
theorem dX1_addsDecanter_43 : decode cX1_addsDecanter 43 = .ok (.dup, 1) := by decide +kernel
theorem dX1_addsDecanter_44 : decode cX1_addsDecanter 44 = .ok (.getfield 9, 3) := by decide +kernel
theorem dX1_addsDecanter_47 : decode cX1_addsDecanter 47 = .ok (.iconst 1, 1) := by decide +kernel
theorem dX1_addsDecanter_48 : decode cX1_addsDecanter 48 = .ok (.iadd, 1) := by decide +kernel
theorem dX1_addsDecanter_49 : decode cX1_addsDecanter 49 = .ok (.putfield 9, 3) := by decide +kernel
theorem dX1_addsDecanter_52 : decode cX1_addsDecanter 52 = .ok (.return_, 1) := by decide +kernel
theorem dX1_addsAct_0 : decode cX1_addsAct 0 = .ok (.aload_n 0, 1) := by decide +kernel
theorem dX1_addsAct_1 : decode cX1_addsAct 1 = .ok (.getfield 25, 3) := by decide +kernel
theorem dX1_addsAct_4 : decode cX1_addsAct 4 = .ok (.iconst 5, 1) := by decide +kernel
theorem dX1_addsAct_5 : decode cX1_addsAct 5 = .ok (.if_icmp .ge 49, 3) := by decide +kernel
theorem dX1_addsAct_8 : decode cX1_addsAct 8 = .ok (.aload_n 0, 1) := by decide +kernel
theorem dX1_addsAct_9 : decode cX1_addsAct 9 = .ok (.getfield 28, 3) := by decide +kernel
theorem dX1_addsAct_12 : decode cX1_addsAct 12 = .ok (.aload_n 0, 1) := by decide +kernel
theorem dX1_addsAct_13 : decode cX1_addsAct 13 = .ok (.getfield 25, 3) := by decide +kernel
theorem dX1_addsAct_16 : decode cX1_addsAct 16 = .ok (.iload_n 1, 1) := by decide +kernel
theorem dX1_addsAct_17 : decode cX1_addsAct 17 = .ok (.iastore, 1) := by decide +kernel
theorem dX1_addsAct_18 : decode cX1_addsAct 18 = .ok (.iconst 0, 1) := by decide +kernel
theorem dX1_addsAct_19 : decode cX1_addsAct 19 = .ok (.istore_n 2, 1) := by decide +kernel
theorem dX1_addsAct_20 : decode cX1_addsAct 20 = .ok (.iload_n 2, 1) := by decide +kernel
theorem dX1_addsAct_21 : decode cX1_addsAct 21 = .ok (.bipush 6, 2) := by decide +kernel
theorem dX1_addsAct_23 : decode cX1_addsAct 23 = .ok (.if_icmp .ge 21, 3) := by decide +kernel
theorem dX1_addsAct_26 : decode cX1_addsAct 26 = .ok (.aload_n 0, 1) := by decide +kernel
theorem dX1_addsAct_27 : decode cX1_addsAct 27 = .ok (.getfield 33, 3) := by decide +kernel
theorem dX1_addsAct_30 : decode cX1_addsAct 30 = .ok (.aload_n 0, 1) := by decide +kernel
theorem dX1_addsAct_31 : decode cX1_addsAct 31 = .ok (.getfield 25, 3) := by decide +kernel
theorem dX1_addsAct_34 : decode cX1_addsAct 34 = .ok (.aaload, 1) := by decide +kernel
theorem dX1_addsAct_35 : decode cX1_addsAct 35 = .ok (.iload_n 2, 1) := by decide +kernel
theorem dX1_addsAct_36 : decode cX1_addsAct 36 = .ok (.iconst 0, 1) := by decide +kernel
theorem dX1_addsAct_37 : decode cX1_addsAct 37 = .ok (.iastore, 1) := by decide +kernel
theorem dX1_addsAct_38 : decode cX1_addsAct 38 = .ok (.iinc 2 1, 3) := by decide +kernel
theorem dX1_addsAct_41 : decode cX1_addsAct 41 = .ok (.goto (-21), 3) := by decide +kernel
theorem dX1_addsAct_44 : decode cX1_addsAct 44 = .ok (.aload_n 0, 1) := by decide +kernel
theorem dX1_addsAct_45 : decode cX1_addsAct 45 = .ok (.dup, 1) := by decide +kernel
theorem dX1_addsAct_46 : decode cX1_addsAct 46 = .ok (.getfield 25, 3) := by decide +kernel
theorem dX1_addsAct_49 : decode cX1_addsAct 49 = .ok (.iconst 1, 1) := by decide +kernel
theorem dX1_addsAct_50 : decode cX1_addsAct 50 = .ok (.iadd, 1) := by decide +kernel
theorem dX1_addsAct_51 : decode cX1_addsAct 51 = .ok (.putfield 25, 3) := by decide +kernel
theorem dX1_addsAct_54 : decode cX1_addsAct 54 = .ok (.return_, 1) := by decide +kernel
theorem dX1_latestActNeeds_0 : decode cX1_latestActNeeds 0 = .ok (.aload_n 0, 1) := by decide +kernel
theorem dX1_latestActNeeds_1 : decode cX1_latestActNeeds 1 = .ok (.getfield 25, 3) := by decide +kernel
theorem dX1_latestActNeeds_4 : decode cX1_latestActNeeds 4 = .ok (.ifCond .le 29, 3) := by decide +kernel
theorem dX1_latestActNeeds_7 : decode cX1_latestActNeeds 7 = .ok (.iload_n 1, 1) := by decide +kernel
theorem dX1_latestActNeeds_8 : decode cX1_latestActNeeds 8 = .ok (.ifCond .lt 25, 3) := by decide +kernel
theorem dX1_latestActNeeds_11 : decode cX1_latestActNeeds 11 = .ok (.iload_n 1, 1) := by decide +kernel
theorem dX1_latestActNeeds_12 : decode cX1_latestActNeeds 12 = .ok (.aload_n 0, 1) := by decide +kernel
theorem dX1_latestActNeeds_13 : decode cX1_latestActNeeds 13 = .ok (.getfield 9, 3) := by decide +kernel
theorem dX1_latestActNeeds_16 : decode cX1_latestActNeeds 16 = .ok (.if_icmp .ge 17, 3) := by decide +kernel
theorem dX1_latestActNeeds_19 : decode cX1_latestActNeeds 19 = .ok (.aload_n 0, 1) := by decide +kernel
theorem dX1_latestActNeeds_20 : decode cX1_latestActNeeds 20 = .ok (.getfield 33, 3) := by decide +kernel
theorem dX1_latestActNeeds_23 : decode cX1_latestActNeeds 23 = .ok (.aload_n 0, 1) := by decide +kernel
theorem dX1_latestActNeeds_24 : decode cX1_latestActNeeds 24 = .ok (.getfield 25, 3) := by decide +kernel
theorem dX1_latestActNeeds_27 : decode cX1_latestActNeeds 27 = .ok (.iconst 1, 1) := by decide +kernel
theorem dX1_latestActNeeds_28 : decode cX1_latestActNeeds 28 = .ok (.isub, 1) := by decide +kernel
theorem dX1_latestActNeeds_29 : decode cX1_latestActNeeds 29 = .ok (.aaload, 1) := by decide +kernel
theorem dX1_latestActNeeds_30 : decode cX1_latestActNeeds 30 = .ok (.iload_n 1, 1) := by decide +kernel
theorem dX1_latestActNeeds_31 : decode cX1_latestActNeeds 31 = .ok (.iload_n 2, 1) := by decide +kernel
theorem dX1_latestActNeeds_32 : decode cX1_latestActNeeds 32 = .ok (.iastore, 1) := by decide +kernel
theorem dX1_latestActNeeds_33 : decode cX1_latestActNeeds 33 = .ok (.return_, 1) := by decide +kernel
theorem dX1_exchangesLabels_0 : decode cX1_exchangesLabels 0 = .ok (.iload_n 1, 1) := by decide +kernel
theorem dX1_exchangesLabels_1 : decode cX1_exchangesLabels 1 = .ok (.ifCond .lt 49, 3) := by decide +kernel
theorem dX1_exchangesLabels_4 : decode cX1_exchangesLabels 4 = .ok (.iload_n 1, 1) := by decide +kernel
theorem dX1_exchangesLabels_5 : decode cX1_exchangesLabels 5 = .ok (.aload_n 0, 1) := by decide +kernel
theorem dX1_exchangesLabels_6 : decode cX1_exchangesLabels 6 = .ok (.getfield 9, 3) := by decide +kernel
theorem dX1_exchangesLabels_9 : decode cX1_exchangesLabels 9 = .ok (.if_icmp .ge 41, 3) := by decide +kernel
theorem dX1_exchangesLabels_12 : decode cX1_exchangesLabels 12 = .ok (.iload_n 2, 1) := by decide +kernel
theorem dX1_exchangesLabels_13 : decode cX1_exchangesLabels 13 = .ok (.ifCond .lt 37, 3) := by decide +kernel
theorem dX1_exchangesLabels_16 : decode cX1_exchangesLabels 16 = .ok (.iload_n 2, 1) := by decide +kernel
theorem dX1_exchangesLabels_17 : decode cX1_exchangesLabels 17 = .ok (.aload_n 0, 1) := by decide +kernel
theorem dX1_exchangesLabels_18 : decode cX1_exchangesLabels 18 = .ok (.getfield 9, 3) := by decide +kernel
theorem dX1_exchangesLabels_21 : decode cX1_exchangesLabels 21 = .ok (.if_icmp .ge 29, 3) := by decide +kernel
theorem dX1_exchangesLabels_24 : decode cX1_exchangesLabels 24 = .ok (.aload_n 0, 1) := by decide +kernel
theorem dX1_exchangesLabels_25 : decode cX1_exchangesLabels 25 = .ok (.getfield 22, 3) := by decide +kernel
theorem dX1_exchangesLabels_28 : decode cX1_exchangesLabels 28 = .ok (.iload_n 1, 1) := by decide +kernel
theorem dX1_exchangesLabels_29 : decode cX1_exchangesLabels 29 = .ok (.iaload, 1) := by decide +kernel
theorem dX1_exchangesLabels_30 : decode cX1_exchangesLabels 30 = .ok (.istore_n 3, 1) := by decide +kernel
theorem dX1_exchangesLabels_31 : decode cX1_exchangesLabels 31 = .ok (.aload_n 0, 1) := by decide +kernel
theorem dX1_exchangesLabels_32 : decode cX1_exchangesLabels 32 = .ok (.getfield 22, 3) := by decide +kernel
theorem dX1_exchangesLabels_35 : decode cX1_exchangesLabels 35 = .ok (.iload_n 1, 1) := by decide +kernel
theorem dX1_exchangesLabels_36 : decode cX1_exchangesLabels 36 = .ok (.aload_n 0, 1) := by decide +kernel
theorem dX1_exchangesLabels_37 : decode cX1_exchangesLabels 37 = .ok (.getfield 22, 3) := by decide +kernel
theorem dX1_exchangesLabels_40 : decode cX1_exchangesLabels 40 = .ok (.iload_n 2, 1) := by decide +kernel
theorem dX1_exchangesLabels_41 : decode cX1_exchangesLabels 41 = .ok (.iaload, 1) := by decide +kernel
theorem dX1_exchangesLabels_42 : decode cX1_exchangesLabels 42 = .ok (.iastore, 1) := by decide +kernel
theorem dX1_exchangesLabels_43 : decode cX1_exchangesLabels 43 = .ok (.aload_n 0, 1) := by decide +kernel
theorem dX1_exchangesLabels_44 : decode cX1_exchangesLabels 44 = .ok (.getfield 22, 3) := by decide +kernel
theorem dX1_exchangesLabels_47 : decode cX1_exchangesLabels 47 = .ok (.iload_n 2, 1) := by decide +kernel
theorem dX1_exchangesLabels_48 : decode cX1_exchangesLabels 48 = .ok (.iload_n 3, 1) := by decide +kernel
theorem dX1_exchangesLabels_49 : decode cX1_exchangesLabels 49 = .ok (.iastore, 1) := by decide +kernel
theorem dX1_exchangesLabels_50 : decode cX1_exchangesLabels 50 = .ok (.return_, 1) := by decide +kernel
theorem dX1_dropsNeeded_0 : decode cX1_dropsNeeded 0 = .ok (.iload_n 1, 1) := by decide +kernel
theorem dX1_dropsNeeded_1 : decode cX1_dropsNeeded 1 = .ok (.ifCond .lt 34, 3) := by decide +kernel
theorem dX1_dropsNeeded_4 : decode cX1_dropsNeeded 4 = .ok (.iload_n 1, 1) := by decide +kernel
theorem dX1_dropsNeeded_5 : decode cX1_dropsNeeded 5 = .ok (.aload_n 0, 1) := by decide +kernel
theorem dX1_dropsNeeded_6 : decode cX1_dropsNeeded 6 = .ok (.getfield 25, 3) := by decide +kernel
theorem dX1_dropsNeeded_9 : decode cX1_dropsNeeded 9 = .ok (.if_icmp .ge 26, 3) := by decide +kernel
theorem dX1_dropsNeeded_12 : decode cX1_dropsNeeded 12 = .ok (.iload_n 2, 1) := by decide +kernel
theorem dX1_dropsNeeded_13 : decode cX1_dropsNeeded 13 = .ok (.ifCond .lt 22, 3) := by decide +kernel
theorem dX1_dropsNeeded_16 : decode cX1_dropsNeeded 16 = .ok (.iload_n 2, 1) := by decide +kernel
theorem dX1_dropsNeeded_17 : decode cX1_dropsNeeded 17 = .ok (.aload_n 0, 1) := by decide +kernel
theorem dX1_dropsNeeded_18 : decode cX1_dropsNeeded 18 = .ok (.getfield 9, 3) := by decide +kernel
theorem dX1_dropsNeeded_21 : decode cX1_dropsNeeded 21 = .ok (.if_icmp .ge 14, 3) := by decide +kernel
theorem dX1_dropsNeeded_24 : decode cX1_dropsNeeded 24 = .ok (.aload_n 0, 1) := by decide +kernel
theorem dX1_dropsNeeded_25 : decode cX1_dropsNeeded 25 = .ok (.getfield 33, 3) := by decide +kernel
theorem dX1_dropsNeeded_28 : decode cX1_dropsNeeded 28 = .ok (.iload_n 1, 1) := by decide +kernel
theorem dX1_dropsNeeded_29 : decode cX1_dropsNeeded 29 = .ok (.aaload, 1) := by decide +kernel
theorem dX1_dropsNeeded_30 : decode cX1_dropsNeeded 30 = .ok (.iload_n 2, 1) := by decide +kernel
theorem dX1_dropsNeeded_31 : decode cX1_dropsNeeded 31 = .ok (.iaload, 1) := by decide +kernel
theorem dX1_dropsNeeded_32 : decode cX1_dropsNeeded 32 = .ok (.goto 4, 3) := by decide +kernel
theorem dX1_dropsNeeded_35 : decode cX1_dropsNeeded 35 = .ok (.iconst 0, 1) := by decide +kernel
theorem dX1_dropsNeeded_36 : decode cX1_dropsNeeded 36 = .ok (.ireturn, 1) := by decide +kernel
theorem dX1_qualitiesNeeded_0 : decode cX1_qualitiesNeeded 0 = .ok (.iconst 0, 1) := by decide +kernel
theorem dX1_qualitiesNeeded_1 : decode cX1_qualitiesNeeded 1 = .ok (.istore_n 2, 1) := by decide +kernel
theorem dX1_qualitiesNeeded_2 : decode cX1_qualitiesNeeded 2 = .ok (.iconst 0, 1) := by decide +kernel
theorem dX1_qualitiesNeeded_3 : decode cX1_qualitiesNeeded 3 = .ok (.istore_n 3, 1) := by decide +kernel
theorem dX1_qualitiesNeeded_4 : decode cX1_qualitiesNeeded 4 = .ok (.iload_n 3, 1) := by decide +kernel
theorem dX1_qualitiesNeeded_5 : decode cX1_qualitiesNeeded 5 = .ok (.aload_n 0, 1) := by decide +kernel
theorem dX1_qualitiesNeeded_6 : decode cX1_qualitiesNeeded 6 = .ok (.getfield 9, 3) := by decide +kernel
theorem dX1_qualitiesNeeded_9 : decode cX1_qualitiesNeeded 9 = .ok (.if_icmp .ge 24, 3) := by decide +kernel
theorem dX1_qualitiesNeeded_12 : decode cX1_qualitiesNeeded 12 = .ok (.aload_n 0, 1) := by decide +kernel
theorem dX1_qualitiesNeeded_13 : decode cX1_qualitiesNeeded 13 = .ok (.iload_n 1, 1) := by decide +kernel
theorem dX1_qualitiesNeeded_14 : decode cX1_qualitiesNeeded 14 = .ok (.iload_n 3, 1) := by decide +kernel
theorem dX1_qualitiesNeeded_15 : decode cX1_qualitiesNeeded 15 = .ok (.invokevirtual 36, 3) := by decide +kernel
theorem dX1_qualitiesNeeded_18 : decode cX1_qualitiesNeeded 18 = .ok (.ifCond .le 9, 3) := by decide +kernel
theorem dX1_qualitiesNeeded_21 : decode cX1_qualitiesNeeded 21 = .ok (.iload_n 2, 1) := by decide +kernel
theorem dX1_qualitiesNeeded_22 : decode cX1_qualitiesNeeded 22 = .ok (.iconst 1, 1) := by decide +kernel
theorem dX1_qualitiesNeeded_23 : decode cX1_qualitiesNeeded 23 = .ok (.iload_n 3, 1) := by decide +kernel
theorem dX1_qualitiesNeeded_24 : decode cX1_qualitiesNeeded 24 = .ok (.ishl, 1) := by decide +kernel
theorem dX1_qualitiesNeeded_25 : decode cX1_qualitiesNeeded 25 = .ok (.ior, 1) := by decide +kernel
theorem dX1_qualitiesNeeded_26 : decode cX1_qualitiesNeeded 26 = .ok (.istore_n 2, 1) := by decide +kernel
theorem dX1_qualitiesNeeded_27 : decode cX1_qualitiesNeeded 27 = .ok (.iinc 3 1, 3) := by decide +kernel
theorem dX1_qualitiesNeeded_30 : decode cX1_qualitiesNeeded 30 = .ok (.goto (-26), 3) := by decide +kernel
theorem dX1_qualitiesNeeded_33 : decode cX1_qualitiesNeeded 33 = .ok (.iload_n 2, 1) := by decide +kernel
theorem dX1_qualitiesNeeded_34 : decode cX1_qualitiesNeeded 34 = .ok (.ireturn, 1) := by decide +kernel
theorem dX1_worthOf_0 : decode cX1_worthOf 0 = .ok (.iconst 0, 1) := by decide +kernel
theorem dX1_worthOf_1 : decode cX1_worthOf 1 = .ok (.istore_n 2, 1) := by decide +kernel
theorem dX1_worthOf_2 : decode cX1_worthOf 2 = .ok (.iconst 0, 1) := by decide +kernel
theorem dX1_worthOf_3 : decode cX1_worthOf 3 = .ok (.istore_n 3, 1) := by decide +kernel
theorem dX1_worthOf_4 : decode cX1_worthOf 4 = .ok (.iload_n 3, 1) := by decide +kernel
theorem dX1_worthOf_5 : decode cX1_worthOf 5 = .ok (.aload_n 0, 1) := by decide +kernel
theorem dX1_worthOf_6 : decode cX1_worthOf 6 = .ok (.getfield 25, 3) := by decide +kernel
theorem dX1_worthOf_9 : decode cX1_worthOf 9 = .ok (.if_icmp .ge 26, 3) := by decide +kernel
theorem dX1_worthOf_12 : decode cX1_worthOf 12 = .ok (.iload_n 1, 1) := by decide +kernel
theorem dX1_worthOf_13 : decode cX1_worthOf 13 = .ok (.iload_n 3, 1) := by decide +kernel
theorem dX1_worthOf_14 : decode cX1_worthOf 14 = .ok (.invokestatic 40, 3) := by decide +kernel
theorem dX1_worthOf_17 : decode cX1_worthOf 17 = .ok (.ifCond .eq 12, 3) := by decide +kernel
theorem dX1_worthOf_20 : decode cX1_worthOf 20 = .ok (.iload_n 2, 1) := by decide +kernel
theorem dX1_worthOf_21 : decode cX1_worthOf 21 = .ok (.aload_n 0, 1) := by decide +kernel
theorem dX1_worthOf_22 : decode cX1_worthOf 22 = .ok (.getfield 28, 3) := by decide +kernel
theorem dX1_worthOf_25 : decode cX1_worthOf 25 = .ok (.iload_n 3, 1) := by decide +kernel
theorem dX1_worthOf_26 : decode cX1_worthOf 26 = .ok (.iaload, 1) := by decide +kernel
theorem dX1_worthOf_27 : decode cX1_worthOf 27 = .ok (.iadd, 1) := by decide +kernel
theorem dX1_worthOf_28 : decode cX1_worthOf 28 = .ok (.istore_n 2, 1) := by decide +kernel
theorem dX1_worthOf_29 : decode cX1_worthOf 29 = .ok (.iinc 3 1, 3) := by decide +kernel
theorem dX1_worthOf_32 : decode cX1_worthOf 32 = .ok (.goto (-28), 3) := by decide +kernel
theorem dX1_worthOf_35 : decode cX1_worthOf 35 = .ok (.iload_n 2, 1) := by decide +kernel
theorem dX1_worthOf_36 : decode cX1_worthOf 36 = .ok (.ireturn, 1) := by decide +kernel
theorem dX2_init_0 : decode cX2_init 0 = .ok (.aload_n 0, 1) := by decide +kernel
theorem dX2_init_1 : decode cX2_init 1 = .ok (.invokespecial 3, 3) := by decide +kernel
theorem dX2_init_4 : decode cX2_init 4 = .ok (.aload_n 0, 1) := by decide +kernel
theorem dX2_init_5 : decode cX2_init 5 = .ok (.sipush 150, 3) := by decide +kernel
theorem dX2_init_8 : decode cX2_init 8 = .ok (.newarray .int, 2) := by decide +kernel
theorem dX2_init_10 : decode cX2_init 10 = .ok (.putfield 9, 3) := by decide +kernel
theorem dX2_init_13 : decode cX2_init 13 = .ok (.aload_n 0, 1) := by decide +kernel
theorem dX2_init_14 : decode cX2_init 14 = .ok (.iconst 0, 1) := by decide +kernel
theorem dX2_init_15 : decode cX2_init 15 = .ok (.putfield 15, 3) := by decide +kernel
theorem dX2_init_18 : decode cX2_init 18 = .ok (.aload_n 0, 1) := by decide +kernel
theorem dX2_init_19 : decode cX2_init 19 = .ok (.iconst 0, 1) := by decide +kernel
theorem dX2_init_20 : decode cX2_init 20 = .ok (.putfield 19, 3) := by decide +kernel
theorem dX2_init_23 : decode cX2_init 23 = .ok (.aload_n 0, 1) := by decide +kernel
theorem dX2_init_24 : decode cX2_init 24 = .ok (.iconst 0, 1) := by decide +kernel
theorem dX2_init_25 : decode cX2_init 25 = .ok (.putfield 22, 3) := by decide +kernel
theorem dX2_init_28 : decode cX2_init 28 = .ok (.aload_n 0, 1) := by decide +kernel
theorem dX2_init_29 : decode cX2_init 29 = .ok (.iconst 0, 1) := by decide +kernel
theorem dX2_init_30 : decode cX2_init 30 = .ok (.putfield 25, 3) := by decide +kernel
theorem dX2_init_33 : decode cX2_init 33 = .ok (.aload_n 0, 1) := by decide +kernel
theorem dX2_init_34 : decode cX2_init 34 = .ok (.iconst 0, 1) := by decide +kernel
theorem dX2_init_35 : decode cX2_init 35 = .ok (.putfield 28, 3) := by decide +kernel
theorem dX2_init_38 : decode cX2_init 38 = .ok (.return_, 1) := by decide +kernel
theorem dX2_takes_0 : decode cX2_takes 0 = .ok (.aload_n 0, 1) := by decide +kernel
theorem dX2_takes_1 : decode cX2_takes 1 = .ok (.getfield 15, 3) := by decide +kernel
theorem dX2_takes_4 : decode cX2_takes 4 = .ok (.ifCond .lt 13, 3) := by decide +kernel
theorem dX2_takes_7 : decode cX2_takes 7 = .ok (.aload_n 0, 1) := by decide +kernel
theorem dX2_takes_8 : decode cX2_takes 8 = .ok (.getfield 15, 3) := by decide +kernel
theorem dX2_takes_11 : decode cX2_takes 11 = .ok (.sipush 150, 3) := by decide +kernel
theorem dX2_takes_14 : decode cX2_takes 14 = .ok (.if_icmp .lt 5, 3) := by decide +kernel
theorem dX2_takes_17 : decode cX2_takes 17 = .ok (.iconst 0, 1) := by decide +kernel
theorem dX2_takes_18 : decode cX2_takes 18 = .ok (.ireturn, 1) := by decide +kernel
theorem dX2_takes_19 : decode cX2_takes 19 = .ok (.aload_n 0, 1) := by decide +kernel
theorem dX2_takes_20 : decode cX2_takes 20 = .ok (.getfield 9, 3) := by decide +kernel
theorem dX2_takes_23 : decode cX2_takes 23 = .ok (.aload_n 0, 1) := by decide +kernel
theorem dX2_takes_24 : decode cX2_takes 24 = .ok (.getfield 15, 3) := by decide +kernel
theorem dX2_takes_27 : decode cX2_takes 27 = .ok (.iload_n 1, 1) := by decide +kernel
theorem dX2_takes_28 : decode cX2_takes 28 = .ok (.iastore, 1) := by decide +kernel
theorem dX2_takes_29 : decode cX2_takes 29 = .ok (.aload_n 0, 1) := by decide +kernel
theorem dX2_takes_30 : decode cX2_takes 30 = .ok (.dup, 1) := by decide +kernel
theorem dX2_takes_31 : decode cX2_takes 31 = .ok (.getfield 15, 3) := by decide +kernel
theorem dX2_takes_34 : decode cX2_takes 34 = .ok (.iconst 1, 1) := by decide +kernel
theorem dX2_takes_35 : decode cX2_takes 35 = .ok (.iadd, 1) := by decide +kernel
theorem dX2_takes_36 : decode cX2_takes 36 = .ok (.putfield 15, 3) := by decide +kernel
theorem dX2_takes_39 : decode cX2_takes 39 = .ok (.iconst 1, 1) := by decide +kernel
theorem dX2_takes_40 : decode cX2_takes 40 = .ok (.ireturn, 1) := by decide +kernel
theorem dX2_readsInto_0 : decode cX2_readsInto 0 = .ok (.aload_n 0, 1) := by decide +kernel
theorem dX2_readsInto_1 : decode cX2_readsInto 1 = .ok (.iconst 0, 1) := by decide +kernel
theorem dX2_readsInto_2 : decode cX2_readsInto 2 = .ok (.putfield 19, 3) := by decide +kernel
theorem dX2_readsInto_5 : decode cX2_readsInto 5 = .ok (.iconst 0, 1) := by decide +kernel
theorem dX2_readsInto_6 : decode cX2_readsInto 6 = .ok (.istore_n 2, 1) := by decide +kernel
theorem dX2_readsInto_7 : decode cX2_readsInto 7 = .ok (.aload_n 0, 1) := by decide +kernel
theorem dX2_readsInto_8 : decode cX2_readsInto 8 = .ok (.invokevirtual 31, 3) := by decide +kernel
theorem dX2_readsInto_11 : decode cX2_readsInto 11 = .ok (.aload_n 0, 1) := by decide +kernel
theorem dX2_readsInto_12 : decode cX2_readsInto 12 = .ok (.getfield 22, 3) := by decide +kernel
theorem dX2_readsInto_15 : decode cX2_readsInto 15 = .ok (.ifCond .eq 36, 3) := by decide +kernel
theorem dX2_readsInto_18 : decode cX2_readsInto 18 = .ok (.iload_n 2, 1) := by decide +kernel
theorem dX2_readsInto_19 : decode cX2_readsInto 19 = .ok (.sipush 150, 3) := by decide +kernel
theorem dX2_readsInto_22 : decode cX2_readsInto 22 = .ok (.if_icmp .ge 29, 3) := by decide +kernel
theorem dX2_readsInto_25 : decode cX2_readsInto 25 = .ok (.aload_n 0, 1) := by decide +kernel
theorem dX2_readsInto_26 : decode cX2_readsInto 26 = .ok (.aload_n 1, 1) := by decide +kernel
theorem dX2_readsInto_27 : decode cX2_readsInto 27 = .ok (.invokevirtual 34, 3) := by decide +kernel
theorem dX2_readsInto_30 : decode cX2_readsInto 30 = .ok (.ifCond .ne 11, 3) := by decide +kernel
theorem dX2_readsInto_33 : decode cX2_readsInto 33 = .ok (.bipush (-10), 2) := by decide +kernel
theorem dX2_readsInto_35 : decode cX2_readsInto 35 = .ok (.aload_n 0, 1) := by decide +kernel
theorem dX2_readsInto_36 : decode cX2_readsInto 36 = .ok (.getfield 25, 3) := by decide +kernel
theorem dX2_readsInto_39 : decode cX2_readsInto 39 = .ok (.isub, 1) := by decide +kernel
theorem dX2_readsInto_40 : decode cX2_readsInto 40 = .ok (.ireturn, 1) := by decide +kernel
theorem dX2_readsInto_41 : decode cX2_readsInto 41 = .ok (.iinc 2 1, 3) := by decide +kernel
theorem dX2_readsInto_44 : decode cX2_readsInto 44 = .ok (.aload_n 0, 1) := by decide +kernel
theorem dX2_readsInto_45 : decode cX2_readsInto 45 = .ok (.invokevirtual 31, 3) := by decide +kernel
theorem dX2_readsInto_48 : decode cX2_readsInto 48 = .ok (.goto (-37), 3) := by decide +kernel
theorem dX2_readsInto_51 : decode cX2_readsInto 51 = .ok (.iload_n 2, 1) := by decide +kernel
theorem dX2_readsInto_52 : decode cX2_readsInto 52 = .ok (.ireturn, 1) := by decide +kernel
theorem dX2_readsItem_0 : decode cX2_readsItem 0 = .ok (.aload_n 0, 1) := by decide +kernel
theorem dX2_readsItem_1 : decode cX2_readsItem 1 = .ok (.getfield 22, 3) := by decide +kernel
theorem dX2_readsItem_4 : decode cX2_readsItem 4 = .ok (.iconst 1, 1) := by decide +kernel
theorem dX2_readsItem_5 : decode cX2_readsItem 5 = .ok (.if_icmp .eq 5, 3) := by decide +kernel
theorem dX2_readsItem_8 : decode cX2_readsItem 8 = .ok (.iconst 0, 1) := by decide +kernel
theorem dX2_readsItem_9 : decode cX2_readsItem 9 = .ok (.ireturn, 1) := by decide +kernel
theorem dX2_readsItem_10 : decode cX2_readsItem 10 = .ok (.aload_n 0, 1) := by decide +kernel
theorem dX2_readsItem_11 : decode cX2_readsItem 11 = .ok (.getfield 28, 3) := by decide +kernel
theorem dX2_readsItem_14 : decode cX2_readsItem 14 = .ok (.lookupswitch 85 #[(97, 57), (100, 34), (120, 79)], 34) := by decide +kernel
theorem dX2_readsItem_48 : decode cX2_readsItem 48 = .ok (.aload_n 1, 1) := by decide +kernel
theorem dX2_readsItem_49 : decode cX2_readsItem 49 = .ok (.getfield 38, 3) := by decide +kernel
theorem dX2_readsItem_52 : decode cX2_readsItem 52 = .ok (.bipush 6, 2) := by decide +kernel
theorem dX2_readsItem_54 : decode cX2_readsItem 54 = .ok (.if_icmp .ge 15, 3) := by decide +kernel
theorem dX2_readsItem_57 : decode cX2_readsItem 57 = .ok (.aload_n 0, 1) := by decide +kernel
theorem dX2_readsItem_58 : decode cX2_readsItem 58 = .ok (.aload_n 1, 1) := by decide +kernel
theorem dX2_readsItem_59 : decode cX2_readsItem 59 = .ok (.invokevirtual 43, 3) := by decide +kernel
theorem dX2_readsItem_62 : decode cX2_readsItem 62 = .ok (.ifCond .eq 7, 3) := by decide +kernel
theorem dX2_readsItem_65 : decode cX2_readsItem 65 = .ok (.iconst 1, 1) := by decide +kernel
theorem dX2_readsItem_66 : decode cX2_readsItem 66 = .ok (.goto 4, 3) := by decide +kernel
theorem dX2_readsItem_69 : decode cX2_readsItem 69 = .ok (.iconst 0, 1) := by decide +kernel
theorem dX2_readsItem_70 : decode cX2_readsItem 70 = .ok (.ireturn, 1) := by decide +kernel
theorem dX2_readsItem_71 : decode cX2_readsItem 71 = .ok (.aload_n 1, 1) := by decide +kernel
theorem dX2_readsItem_72 : decode cX2_readsItem 72 = .ok (.getfield 46, 3) := by decide +kernel
theorem dX2_readsItem_75 : decode cX2_readsItem 75 = .ok (.iconst 5, 1) := by decide +kernel
theorem dX2_readsItem_76 : decode cX2_readsItem 76 = .ok (.if_icmp .ge 15, 3) := by decide +kernel
theorem dX2_readsItem_79 : decode cX2_readsItem 79 = .ok (.aload_n 0, 1) := by decide +kernel
theorem dX2_readsItem_80 : decode cX2_readsItem 80 = .ok (.aload_n 1, 1) := by decide +kernel
theorem dX2_readsItem_81 : decode cX2_readsItem 81 = .ok (.invokevirtual 49, 3) := by decide +kernel
theorem dX2_readsItem_84 : decode cX2_readsItem 84 = .ok (.ifCond .eq 7, 3) := by decide +kernel
theorem dX2_readsItem_87 : decode cX2_readsItem 87 = .ok (.iconst 1, 1) := by decide +kernel
theorem dX2_readsItem_88 : decode cX2_readsItem 88 = .ok (.goto 4, 3) := by decide +kernel
theorem dX2_readsItem_91 : decode cX2_readsItem 91 = .ok (.iconst 0, 1) := by decide +kernel
theorem dX2_readsItem_92 : decode cX2_readsItem 92 = .ok (.ireturn, 1) := by decide +kernel
theorem dX2_readsItem_93 : decode cX2_readsItem 93 = .ok (.aload_n 0, 1) := by decide +kernel
theorem dX2_readsItem_94 : decode cX2_readsItem 94 = .ok (.aload_n 1, 1) := by decide +kernel
theorem dX2_readsItem_95 : decode cX2_readsItem 95 = .ok (.invokevirtual 52, 3) := by decide +kernel
theorem dX2_readsItem_98 : decode cX2_readsItem 98 = .ok (.ireturn, 1) := by decide +kernel
theorem dX2_readsItem_99 : decode cX2_readsItem 99 = .ok (.iconst 0, 1) := by decide +kernel
theorem dX2_readsItem_100 : decode cX2_readsItem 100 = .ok (.ireturn, 1) := by decide +kernel
theorem dX2_readsDecanter_0 : decode cX2_readsDecanter 0 = .ok (.aload_n 0, 1) := by decide +kernel
theorem dX2_readsDecanter_1 : decode cX2_readsDecanter 1 = .ok (.bipush 40, 2) := by decide +kernel
theorem dX2_readsDecanter_3 : decode cX2_readsDecanter 3 = .ok (.invokevirtual 55, 3) := by decide +kernel
theorem dX2_readsDecanter_6 : decode cX2_readsDecanter 6 = .ok (.ifCond .ne 5, 3) := by decide +kernel
theorem dX2_readsDecanter_9 : decode cX2_readsDecanter 9 = .ok (.iconst 0, 1) := by decide +kernel
theorem dX2_readsDecanter_10 : decode cX2_readsDecanter 10 = .ok (.ireturn, 1) := by decide +kernel
theorem dX2_readsDecanter_11 : decode cX2_readsDecanter 11 = .ok (.aload_n 0, 1) := by decide +kernel
theorem dX2_readsDecanter_12 : decode cX2_readsDecanter 12 = .ok (.getfield 28, 3) := by decide +kernel
theorem dX2_readsDecanter_15 : decode cX2_readsDecanter 15 = .ok (.istore_n 2, 1) := by decide +kernel
theorem dX2_readsDecanter_16 : decode cX2_readsDecanter 16 = .ok (.aload_n 0, 1) := by decide +kernel
theorem dX2_readsDecanter_17 : decode cX2_readsDecanter 17 = .ok (.iconst 5, 1) := by decide +kernel
theorem dX2_readsDecanter_18 : decode cX2_readsDecanter 18 = .ok (.invokevirtual 55, 3) := by decide +kernel
theorem dX2_readsDecanter_21 : decode cX2_readsDecanter 21 = .ok (.ifCond .ne 5, 3) := by decide +kernel
theorem dX2_readsDecanter_24 : decode cX2_readsDecanter 24 = .ok (.iconst 0, 1) := by decide +kernel
theorem dX2_readsDecanter_25 : decode cX2_readsDecanter 25 = .ok (.ireturn, 1) := by decide +kernel
theorem dX2_readsDecanter_26 : decode cX2_readsDecanter 26 = .ok (.aload_n 1, 1) := by decide +kernel
theorem dX2_readsDecanter_27 : decode cX2_readsDecanter 27 = .ok (.iload_n 2, 1) := by decide +kernel
theorem dX2_readsDecanter_28 : decode cX2_readsDecanter 28 = .ok (.aload_n 0, 1) := by decide +kernel
theorem dX2_readsDecanter_29 : decode cX2_readsDecanter 29 = .ok (.getfield 28, 3) := by decide +kernel
theorem dX2_readsDecanter_32 : decode cX2_readsDecanter 32 = .ok (.invokevirtual 59, 3) := by decide +kernel
theorem dX2_readsDecanter_35 : decode cX2_readsDecanter 35 = .ok (.aload_n 0, 1) := by decide +kernel
theorem dX2_readsDecanter_36 : decode cX2_readsDecanter 36 = .ok (.invokevirtual 63, 3) := by decide +kernel
theorem dX2_readsDecanter_39 : decode cX2_readsDecanter 39 = .ok (.ireturn, 1) := by decide +kernel
theorem dX2_readsAct_0 : decode cX2_readsAct 0 = .ok (.aload_n 0, 1) := by decide +kernel
theorem dX2_readsAct_1 : decode cX2_readsAct 1 = .ok (.bipush 99, 2) := by decide +kernel
theorem dX2_readsAct_3 : decode cX2_readsAct 3 = .ok (.invokevirtual 55, 3) := by decide +kernel
theorem dX2_readsAct_6 : decode cX2_readsAct 6 = .ok (.ifCond .ne 5, 3) := by decide +kernel
theorem dX2_readsAct_9 : decode cX2_readsAct 9 = .ok (.iconst 0, 1) := by decide +kernel
theorem dX2_readsAct_10 : decode cX2_readsAct 10 = .ok (.ireturn, 1) := by decide +kernel
theorem dX2_readsAct_11 : decode cX2_readsAct 11 = .ok (.aload_n 1, 1) := by decide +kernel
theorem dX2_readsAct_12 : decode cX2_readsAct 12 = .ok (.aload_n 0, 1) := by decide +kernel
theorem dX2_readsAct_13 : decode cX2_readsAct 13 = .ok (.getfield 28, 3) := by decide +kernel
theorem dX2_readsAct_16 : decode cX2_readsAct 16 = .ok (.invokevirtual 67, 3) := by decide +kernel
theorem dX2_readsAct_19 : decode cX2_readsAct 19 = .ok (.aload_n 0, 1) := by decide +kernel
theorem dX2_readsAct_20 : decode cX2_readsAct 20 = .ok (.invokevirtual 31, 3) := by decide +kernel
theorem dX2_readsAct_23 : decode cX2_readsAct 23 = .ok (.iconst 0, 1) := by decide +kernel
theorem dX2_readsAct_24 : decode cX2_readsAct 24 = .ok (.istore_n 2, 1) := by decide +kernel
theorem dX2_readsAct_25 : decode cX2_readsAct 25 = .ok (.iload_n 2, 1) := by decide +kernel
theorem dX2_readsAct_26 : decode cX2_readsAct 26 = .ok (.bipush 6, 2) := by decide +kernel
theorem dX2_readsAct_28 : decode cX2_readsAct 28 = .ok (.if_icmp .ge 54, 3) := by decide +kernel
theorem dX2_readsAct_31 : decode cX2_readsAct 31 = .ok (.aload_n 0, 1) := by decide +kernel
theorem dX2_readsAct_32 : decode cX2_readsAct 32 = .ok (.getfield 22, 3) := by decide +kernel
theorem dX2_readsAct_35 : decode cX2_readsAct 35 = .ok (.iconst 2, 1) := by decide +kernel
theorem dX2_readsAct_36 : decode cX2_readsAct 36 = .ok (.if_icmp .ne 46, 3) := by decide +kernel
theorem dX2_readsAct_39 : decode cX2_readsAct 39 = .ok (.aload_n 0, 1) := by decide +kernel
theorem dX2_readsAct_40 : decode cX2_readsAct 40 = .ok (.getfield 28, 3) := by decide +kernel
theorem dX2_readsAct_43 : decode cX2_readsAct 43 = .ok (.istore_n 3, 1) := by decide +kernel
theorem dX2_readsAct_44 : decode cX2_readsAct 44 = .ok (.iload_n 3, 1) := by decide +kernel
theorem dX2_readsAct_45 : decode cX2_readsAct 45 = .ok (.aload_n 1, 1) := by decide +kernel
theorem dX2_readsAct_46 : decode cX2_readsAct 46 = .ok (.getfield 38, 3) := by decide +kernel
theorem dX2_readsAct_49 : decode cX2_readsAct 49 = .ok (.if_icmp .ge 12, 3) := by decide +kernel
theorem dX2_readsAct_52 : decode cX2_readsAct 52 = .ok (.aload_n 0, 1) := by decide +kernel
theorem dX2_readsAct_53 : decode cX2_readsAct 53 = .ok (.bipush 9, 2) := by decide +kernel
theorem dX2_readsAct_55 : decode cX2_readsAct 55 = .ok (.invokevirtual 55, 3) := by decide +kernel
theorem dX2_readsAct_58 : decode cX2_readsAct 58 = .ok (.ifCond .ne 5, 3) := by decide +kernel
theorem dX2_readsAct_61 : decode cX2_readsAct 61 = .ok (.iconst 0, 1) := by decide +kernel
theorem dX2_readsAct_62 : decode cX2_readsAct 62 = .ok (.ireturn, 1) := by decide +kernel
theorem dX2_readsAct_63 : decode cX2_readsAct 63 = .ok (.aload_n 1, 1) := by decide +kernel
theorem dX2_readsAct_64 : decode cX2_readsAct 64 = .ok (.iload_n 3, 1) := by decide +kernel
theorem dX2_readsAct_65 : decode cX2_readsAct 65 = .ok (.aload_n 0, 1) := by decide +kernel
theorem dX2_readsAct_66 : decode cX2_readsAct 66 = .ok (.getfield 28, 3) := by decide +kernel
theorem dX2_readsAct_69 : decode cX2_readsAct 69 = .ok (.invokevirtual 71, 3) := by decide +kernel
theorem dX2_readsAct_72 : decode cX2_readsAct 72 = .ok (.aload_n 0, 1) := by decide +kernel
theorem dX2_readsAct_73 : decode cX2_readsAct 73 = .ok (.invokevirtual 31, 3) := by decide +kernel
theorem dX2_readsAct_76 : decode cX2_readsAct 76 = .ok (.iinc 2 1, 3) := by decide +kernel
theorem dX2_readsAct_79 : decode cX2_readsAct 79 = .ok (.goto (-54), 3) := by decide +kernel
theorem dX2_readsAct_82 : decode cX2_readsAct 82 = .ok (.aload_n 0, 1) := by decide +kernel
theorem dX2_readsAct_83 : decode cX2_readsAct 83 = .ok (.getfield 22, 3) := by decide +kernel
theorem dX2_readsAct_86 : decode cX2_readsAct 86 = .ok (.iconst 3, 1) := by decide +kernel
theorem dX2_readsAct_87 : decode cX2_readsAct 87 = .ok (.if_icmp .ne 7, 3) := by decide +kernel
theorem dX2_readsAct_90 : decode cX2_readsAct 90 = .ok (.iconst 1, 1) := by decide +kernel
theorem dX2_readsAct_91 : decode cX2_readsAct 91 = .ok (.goto 4, 3) := by decide +kernel
theorem dX2_readsAct_94 : decode cX2_readsAct 94 = .ok (.iconst 0, 1) := by decide +kernel
theorem dX2_readsAct_95 : decode cX2_readsAct 95 = .ok (.ireturn, 1) := by decide +kernel
theorem dX2_readsExchange_0 : decode cX2_readsExchange 0 = .ok (.aload_n 0, 1) := by decide +kernel
theorem dX2_readsExchange_1 : decode cX2_readsExchange 1 = .ok (.aload_n 1, 1) := by decide +kernel
theorem dX2_readsExchange_2 : decode cX2_readsExchange 2 = .ok (.getfield 38, 3) := by decide +kernel
theorem dX2_readsExchange_5 : decode cX2_readsExchange 5 = .ok (.iconst 1, 1) := by decide +kernel
theorem dX2_readsExchange_6 : decode cX2_readsExchange 6 = .ok (.isub, 1) := by decide +kernel
theorem dX2_readsExchange_7 : decode cX2_readsExchange 7 = .ok (.invokevirtual 55, 3) := by decide +kernel
theorem dX2_readsExchange_10 : decode cX2_readsExchange 10 = .ok (.ifCond .ne 5, 3) := by decide +kernel
theorem dX2_readsExchange_13 : decode cX2_readsExchange 13 = .ok (.iconst 0, 1) := by decide +kernel
theorem dX2_readsExchange_14 : decode cX2_readsExchange 14 = .ok (.ireturn, 1) := by decide +kernel
theorem dX2_readsExchange_15 : decode cX2_readsExchange 15 = .ok (.aload_n 0, 1) := by decide +kernel
theorem dX2_readsExchange_16 : decode cX2_readsExchange 16 = .ok (.getfield 28, 3) := by decide +kernel
theorem dX2_readsExchange_19 : decode cX2_readsExchange 19 = .ok (.istore_n 2, 1) := by decide +kernel
theorem dX2_readsExchange_20 : decode cX2_readsExchange 20 = .ok (.aload_n 0, 1) := by decide +kernel
theorem dX2_readsExchange_21 : decode cX2_readsExchange 21 = .ok (.aload_n 1, 1) := by decide +kernel
theorem dX2_readsExchange_22 : decode cX2_readsExchange 22 = .ok (.getfield 38, 3) := by decide +kernel
theorem dX2_readsExchange_25 : decode cX2_readsExchange 25 = .ok (.iconst 1, 1) := by decide +kernel
theorem dX2_readsExchange_26 : decode cX2_readsExchange 26 = .ok (.isub, 1) := by decide +kernel
theorem dX2_readsExchange_27 : decode cX2_readsExchange 27 = .ok (.invokevirtual 55, 3) := by decide +kernel
theorem dX2_readsExchange_30 : decode cX2_readsExchange 30 = .ok (.ifCond .eq 11, 3) := by decide +kernel
theorem dX2_readsExchange_33 : decode cX2_readsExchange 33 = .ok (.aload_n 0, 1) := by decide +kernel
theorem dX2_readsExchange_34 : decode cX2_readsExchange 34 = .ok (.getfield 28, 3) := by decide +kernel
theorem dX2_readsExchange_37 : decode cX2_readsExchange 37 = .ok (.iload_n 2, 1) := by decide +kernel
theorem dX2_readsExchange_38 : decode cX2_readsExchange 38 = .ok (.if_icmp .ne 5, 3) := by decide +kernel
theorem dX2_readsExchange_41 : decode cX2_readsExchange 41 = .ok (.iconst 0, 1) := by decide +kernel
theorem dX2_readsExchange_42 : decode cX2_readsExchange 42 = .ok (.ireturn, 1) := by decide +kernel
theorem dX2_readsExchange_43 : decode cX2_readsExchange 43 = .ok (.aload_n 1, 1) := by decide +kernel
theorem dX2_readsExchange_44 : decode cX2_readsExchange 44 = .ok (.iload_n 2, 1) := by decide +kernel
theorem dX2_readsExchange_45 : decode cX2_readsExchange 45 = .ok (.aload_n 0, 1) := by decide +kernel
theorem dX2_readsExchange_46 : decode cX2_readsExchange 46 = .ok (.getfield 28, 3) := by decide +kernel
theorem dX2_readsExchange_49 : decode cX2_readsExchange 49 = .ok (.invokevirtual 74, 3) := by decide +kernel
theorem dX2_readsExchange_52 : decode cX2_readsExchange 52 = .ok (.aload_n 0, 1) := by decide +kernel
theorem dX2_readsExchange_53 : decode cX2_readsExchange 53 = .ok (.invokevirtual 63, 3) := by decide +kernel
theorem dX2_readsExchange_56 : decode cX2_readsExchange 56 = .ok (.ireturn, 1) := by decide +kernel
theorem dX2_readsNumber_0 : decode cX2_readsNumber 0 = .ok (.aload_n 0, 1) := by decide +kernel
theorem dX2_readsNumber_1 : decode cX2_readsNumber 1 = .ok (.invokevirtual 31, 3) := by decide +kernel
theorem dX2_readsNumber_4 : decode cX2_readsNumber 4 = .ok (.aload_n 0, 1) := by decide +kernel
theorem dX2_readsNumber_5 : decode cX2_readsNumber 5 = .ok (.getfield 22, 3) := by decide +kernel
theorem dX2_readsNumber_8 : decode cX2_readsNumber 8 = .ok (.iconst 2, 1) := by decide +kernel
theorem dX2_readsNumber_9 : decode cX2_readsNumber 9 = .ok (.if_icmp .ne 15, 3) := by decide +kernel
theorem dX2_readsNumber_12 : decode cX2_readsNumber 12 = .ok (.aload_n 0, 1) := by decide +kernel
theorem dX2_readsNumber_13 : decode cX2_readsNumber 13 = .ok (.getfield 28, 3) := by decide +kernel
theorem dX2_readsNumber_16 : decode cX2_readsNumber 16 = .ok (.iload_n 1, 1) := by decide +kernel
theorem dX2_readsNumber_17 : decode cX2_readsNumber 17 = .ok (.if_icmp .gt 7, 3) := by decide +kernel
theorem dX2_readsNumber_20 : decode cX2_readsNumber 20 = .ok (.iconst 1, 1) := by decide +kernel
theorem dX2_readsNumber_21 : decode cX2_readsNumber 21 = .ok (.goto 4, 3) := by decide +kernel
theorem dX2_readsNumber_24 : decode cX2_readsNumber 24 = .ok (.iconst 0, 1) := by decide +kernel
theorem dX2_readsNumber_25 : decode cX2_readsNumber 25 = .ok (.ireturn, 1) := by decide +kernel
theorem dX2_readsStop_0 : decode cX2_readsStop 0 = .ok (.aload_n 0, 1) := by decide +kernel
theorem dX2_readsStop_1 : decode cX2_readsStop 1 = .ok (.invokevirtual 31, 3) := by decide +kernel
theorem dX2_readsStop_4 : decode cX2_readsStop 4 = .ok (.aload_n 0, 1) := by decide +kernel
theorem dX2_readsStop_5 : decode cX2_readsStop 5 = .ok (.getfield 22, 3) := by decide +kernel
theorem dX2_readsStop_8 : decode cX2_readsStop 8 = .ok (.iconst 3, 1) := by decide +kernel
theorem dX2_readsStop_9 : decode cX2_readsStop 9 = .ok (.if_icmp .ne 7, 3) := by decide +kernel
theorem dX2_readsStop_12 : decode cX2_readsStop 12 = .ok (.iconst 1, 1) := by decide +kernel
theorem dX2_readsStop_13 : decode cX2_readsStop 13 = .ok (.goto 4, 3) := by decide +kernel
theorem dX2_readsStop_16 : decode cX2_readsStop 16 = .ok (.iconst 0, 1) := by decide +kernel
theorem dX2_readsStop_17 : decode cX2_readsStop 17 = .ok (.ireturn, 1) := by decide +kernel
theorem dX2_advances_0 : decode cX2_advances 0 = .ok (.aload_n 0, 1) := by decide +kernel
theorem dX2_advances_1 : decode cX2_advances 1 = .ok (.getfield 19, 3) := by decide +kernel
theorem dX2_advances_4 : decode cX2_advances 4 = .ok (.aload_n 0, 1) := by decide +kernel
theorem dX2_advances_5 : decode cX2_advances 5 = .ok (.getfield 15, 3) := by decide +kernel
theorem dX2_advances_8 : decode cX2_advances 8 = .ok (.if_icmp .ge 29, 3) := by decide +kernel
theorem dX2_advances_11 : decode cX2_advances 11 = .ok (.aload_n 0, 1) := by decide +kernel
theorem dX2_advances_12 : decode cX2_advances 12 = .ok (.aload_n 0, 1) := by decide +kernel
theorem dX2_advances_13 : decode cX2_advances 13 = .ok (.getfield 19, 3) := by decide +kernel
theorem dX2_advances_16 : decode cX2_advances 16 = .ok (.invokevirtual 77, 3) := by decide +kernel
theorem dX2_advances_19 : decode cX2_advances 19 = .ok (.bipush 32, 2) := by decide +kernel
theorem dX2_advances_21 : decode cX2_advances 21 = .ok (.if_icmp .ne 16, 3) := by decide +kernel
theorem dX2_advances_24 : decode cX2_advances 24 = .ok (.aload_n 0, 1) := by decide +kernel
theorem dX2_advances_25 : decode cX2_advances 25 = .ok (.dup, 1) := by decide +kernel
theorem dX2_advances_26 : decode cX2_advances 26 = .ok (.getfield 19, 3) := by decide +kernel
theorem dX2_advances_29 : decode cX2_advances 29 = .ok (.iconst 1, 1) := by decide +kernel
theorem dX2_advances_30 : decode cX2_advances 30 = .ok (.iadd, 1) := by decide +kernel
theorem dX2_advances_31 : decode cX2_advances 31 = .ok (.putfield 19, 3) := by decide +kernel
theorem dX2_advances_34 : decode cX2_advances 34 = .ok (.goto (-34), 3) := by decide +kernel
theorem dX2_advances_37 : decode cX2_advances 37 = .ok (.aload_n 0, 1) := by decide +kernel
theorem dX2_advances_38 : decode cX2_advances 38 = .ok (.aload_n 0, 1) := by decide +kernel
theorem dX2_advances_39 : decode cX2_advances 39 = .ok (.getfield 19, 3) := by decide +kernel
theorem dX2_advances_42 : decode cX2_advances 42 = .ok (.putfield 25, 3) := by decide +kernel
theorem dX2_advances_45 : decode cX2_advances 45 = .ok (.aload_n 0, 1) := by decide +kernel
theorem dX2_advances_46 : decode cX2_advances 46 = .ok (.aload_n 0, 1) := by decide +kernel
theorem dX2_advances_47 : decode cX2_advances 47 = .ok (.getfield 19, 3) := by decide +kernel
theorem dX2_advances_50 : decode cX2_advances 50 = .ok (.invokevirtual 77, 3) := by decide +kernel
theorem dX2_advances_53 : decode cX2_advances 53 = .ok (.istore_n 1, 1) := by decide +kernel
theorem dX2_advances_54 : decode cX2_advances 54 = .ok (.iload_n 1, 1) := by decide +kernel
theorem dX2_advances_55 : decode cX2_advances 55 = .ok (.istore_n 2, 1) := by decide +kernel
theorem dX2_advances_56 : decode cX2_advances 56 = .ok (.aload_n 0, 1) := by decide +kernel
theorem dX2_advances_57 : decode cX2_advances 57 = .ok (.iload_n 1, 1) := by decide +kernel
theorem dX2_advances_58 : decode cX2_advances 58 = .ok (.invokestatic 81, 3) := by decide +kernel
theorem dX2_advances_61 : decode cX2_advances 61 = .ok (.putfield 22, 3) := by decide +kernel
theorem dX2_advances_64 : decode cX2_advances 64 = .ok (.aload_n 0, 1) := by decide +kernel
theorem dX2_advances_65 : decode cX2_advances 65 = .ok (.getfield 22, 3) := by decide +kernel
theorem dX2_advances_68 : decode cX2_advances 68 = .ok (.iconst 1, 1) := by decide +kernel
theorem dX2_advances_69 : decode cX2_advances 69 = .ok (.if_icmp .eq 11, 3) := by decide +kernel
theorem dX2_advances_72 : decode cX2_advances 72 = .ok (.aload_n 0, 1) := by decide +kernel
theorem dX2_advances_73 : decode cX2_advances 73 = .ok (.getfield 22, 3) := by decide +kernel
theorem dX2_advances_76 : decode cX2_advances 76 = .ok (.iconst 2, 1) := by decide +kernel
theorem dX2_advances_77 : decode cX2_advances 77 = .ok (.if_icmp .ne 7, 3) := by decide +kernel
theorem dX2_advances_80 : decode cX2_advances 80 = .ok (.iconst 1, 1) := by decide +kernel
theorem dX2_advances_81 : decode cX2_advances 81 = .ok (.goto 4, 3) := by decide +kernel
theorem dX2_advances_84 : decode cX2_advances 84 = .ok (.iconst 0, 1) := by decide +kernel
theorem dX2_advances_85 : decode cX2_advances 85 = .ok (.istore_n 3, 1) := by decide +kernel
theorem dX2_advances_86 : decode cX2_advances 86 = .ok (.aload_n 0, 1) := by decide +kernel
theorem dX2_advances_87 : decode cX2_advances 87 = .ok (.getfield 19, 3) := by decide +kernel
theorem dX2_advances_90 : decode cX2_advances 90 = .ok (.aload_n 0, 1) := by decide +kernel
theorem dX2_advances_91 : decode cX2_advances 91 = .ok (.getfield 15, 3) := by decide +kernel
theorem dX2_advances_94 : decode cX2_advances 94 = .ok (.if_icmp .ge 58, 3) := by decide +kernel
theorem dX2_advances_97 : decode cX2_advances 97 = .ok (.aload_n 0, 1) := by decide +kernel
theorem dX2_advances_98 : decode cX2_advances 98 = .ok (.getfield 19, 3) := by decide +kernel
theorem dX2_advances_101 : decode cX2_advances 101 = .ok (.aload_n 0, 1) := by decide +kernel
theorem dX2_advances_102 : decode cX2_advances 102 = .ok (.getfield 25, 3) := by decide +kernel
theorem dX2_advances_105 : decode cX2_advances 105 = .ok (.if_icmp .eq 25, 3) := by decide +kernel
theorem dX2_advances_108 : decode cX2_advances 108 = .ok (.iload_n 3, 1) := by decide +kernel
theorem dX2_advances_109 : decode cX2_advances 109 = .ok (.ifCond .eq 43, 3) := by decide +kernel
theorem dX2_advances_112 : decode cX2_advances 112 = .ok (.aload_n 0, 1) := by decide +kernel
theorem dX2_advances_113 : decode cX2_advances 113 = .ok (.aload_n 0, 1) := by decide +kernel
theorem dX2_advances_114 : decode cX2_advances 114 = .ok (.getfield 19, 3) := by decide +kernel
theorem dX2_advances_117 : decode cX2_advances 117 = .ok (.invokevirtual 77, 3) := by decide +kernel
theorem dX2_advances_120 : decode cX2_advances 120 = .ok (.invokestatic 81, 3) := by decide +kernel
theorem dX2_advances_123 : decode cX2_advances 123 = .ok (.aload_n 0, 1) := by decide +kernel
theorem dX2_advances_124 : decode cX2_advances 124 = .ok (.getfield 22, 3) := by decide +kernel
theorem dX2_advances_127 : decode cX2_advances 127 = .ok (.if_icmp .ne 25, 3) := by decide +kernel
theorem dX2_advances_130 : decode cX2_advances 130 = .ok (.aload_n 0, 1) := by decide +kernel
theorem dX2_advances_131 : decode cX2_advances 131 = .ok (.aload_n 0, 1) := by decide +kernel
theorem dX2_advances_132 : decode cX2_advances 132 = .ok (.getfield 19, 3) := by decide +kernel
theorem dX2_advances_135 : decode cX2_advances 135 = .ok (.invokevirtual 77, 3) := by decide +kernel
theorem dX2_advances_138 : decode cX2_advances 138 = .ok (.istore_n 2, 1) := by decide +kernel
theorem dX2_advances_139 : decode cX2_advances 139 = .ok (.aload_n 0, 1) := by decide +kernel
theorem dX2_advances_140 : decode cX2_advances 140 = .ok (.dup, 1) := by decide +kernel
theorem dX2_advances_141 : decode cX2_advances 141 = .ok (.getfield 19, 3) := by decide +kernel
theorem dX2_advances_144 : decode cX2_advances 144 = .ok (.iconst 1, 1) := by decide +kernel
theorem dX2_advances_145 : decode cX2_advances 145 = .ok (.iadd, 1) := by decide +kernel
theorem dX2_advances_146 : decode cX2_advances 146 = .ok (.putfield 19, 3) := by decide +kernel
theorem dX2_advances_149 : decode cX2_advances 149 = .ok (.goto (-63), 3) := by decide +kernel
theorem dX2_advances_152 : decode cX2_advances 152 = .ok (.aload_n 0, 1) := by decide +kernel
theorem dX2_advances_153 : decode cX2_advances 153 = .ok (.iload_n 1, 1) := by decide +kernel
theorem dX2_advances_154 : decode cX2_advances 154 = .ok (.iload_n 2, 1) := by decide +kernel
theorem dX2_advances_155 : decode cX2_advances 155 = .ok (.aload_n 0, 1) := by decide +kernel
theorem dX2_advances_156 : decode cX2_advances 156 = .ok (.getfield 19, 3) := by decide +kernel
theorem dX2_advances_159 : decode cX2_advances 159 = .ok (.aload_n 0, 1) := by decide +kernel
theorem dX2_advances_160 : decode cX2_advances 160 = .ok (.getfield 25, 3) := by decide +kernel
theorem dX2_advances_163 : decode cX2_advances 163 = .ok (.isub, 1) := by decide +kernel
theorem dX2_advances_164 : decode cX2_advances 164 = .ok (.invokevirtual 84, 3) := by decide +kernel
theorem dX2_advances_167 : decode cX2_advances 167 = .ok (.return_, 1) := by decide +kernel
theorem dX2_setsValue_0 : decode cX2_setsValue 0 = .ok (.aload_n 0, 1) := by decide +kernel
theorem dX2_setsValue_1 : decode cX2_setsValue 1 = .ok (.getfield 22, 3) := by decide +kernel
theorem dX2_setsValue_4 : decode cX2_setsValue 4 = .ok (.iconst 2, 1) := by decide +kernel
theorem dX2_setsValue_5 : decode cX2_setsValue 5 = .ok (.if_icmp .eq 20, 3) := by decide +kernel
theorem dX2_setsValue_8 : decode cX2_setsValue 8 = .ok (.aload_n 0, 1) := by decide +kernel
theorem dX2_setsValue_9 : decode cX2_setsValue 9 = .ok (.iload_n 3, 1) := by decide +kernel
theorem dX2_setsValue_10 : decode cX2_setsValue 10 = .ok (.iconst 1, 1) := by decide +kernel
theorem dX2_setsValue_11 : decode cX2_setsValue 11 = .ok (.if_icmp .ne 7, 3) := by decide +kernel
theorem dX2_setsValue_14 : decode cX2_setsValue 14 = .ok (.iload_n 1, 1) := by decide +kernel
theorem dX2_setsValue_15 : decode cX2_setsValue 15 = .ok (.goto 4, 3) := by decide +kernel
theorem dX2_setsValue_18 : decode cX2_setsValue 18 = .ok (.iconst (-1), 1) := by decide +kernel
theorem dX2_setsValue_19 : decode cX2_setsValue 19 = .ok (.putfield 28, 3) := by decide +kernel
theorem dX2_setsValue_22 : decode cX2_setsValue 22 = .ok (.goto 54, 3) := by decide +kernel
theorem dX2_setsValue_25 : decode cX2_setsValue 25 = .ok (.iload_n 3, 1) := by decide +kernel
theorem dX2_setsValue_26 : decode cX2_setsValue 26 = .ok (.iconst 1, 1) := by decide +kernel
theorem dX2_setsValue_27 : decode cX2_setsValue 27 = .ok (.if_icmp .ne 14, 3) := by decide +kernel
theorem dX2_setsValue_30 : decode cX2_setsValue 30 = .ok (.aload_n 0, 1) := by decide +kernel
theorem dX2_setsValue_31 : decode cX2_setsValue 31 = .ok (.iload_n 1, 1) := by decide +kernel
theorem dX2_setsValue_32 : decode cX2_setsValue 32 = .ok (.bipush 48, 2) := by decide +kernel
theorem dX2_setsValue_34 : decode cX2_setsValue 34 = .ok (.isub, 1) := by decide +kernel
theorem dX2_setsValue_35 : decode cX2_setsValue 35 = .ok (.putfield 28, 3) := by decide +kernel
theorem dX2_setsValue_38 : decode cX2_setsValue 38 = .ok (.goto 38, 3) := by decide +kernel
theorem dX2_setsValue_41 : decode cX2_setsValue 41 = .ok (.iload_n 3, 1) := by decide +kernel
theorem dX2_setsValue_42 : decode cX2_setsValue 42 = .ok (.iconst 2, 1) := by decide +kernel
theorem dX2_setsValue_43 : decode cX2_setsValue 43 = .ok (.if_icmp .ne 28, 3) := by decide +kernel
theorem dX2_setsValue_46 : decode cX2_setsValue 46 = .ok (.iload_n 1, 1) := by decide +kernel
theorem dX2_setsValue_47 : decode cX2_setsValue 47 = .ok (.bipush 48, 2) := by decide +kernel
theorem dX2_setsValue_49 : decode cX2_setsValue 49 = .ok (.if_icmp .eq 22, 3) := by decide +kernel
theorem dX2_setsValue_52 : decode cX2_setsValue 52 = .ok (.aload_n 0, 1) := by decide +kernel
theorem dX2_setsValue_53 : decode cX2_setsValue 53 = .ok (.bipush 10, 2) := by decide +kernel
theorem dX2_setsValue_55 : decode cX2_setsValue 55 = .ok (.iload_n 1, 1) := by decide +kernel
theorem dX2_setsValue_56 : decode cX2_setsValue 56 = .ok (.bipush 48, 2) := by decide +kernel
theorem dX2_setsValue_58 : decode cX2_setsValue 58 = .ok (.isub, 1) := by decide +kernel
theorem dX2_setsValue_59 : decode cX2_setsValue 59 = .ok (.imul, 1) := by decide +kernel
theorem dX2_setsValue_60 : decode cX2_setsValue 60 = .ok (.iload_n 2, 1) := by decide +kernel
theorem dX2_setsValue_61 : decode cX2_setsValue 61 = .ok (.iadd, 1) := by decide +kernel
theorem dX2_setsValue_62 : decode cX2_setsValue 62 = .ok (.bipush 48, 2) := by decide +kernel
theorem dX2_setsValue_64 : decode cX2_setsValue 64 = .ok (.isub, 1) := by decide +kernel
theorem dX2_setsValue_65 : decode cX2_setsValue 65 = .ok (.putfield 28, 3) := by decide +kernel
theorem dX2_setsValue_68 : decode cX2_setsValue 68 = .ok (.goto 8, 3) := by decide +kernel
theorem dX2_setsValue_71 : decode cX2_setsValue 71 = .ok (.aload_n 0, 1) := by decide +kernel
theorem dX2_setsValue_72 : decode cX2_setsValue 72 = .ok (.iconst 4, 1) := by decide +kernel
theorem dX2_setsValue_73 : decode cX2_setsValue 73 = .ok (.putfield 22, 3) := by decide +kernel
theorem dX2_setsValue_76 : decode cX2_setsValue 76 = .ok (.return_, 1) := by decide +kernel
theorem dX2_byteAt_0 : decode cX2_byteAt 0 = .ok (.iload_n 1, 1) := by decide +kernel
theorem dX2_byteAt_1 : decode cX2_byteAt 1 = .ok (.ifCond .lt 27, 3) := by decide +kernel
theorem dX2_byteAt_4 : decode cX2_byteAt 4 = .ok (.iload_n 1, 1) := by decide +kernel
theorem dX2_byteAt_5 : decode cX2_byteAt 5 = .ok (.aload_n 0, 1) := by decide +kernel
theorem dX2_byteAt_6 : decode cX2_byteAt 6 = .ok (.getfield 15, 3) := by decide +kernel
theorem dX2_byteAt_9 : decode cX2_byteAt 9 = .ok (.if_icmp .ge 19, 3) := by decide +kernel
theorem dX2_byteAt_12 : decode cX2_byteAt 12 = .ok (.iload_n 1, 1) := by decide +kernel
theorem dX2_byteAt_13 : decode cX2_byteAt 13 = .ok (.sipush 150, 3) := by decide +kernel
theorem dX2_byteAt_16 : decode cX2_byteAt 16 = .ok (.if_icmp .ge 12, 3) := by decide +kernel
theorem dX2_byteAt_19 : decode cX2_byteAt 19 = .ok (.aload_n 0, 1) := by decide +kernel
theorem dX2_byteAt_20 : decode cX2_byteAt 20 = .ok (.getfield 9, 3) := by decide +kernel
theorem dX2_byteAt_23 : decode cX2_byteAt 23 = .ok (.iload_n 1, 1) := by decide +kernel
theorem dX2_byteAt_24 : decode cX2_byteAt 24 = .ok (.iaload, 1) := by decide +kernel
theorem dX2_byteAt_25 : decode cX2_byteAt 25 = .ok (.goto 4, 3) := by decide +kernel
theorem dX2_byteAt_28 : decode cX2_byteAt 28 = .ok (.iconst (-1), 1) := by decide +kernel
theorem dX2_byteAt_29 : decode cX2_byteAt 29 = .ok (.ireturn, 1) := by decide +kernel
theorem dX2_sortOf_0 : decode cX2_sortOf 0 = .ok (.iload_n 0, 1) := by decide +kernel
theorem dX2_sortOf_1 : decode cX2_sortOf 1 = .ok (.iconst (-1), 1) := by decide +kernel
theorem dX2_sortOf_2 : decode cX2_sortOf 2 = .ok (.if_icmp .ne 5, 3) := by decide +kernel
theorem dX2_sortOf_5 : decode cX2_sortOf 5 = .ok (.iconst 0, 1) := by decide +kernel
theorem dX2_sortOf_6 : decode cX2_sortOf 6 = .ok (.ireturn, 1) := by decide +kernel
theorem dX2_sortOf_7 : decode cX2_sortOf 7 = .ok (.iload_n 0, 1) := by decide +kernel
theorem dX2_sortOf_8 : decode cX2_sortOf 8 = .ok (.bipush 97, 2) := by decide +kernel
theorem dX2_sortOf_10 : decode cX2_sortOf 10 = .ok (.if_icmp .lt 11, 3) := by decide +kernel
theorem dX2_sortOf_13 : decode cX2_sortOf 13 = .ok (.iload_n 0, 1) := by decide +kernel
theorem dX2_sortOf_14 : decode cX2_sortOf 14 = .ok (.bipush 122, 2) := by decide +kernel
theorem dX2_sortOf_16 : decode cX2_sortOf 16 = .ok (.if_icmp .gt 5, 3) := by decide +kernel
theorem dX2_sortOf_19 : decode cX2_sortOf 19 = .ok (.iconst 1, 1) := by decide +kernel
theorem dX2_sortOf_20 : decode cX2_sortOf 20 = .ok (.ireturn, 1) := by decide +kernel
theorem dX2_sortOf_21 : decode cX2_sortOf 21 = .ok (.iload_n 0, 1) := by decide +kernel
theorem dX2_sortOf_22 : decode cX2_sortOf 22 = .ok (.bipush 48, 2) := by decide +kernel
theorem dX2_sortOf_24 : decode cX2_sortOf 24 = .ok (.if_icmp .lt 11, 3) := by decide +kernel
theorem dX2_sortOf_27 : decode cX2_sortOf 27 = .ok (.iload_n 0, 1) := by decide +kernel
theorem dX2_sortOf_28 : decode cX2_sortOf 28 = .ok (.bipush 57, 2) := by decide +kernel
theorem dX2_sortOf_30 : decode cX2_sortOf 30 = .ok (.if_icmp .gt 5, 3) := by decide +kernel
theorem dX2_sortOf_33 : decode cX2_sortOf 33 = .ok (.iconst 2, 1) := by decide +kernel
theorem dX2_sortOf_34 : decode cX2_sortOf 34 = .ok (.ireturn, 1) := by decide +kernel
theorem dX2_sortOf_35 : decode cX2_sortOf 35 = .ok (.iload_n 0, 1) := by decide +kernel
theorem dX2_sortOf_36 : decode cX2_sortOf 36 = .ok (.bipush 59, 2) := by decide +kernel
theorem dX2_sortOf_38 : decode cX2_sortOf 38 = .ok (.if_icmp .ne 7, 3) := by decide +kernel
theorem dX2_sortOf_41 : decode cX2_sortOf 41 = .ok (.iconst 3, 1) := by decide +kernel
theorem dX2_sortOf_42 : decode cX2_sortOf 42 = .ok (.goto 4, 3) := by decide +kernel
theorem dX2_sortOf_45 : decode cX2_sortOf 45 = .ok (.iconst 4, 1) := by decide +kernel
theorem dX2_sortOf_46 : decode cX2_sortOf 46 = .ok (.ireturn, 1) := by decide +kernel
theorem dJ6_bitCount_0f7a4_0 : decode cJ6_bitCount_0f7a4 0 = .ok (.iload_n 0, 1) := by decide +kernel
theorem dJ6_bitCount_0f7a4_1 : decode cJ6_bitCount_0f7a4 1 = .ok (.iload_n 0, 1) := by decide +kernel
theorem dJ6_bitCount_0f7a4_2 : decode cJ6_bitCount_0f7a4 2 = .ok (.iconst 1, 1) := by decide +kernel
theorem dJ6_bitCount_0f7a4_3 : decode cJ6_bitCount_0f7a4 3 = .ok (.iushr, 1) := by decide +kernel
theorem dJ6_bitCount_0f7a4_4 : decode cJ6_bitCount_0f7a4 4 = .ok (.ldc_w 265, 3) := by decide +kernel
theorem dJ6_bitCount_0f7a4_7 : decode cJ6_bitCount_0f7a4 7 = .ok (.iand, 1) := by decide +kernel
theorem dJ6_bitCount_0f7a4_8 : decode cJ6_bitCount_0f7a4 8 = .ok (.isub, 1) := by decide +kernel
theorem dJ6_bitCount_0f7a4_9 : decode cJ6_bitCount_0f7a4 9 = .ok (.istore_n 0, 1) := by decide +kernel
theorem dJ6_bitCount_0f7a4_10 : decode cJ6_bitCount_0f7a4 10 = .ok (.iload_n 0, 1) := by decide +kernel
theorem dJ6_bitCount_0f7a4_11 : decode cJ6_bitCount_0f7a4 11 = .ok (.ldc_w 266, 3) := by decide +kernel
theorem dJ6_bitCount_0f7a4_14 : decode cJ6_bitCount_0f7a4 14 = .ok (.iand, 1) := by decide +kernel
theorem dJ6_bitCount_0f7a4_15 : decode cJ6_bitCount_0f7a4 15 = .ok (.iload_n 0, 1) := by decide +kernel
theorem dJ6_bitCount_0f7a4_16 : decode cJ6_bitCount_0f7a4 16 = .ok (.iconst 2, 1) := by decide +kernel
theorem dJ6_bitCount_0f7a4_17 : decode cJ6_bitCount_0f7a4 17 = .ok (.iushr, 1) := by decide +kernel
theorem dJ6_bitCount_0f7a4_18 : decode cJ6_bitCount_0f7a4 18 = .ok (.ldc_w 266, 3) := by decide +kernel
theorem dJ6_bitCount_0f7a4_21 : decode cJ6_bitCount_0f7a4 21 = .ok (.iand, 1) := by decide +kernel
theorem dJ6_bitCount_0f7a4_22 : decode cJ6_bitCount_0f7a4 22 = .ok (.iadd, 1) := by decide +kernel
theorem dJ6_bitCount_0f7a4_23 : decode cJ6_bitCount_0f7a4 23 = .ok (.istore_n 0, 1) := by decide +kernel
theorem dJ6_bitCount_0f7a4_24 : decode cJ6_bitCount_0f7a4 24 = .ok (.iload_n 0, 1) := by decide +kernel
theorem dJ6_bitCount_0f7a4_25 : decode cJ6_bitCount_0f7a4 25 = .ok (.iload_n 0, 1) := by decide +kernel
theorem dJ6_bitCount_0f7a4_26 : decode cJ6_bitCount_0f7a4 26 = .ok (.iconst 4, 1) := by decide +kernel
theorem dJ6_bitCount_0f7a4_27 : decode cJ6_bitCount_0f7a4 27 = .ok (.iushr, 1) := by decide +kernel
theorem dJ6_bitCount_0f7a4_28 : decode cJ6_bitCount_0f7a4 28 = .ok (.iadd, 1) := by decide +kernel
theorem dJ6_bitCount_0f7a4_29 : decode cJ6_bitCount_0f7a4 29 = .ok (.ldc_w 267, 3) := by decide +kernel
theorem dJ6_bitCount_0f7a4_32 : decode cJ6_bitCount_0f7a4 32 = .ok (.iand, 1) := by decide +kernel
theorem dJ6_bitCount_0f7a4_33 : decode cJ6_bitCount_0f7a4 33 = .ok (.istore_n 0, 1) := by decide +kernel
theorem dJ6_bitCount_0f7a4_34 : decode cJ6_bitCount_0f7a4 34 = .ok (.iload_n 0, 1) := by decide +kernel
theorem dJ6_bitCount_0f7a4_35 : decode cJ6_bitCount_0f7a4 35 = .ok (.iload_n 0, 1) := by decide +kernel
theorem dJ6_bitCount_0f7a4_36 : decode cJ6_bitCount_0f7a4 36 = .ok (.bipush 8, 2) := by decide +kernel
theorem dJ6_bitCount_0f7a4_38 : decode cJ6_bitCount_0f7a4 38 = .ok (.iushr, 1) := by decide +kernel
theorem dJ6_bitCount_0f7a4_39 : decode cJ6_bitCount_0f7a4 39 = .ok (.iadd, 1) := by decide +kernel
theorem dJ6_bitCount_0f7a4_40 : decode cJ6_bitCount_0f7a4 40 = .ok (.istore_n 0, 1) := by decide +kernel
theorem dJ6_bitCount_0f7a4_41 : decode cJ6_bitCount_0f7a4 41 = .ok (.iload_n 0, 1) := by decide +kernel
theorem dJ6_bitCount_0f7a4_42 : decode cJ6_bitCount_0f7a4 42 = .ok (.iload_n 0, 1) := by decide +kernel
theorem dJ6_bitCount_0f7a4_43 : decode cJ6_bitCount_0f7a4 43 = .ok (.bipush 16, 2) := by decide +kernel
theorem dJ6_bitCount_0f7a4_45 : decode cJ6_bitCount_0f7a4 45 = .ok (.iushr, 1) := by decide +kernel
theorem dJ6_bitCount_0f7a4_46 : decode cJ6_bitCount_0f7a4 46 = .ok (.iadd, 1) := by decide +kernel
theorem dJ6_bitCount_0f7a4_47 : decode cJ6_bitCount_0f7a4 47 = .ok (.istore_n 0, 1) := by decide +kernel
theorem dJ6_bitCount_0f7a4_48 : decode cJ6_bitCount_0f7a4 48 = .ok (.iload_n 0, 1) := by decide +kernel
theorem dJ6_bitCount_0f7a4_49 : decode cJ6_bitCount_0f7a4 49 = .ok (.bipush 63, 2) := by decide +kernel
theorem dJ6_bitCount_0f7a4_51 : decode cJ6_bitCount_0f7a4 51 = .ok (.iand, 1) := by decide +kernel
theorem dJ6_bitCount_0f7a4_52 : decode cJ6_bitCount_0f7a4 52 = .ok (.ireturn, 1) := by decide +kernel
theorem dJ9_abs_0f7a4_0 : decode cJ9_abs_0f7a4 0 = .ok (.iload_n 0, 1) := by decide +kernel
theorem dJ9_abs_0f7a4_1 : decode cJ9_abs_0f7a4 1 = .ok (.ifCond .ge 8, 3) := by decide +kernel
theorem dJ9_abs_0f7a4_4 : decode cJ9_abs_0f7a4 4 = .ok (.iload_n 0, 1) := by decide +kernel
theorem dJ9_abs_0f7a4_5 : decode cJ9_abs_0f7a4 5 = .ok (.ineg, 1) := by decide +kernel
theorem dJ9_abs_0f7a4_6 : decode cJ9_abs_0f7a4 6 = .ok (.goto 4, 3) := by decide +kernel
theorem dJ9_abs_0f7a4_9 : decode cJ9_abs_0f7a4 9 = .ok (.iload_n 0, 1) := by decide +kernel
theorem dJ9_abs_0f7a4_10 : decode cJ9_abs_0f7a4 10 = .ok (.ireturn, 1) := by decide +kernel
theorem dJ9_max_7cf53_0 : decode cJ9_max_7cf53 0 = .ok (.iload_n 0, 1) := by decide +kernel
theorem dJ9_max_7cf53_1 : decode cJ9_max_7cf53 1 = .ok (.iload_n 1, 1) := by decide +kernel
theorem dJ9_max_7cf53_2 : decode cJ9_max_7cf53 2 = .ok (.if_icmp .lt 7, 3) := by decide +kernel
theorem dJ9_max_7cf53_5 : decode cJ9_max_7cf53 5 = .ok (.iload_n 0, 1) := by decide +kernel
theorem dJ9_max_7cf53_6 : decode cJ9_max_7cf53 6 = .ok (.goto 4, 3) := by decide +kernel
theorem dJ9_max_7cf53_9 : decode cJ9_max_7cf53 9 = .ok (.iload_n 1, 1) := by decide +kernel
theorem dJ9_max_7cf53_10 : decode cJ9_max_7cf53 10 = .ok (.ireturn, 1) := by decide +kernel
theorem dJ9_min_7cf53_0 : decode cJ9_min_7cf53 0 = .ok (.iload_n 0, 1) := by decide +kernel
theorem dJ9_min_7cf53_1 : decode cJ9_min_7cf53 1 = .ok (.iload_n 1, 1) := by decide +kernel
theorem dJ9_min_7cf53_2 : decode cJ9_min_7cf53 2 = .ok (.if_icmp .gt 7, 3) := by decide +kernel
theorem dJ9_min_7cf53_5 : decode cJ9_min_7cf53 5 = .ok (.iload_n 0, 1) := by decide +kernel
theorem dJ9_min_7cf53_6 : decode cJ9_min_7cf53 6 = .ok (.goto 4, 3) := by decide +kernel
theorem dJ9_min_7cf53_9 : decode cJ9_min_7cf53 9 = .ok (.iload_n 1, 1) := by decide +kernel
theorem dJ9_min_7cf53_10 : decode cJ9_min_7cf53 10 = .ok (.ireturn, 1) := by decide +kernel
end
section
theorem dX3_init_0 : decode cX3_init 0 = .ok (.aload_n 0, 1) := by decide +kernel
theorem dX3_init_1 : decode cX3_init 1 = .ok (.invokespecial 1, 3) := by decide +kernel
theorem dX3_init_4 : decode cX3_init 4 = .ok (.aload_n 0, 1) := by decide +kernel
theorem dX3_init_5 : decode cX3_init 5 = .ok (.new 7, 3) := by decide +kernel
theorem dX3_init_8 : decode cX3_init 8 = .ok (.dup, 1) := by decide +kernel
theorem dX3_init_9 : decode cX3_init 9 = .ok (.invokespecial 9, 3) := by decide +kernel
theorem dX3_init_12 : decode cX3_init 12 = .ok (.putfield 10, 3) := by decide +kernel
theorem dX3_init_15 : decode cX3_init 15 = .ok (.aload_n 0, 1) := by decide +kernel
theorem dX3_init_16 : decode cX3_init 16 = .ok (.new 16, 3) := by decide +kernel
theorem dX3_init_19 : decode cX3_init 19 = .ok (.dup, 1) := by decide +kernel
theorem dX3_init_20 : decode cX3_init 20 = .ok (.invokespecial 18, 3) := by decide +kernel
theorem dX3_init_23 : decode cX3_init 23 = .ok (.putfield 19, 3) := by decide +kernel
theorem dX3_init_26 : decode cX3_init 26 = .ok (.aload_n 0, 1) := by decide +kernel
theorem dX3_init_27 : decode cX3_init 27 = .ok (.new 16, 3) := by decide +kernel
theorem dX3_init_30 : decode cX3_init 30 = .ok (.dup, 1) := by decide +kernel
theorem dX3_init_31 : decode cX3_init 31 = .ok (.invokespecial 18, 3) := by decide +kernel
theorem dX3_init_34 : decode cX3_init 34 = .ok (.putfield 23, 3) := by decide +kernel
theorem dX3_init_37 : decode cX3_init 37 = .ok (.aload_n 0, 1) := by decide +kernel
theorem dX3_init_38 : decode cX3_init 38 = .ok (.new 26, 3) := by decide +kernel
theorem dX3_init_41 : decode cX3_init 41 = .ok (.dup, 1) := by decide +kernel
theorem dX3_init_42 : decode cX3_init 42 = .ok (.invokespecial 28, 3) := by decide +kernel
theorem dX3_init_45 : decode cX3_init 45 = .ok (.putfield 29, 3) := by decide +kernel
theorem dX3_init_48 : decode cX3_init 48 = .ok (.aload_n 0, 1) := by decide +kernel
theorem dX3_init_49 : decode cX3_init 49 = .ok (.new 26, 3) := by decide +kernel
theorem dX3_init_52 : decode cX3_init 52 = .ok (.dup, 1) := by decide +kernel
theorem dX3_init_53 : decode cX3_init 53 = .ok (.invokespecial 28, 3) := by decide +kernel
theorem dX3_init_56 : decode cX3_init 56 = .ok (.putfield 33, 3) := by decide +kernel
theorem dX3_init_59 : decode cX3_init 59 = .ok (.aload_n 0, 1) := by decide +kernel
theorem dX3_init_60 : decode cX3_init 60 = .ok (.new 26, 3) := by decide +kernel
theorem dX3_init_63 : decode cX3_init 63 = .ok (.dup, 1) := by decide +kernel
theorem dX3_init_64 : decode cX3_init 64 = .ok (.invokespecial 28, 3) := by decide +kernel
theorem dX3_init_67 : decode cX3_init 67 = .ok (.putfield 36, 3) := by decide +kernel
theorem dX3_init_70 : decode cX3_init 70 = .ok (.aload_n 0, 1) := by decide +kernel
theorem dX3_init_71 : decode cX3_init 71 = .ok (.iconst 0, 1) := by decide +kernel
theorem dX3_init_72 : decode cX3_init 72 = .ok (.putfield 39, 3) := by decide +kernel
theorem dX3_init_75 : decode cX3_init 75 = .ok (.aload_n 0, 1) := by decide +kernel
theorem dX3_init_76 : decode cX3_init 76 = .ok (.bipush 6, 2) := by decide +kernel
theorem dX3_init_78 : decode cX3_init 78 = .ok (.newarray .int, 2) := by decide +kernel
theorem dX3_init_80 : decode cX3_init 80 = .ok (.putfield 43, 3) := by decide +kernel
theorem dX3_init_83 : decode cX3_init 83 = .ok (.aload_n 0, 1) := by decide +kernel
theorem dX3_init_84 : decode cX3_init 84 = .ok (.bipush 6, 2) := by decide +kernel
theorem dX3_init_86 : decode cX3_init 86 = .ok (.newarray .boolean, 2) := by decide +kernel
theorem dX3_init_88 : decode cX3_init 88 = .ok (.putfield 47, 3) := by decide +kernel
theorem dX3_init_91 : decode cX3_init 91 = .ok (.aload_n 0, 1) := by decide +kernel
theorem dX3_init_92 : decode cX3_init 92 = .ok (.iconst 0, 1) := by decide +kernel
theorem dX3_init_93 : decode cX3_init 93 = .ok (.putfield 51, 3) := by decide +kernel
theorem dX3_init_96 : decode cX3_init 96 = .ok (.aload_n 0, 1) := by decide +kernel
theorem dX3_init_97 : decode cX3_init 97 = .ok (.lconst 0, 1) := by decide +kernel
theorem dX3_init_98 : decode cX3_init 98 = .ok (.putfield 54, 3) := by decide +kernel
theorem dX3_init_101 : decode cX3_init 101 = .ok (.return_, 1) := by decide +kernel
theorem dX3_type_0 : decode cX3_type 0 = .ok (.iload_n 1, 1) := by decide +kernel
theorem dX3_type_1 : decode cX3_type 1 = .ok (.ifCond .lt 10, 3) := by decide +kernel
theorem dX3_type_4 : decode cX3_type 4 = .ok (.iload_n 1, 1) := by decide +kernel
theorem dX3_type_5 : decode cX3_type 5 = .ok (.sipush 255, 3) := by decide +kernel
theorem dX3_type_8 : decode cX3_type 8 = .ok (.if_icmp .le 5, 3) := by decide +kernel
theorem dX3_type_11 : decode cX3_type 11 = .ok (.iconst (-1), 1) := by decide +kernel
theorem dX3_type_12 : decode cX3_type 12 = .ok (.ireturn, 1) := by decide +kernel
theorem dX3_type_13 : decode cX3_type 13 = .ok (.aload_n 0, 1) := by decide +kernel
theorem dX3_type_14 : decode cX3_type 14 = .ok (.getfield 10, 3) := by decide +kernel
theorem dX3_type_17 : decode cX3_type 17 = .ok (.iload_n 1, 1) := by decide +kernel
theorem dX3_type_18 : decode cX3_type 18 = .ok (.invokevirtual 58, 3) := by decide +kernel
theorem dX3_type_21 : decode cX3_type 21 = .ok (.ifCond .eq 13, 3) := by decide +kernel
theorem dX3_type_24 : decode cX3_type 24 = .ok (.aload_n 0, 1) := by decide +kernel
theorem dX3_type_25 : decode cX3_type 25 = .ok (.getfield 10, 3) := by decide +kernel
theorem dX3_type_28 : decode cX3_type 28 = .ok (.getfield 62, 3) := by decide +kernel
theorem dX3_type_31 : decode cX3_type 31 = .ok (.goto 5, 3) := by decide +kernel
theorem dX3_type_34 : decode cX3_type 34 = .ok (.bipush (-3), 2) := by decide +kernel
theorem dX3_type_36 : decode cX3_type 36 = .ok (.ireturn, 1) := by decide +kernel
theorem dX3_clear_0 : decode cX3_clear 0 = .ok (.aload_n 0, 1) := by decide +kernel
theorem dX3_clear_1 : decode cX3_clear 1 = .ok (.getfield 10, 3) := by decide +kernel
theorem dX3_clear_4 : decode cX3_clear 4 = .ok (.getfield 62, 3) := by decide +kernel
theorem dX3_clear_7 : decode cX3_clear 7 = .ok (.istore_n 1, 1) := by decide +kernel
theorem dX3_clear_8 : decode cX3_clear 8 = .ok (.aload_n 0, 1) := by decide +kernel
theorem dX3_clear_9 : decode cX3_clear 9 = .ok (.getfield 10, 3) := by decide +kernel
theorem dX3_clear_12 : decode cX3_clear 12 = .ok (.iconst 0, 1) := by decide +kernel
theorem dX3_clear_13 : decode cX3_clear 13 = .ok (.putfield 62, 3) := by decide +kernel
theorem dX3_clear_16 : decode cX3_clear 16 = .ok (.iload_n 1, 1) := by decide +kernel
theorem dX3_clear_17 : decode cX3_clear 17 = .ok (.ireturn, 1) := by decide +kernel
theorem dX3_sideboard_0 : decode cX3_sideboard 0 = .ok (.aload_n 0, 1) := by decide +kernel
theorem dX3_sideboard_1 : decode cX3_sideboard 1 = .ok (.getfield 23, 3) := by decide +kernel
theorem dX3_sideboard_4 : decode cX3_sideboard 4 = .ok (.invokevirtual 65, 3) := by decide +kernel
theorem dX3_sideboard_7 : decode cX3_sideboard 7 = .ok (.aload_n 0, 1) := by decide +kernel
theorem dX3_sideboard_8 : decode cX3_sideboard 8 = .ok (.getfield 10, 3) := by decide +kernel
theorem dX3_sideboard_11 : decode cX3_sideboard 11 = .ok (.aload_n 0, 1) := by decide +kernel
theorem dX3_sideboard_12 : decode cX3_sideboard 12 = .ok (.getfield 23, 3) := by decide +kernel
theorem dX3_sideboard_15 : decode cX3_sideboard 15 = .ok (.invokevirtual 68, 3) := by decide +kernel
theorem dX3_sideboard_18 : decode cX3_sideboard 18 = .ok (.istore_n 1, 1) := by decide +kernel
theorem dX3_sideboard_19 : decode cX3_sideboard 19 = .ok (.iload_n 1, 1) := by decide +kernel
theorem dX3_sideboard_20 : decode cX3_sideboard 20 = .ok (.ifCond .ge 5, 3) := by decide +kernel
theorem dX3_sideboard_23 : decode cX3_sideboard 23 = .ok (.iload_n 1, 1) := by decide +kernel
theorem dX3_sideboard_24 : decode cX3_sideboard 24 = .ok (.ireturn, 1) := by decide +kernel
theorem dX3_sideboard_25 : decode cX3_sideboard 25 = .ok (.aload_n 0, 1) := by decide +kernel
theorem dX3_sideboard_26 : decode cX3_sideboard 26 = .ok (.getfield 23, 3) := by decide +kernel
theorem dX3_sideboard_29 : decode cX3_sideboard 29 = .ok (.astore_n 2, 1) := by decide +kernel
theorem dX3_sideboard_30 : decode cX3_sideboard 30 = .ok (.aload_n 0, 1) := by decide +kernel
theorem dX3_sideboard_31 : decode cX3_sideboard 31 = .ok (.aload_n 0, 1) := by decide +kernel
theorem dX3_sideboard_32 : decode cX3_sideboard 32 = .ok (.getfield 19, 3) := by decide +kernel
theorem dX3_sideboard_35 : decode cX3_sideboard 35 = .ok (.putfield 23, 3) := by decide +kernel
theorem dX3_sideboard_38 : decode cX3_sideboard 38 = .ok (.aload_n 0, 1) := by decide +kernel
theorem dX3_sideboard_39 : decode cX3_sideboard 39 = .ok (.aload_n 2, 1) := by decide +kernel
theorem dX3_sideboard_40 : decode cX3_sideboard 40 = .ok (.putfield 19, 3) := by decide +kernel
theorem dX3_sideboard_43 : decode cX3_sideboard 43 = .ok (.aload_n 0, 1) := by decide +kernel
theorem dX3_sideboard_44 : decode cX3_sideboard 44 = .ok (.getfield 10, 3) := by decide +kernel
theorem dX3_sideboard_47 : decode cX3_sideboard 47 = .ok (.iconst 0, 1) := by decide +kernel
theorem dX3_sideboard_48 : decode cX3_sideboard 48 = .ok (.putfield 62, 3) := by decide +kernel
theorem dX3_sideboard_51 : decode cX3_sideboard 51 = .ok (.aload_n 0, 1) := by decide +kernel
theorem dX3_sideboard_52 : decode cX3_sideboard 52 = .ok (.getfield 29, 3) := by decide +kernel
theorem dX3_sideboard_55 : decode cX3_sideboard 55 = .ok (.aload_n 0, 1) := by decide +kernel
theorem dX3_sideboard_56 : decode cX3_sideboard 56 = .ok (.getfield 19, 3) := by decide +kernel
theorem dX3_sideboard_59 : decode cX3_sideboard 59 = .ok (.invokevirtual 72, 3) := by decide +kernel
theorem dX3_sideboard_62 : decode cX3_sideboard 62 = .ok (.aload_n 0, 1) := by decide +kernel
theorem dX3_sideboard_63 : decode cX3_sideboard 63 = .ok (.iconst 0, 1) := by decide +kernel
theorem dX3_sideboard_64 : decode cX3_sideboard 64 = .ok (.putfield 39, 3) := by decide +kernel
theorem dX3_sideboard_67 : decode cX3_sideboard 67 = .ok (.aload_n 0, 1) := by decide +kernel
theorem dX3_sideboard_68 : decode cX3_sideboard 68 = .ok (.iconst 0, 1) := by decide +kernel
theorem dX3_sideboard_69 : decode cX3_sideboard 69 = .ok (.putfield 51, 3) := by decide +kernel
theorem dX3_sideboard_72 : decode cX3_sideboard 72 = .ok (.iload_n 1, 1) := by decide +kernel
theorem dX3_sideboard_73 : decode cX3_sideboard 73 = .ok (.ireturn, 1) := by decide +kernel
theorem dX3_decanter_0 : decode cX3_decanter 0 = .ok (.aload_n 0, 1) := by decide +kernel
theorem dX3_decanter_1 : decode cX3_decanter 1 = .ok (.iload_n 1, 1) := by decide +kernel
theorem dX3_decanter_2 : decode cX3_decanter 2 = .ok (.invokevirtual 76, 3) := by decide +kernel
theorem dX3_decanter_5 : decode cX3_decanter 5 = .ok (.ifCond .ne 5, 3) := by decide +kernel
theorem dX3_decanter_8 : decode cX3_decanter 8 = .ok (.iconst (-1), 1) := by decide +kernel
theorem dX3_decanter_9 : decode cX3_decanter 9 = .ok (.ireturn, 1) := by decide +kernel
theorem dX3_decanter_10 : decode cX3_decanter 10 = .ok (.iload_n 2, 1) := by decide +kernel
theorem dX3_decanter_11 : decode cX3_decanter 11 = .ok (.tableswitch 79 0 4 #[33, 43, 53, 63, 73], 33) := by decide +kernel
theorem dX3_decanter_44 : decode cX3_decanter 44 = .ok (.aload_n 0, 1) := by decide +kernel
theorem dX3_decanter_45 : decode cX3_decanter 45 = .ok (.getfield 29, 3) := by decide +kernel
theorem dX3_decanter_48 : decode cX3_decanter 48 = .ok (.getfield 79, 3) := by decide +kernel
theorem dX3_decanter_51 : decode cX3_decanter 51 = .ok (.iload_n 1, 1) := by decide +kernel
theorem dX3_decanter_52 : decode cX3_decanter 52 = .ok (.iaload, 1) := by decide +kernel
theorem dX3_decanter_53 : decode cX3_decanter 53 = .ok (.ireturn, 1) := by decide +kernel
theorem dX3_decanter_54 : decode cX3_decanter 54 = .ok (.aload_n 0, 1) := by decide +kernel
theorem dX3_decanter_55 : decode cX3_decanter 55 = .ok (.getfield 19, 3) := by decide +kernel
theorem dX3_decanter_58 : decode cX3_decanter 58 = .ok (.getfield 82, 3) := by decide +kernel
theorem dX3_decanter_61 : decode cX3_decanter 61 = .ok (.iload_n 1, 1) := by decide +kernel
theorem dX3_decanter_62 : decode cX3_decanter 62 = .ok (.iaload, 1) := by decide +kernel
theorem dX3_decanter_63 : decode cX3_decanter 63 = .ok (.ireturn, 1) := by decide +kernel
theorem dX3_decanter_64 : decode cX3_decanter 64 = .ok (.aload_n 0, 1) := by decide +kernel
theorem dX3_decanter_65 : decode cX3_decanter 65 = .ok (.getfield 29, 3) := by decide +kernel
theorem dX3_decanter_68 : decode cX3_decanter 68 = .ok (.getfield 85, 3) := by decide +kernel
theorem dX3_decanter_71 : decode cX3_decanter 71 = .ok (.iload_n 1, 1) := by decide +kernel
theorem dX3_decanter_72 : decode cX3_decanter 72 = .ok (.iaload, 1) := by decide +kernel
theorem dX3_decanter_73 : decode cX3_decanter 73 = .ok (.ireturn, 1) := by decide +kernel
theorem dX3_decanter_74 : decode cX3_decanter 74 = .ok (.aload_n 0, 1) := by decide +kernel
theorem dX3_decanter_75 : decode cX3_decanter 75 = .ok (.getfield 29, 3) := by decide +kernel
theorem dX3_decanter_78 : decode cX3_decanter 78 = .ok (.getfield 88, 3) := by decide +kernel
theorem dX3_decanter_81 : decode cX3_decanter 81 = .ok (.iload_n 1, 1) := by decide +kernel
theorem dX3_decanter_82 : decode cX3_decanter 82 = .ok (.iaload, 1) := by decide +kernel
theorem dX3_decanter_83 : decode cX3_decanter 83 = .ok (.ireturn, 1) := by decide +kernel
theorem dX3_decanter_84 : decode cX3_decanter 84 = .ok (.aload_n 0, 1) := by decide +kernel
theorem dX3_decanter_85 : decode cX3_decanter 85 = .ok (.iload_n 1, 1) := by decide +kernel
theorem dX3_decanter_86 : decode cX3_decanter 86 = .ok (.invokevirtual 91, 3) := by decide +kernel
theorem dX3_decanter_89 : decode cX3_decanter 89 = .ok (.ireturn, 1) := by decide +kernel
theorem dX3_decanter_90 : decode cX3_decanter 90 = .ok (.iconst (-1), 1) := by decide +kernel
theorem dX3_decanter_91 : decode cX3_decanter 91 = .ok (.ireturn, 1) := by decide +kernel
theorem dX3_act_0 : decode cX3_act 0 = .ok (.aload_n 0, 1) := by decide +kernel
theorem dX3_act_1 : decode cX3_act 1 = .ok (.iload_n 1, 1) := by decide +kernel
theorem dX3_act_2 : decode cX3_act 2 = .ok (.invokevirtual 95, 3) := by decide +kernel
theorem dX3_act_5 : decode cX3_act 5 = .ok (.ifCond .ne 5, 3) := by decide +kernel
theorem dX3_act_8 : decode cX3_act 8 = .ok (.iconst (-1), 1) := by decide +kernel
theorem dX3_act_9 : decode cX3_act 9 = .ok (.ireturn, 1) := by decide +kernel
theorem dX3_act_10 : decode cX3_act 10 = .ok (.iload_n 2, 1) := by decide +kernel
theorem dX3_act_11 : decode cX3_act 11 = .ok (.tableswitch 68 0 3 #[29, 39, 48, 62], 29) := by decide +kernel
theorem dX3_act_40 : decode cX3_act 40 = .ok (.aload_n 0, 1) := by decide +kernel
theorem dX3_act_41 : decode cX3_act 41 = .ok (.getfield 19, 3) := by decide +kernel
theorem dX3_act_44 : decode cX3_act 44 = .ok (.getfield 98, 3) := by decide +kernel
theorem dX3_act_47 : decode cX3_act 47 = .ok (.iload_n 1, 1) := by decide +kernel
theorem dX3_act_48 : decode cX3_act 48 = .ok (.iaload, 1) := by decide +kernel
theorem dX3_act_49 : decode cX3_act 49 = .ok (.ireturn, 1) := by decide +kernel
theorem dX3_act_50 : decode cX3_act 50 = .ok (.aload_n 0, 1) := by decide +kernel
theorem dX3_act_51 : decode cX3_act 51 = .ok (.getfield 19, 3) := by decide +kernel
theorem dX3_act_54 : decode cX3_act 54 = .ok (.iload_n 1, 1) := by decide +kernel
theorem dX3_act_55 : decode cX3_act 55 = .ok (.invokevirtual 101, 3) := by decide +kernel
theorem dX3_act_58 : decode cX3_act 58 = .ok (.ireturn, 1) := by decide +kernel
theorem dX3_act_59 : decode cX3_act 59 = .ok (.aload_n 0, 1) := by decide +kernel
theorem dX3_act_60 : decode cX3_act 60 = .ok (.iload_n 1, 1) := by decide +kernel
theorem dX3_act_61 : decode cX3_act 61 = .ok (.invokevirtual 104, 3) := by decide +kernel
theorem dX3_act_64 : decode cX3_act 64 = .ok (.ifCond .eq 7, 3) := by decide +kernel
theorem dX3_act_67 : decode cX3_act 67 = .ok (.iconst 1, 1) := by decide +kernel
theorem dX3_act_68 : decode cX3_act 68 = .ok (.goto 4, 3) := by decide +kernel
theorem dX3_act_71 : decode cX3_act 71 = .ok (.iconst 0, 1) := by decide +kernel
theorem dX3_act_72 : decode cX3_act 72 = .ok (.ireturn, 1) := by decide +kernel
theorem dX3_act_73 : decode cX3_act 73 = .ok (.aload_n 0, 1) := by decide +kernel
theorem dX3_act_74 : decode cX3_act 74 = .ok (.iload_n 1, 1) := by decide +kernel
theorem dX3_act_75 : decode cX3_act 75 = .ok (.invokevirtual 107, 3) := by decide +kernel
theorem dX3_act_78 : decode cX3_act 78 = .ok (.ireturn, 1) := by decide +kernel
theorem dX3_act_79 : decode cX3_act 79 = .ok (.iconst (-1), 1) := by decide +kernel
theorem dX3_act_80 : decode cX3_act 80 = .ok (.ireturn, 1) := by decide +kernel
theorem dX3_needs_0 : decode cX3_needs 0 = .ok (.aload_n 0, 1) := by decide +kernel
theorem dX3_needs_1 : decode cX3_needs 1 = .ok (.iload_n 1, 1) := by decide +kernel
theorem dX3_needs_2 : decode cX3_needs 2 = .ok (.invokevirtual 95, 3) := by decide +kernel
theorem dX3_needs_5 : decode cX3_needs 5 = .ok (.ifCond .eq 11, 3) := by decide +kernel
theorem dX3_needs_8 : decode cX3_needs 8 = .ok (.aload_n 0, 1) := by decide +kernel
theorem dX3_needs_9 : decode cX3_needs 9 = .ok (.iload_n 2, 1) := by decide +kernel
theorem dX3_needs_10 : decode cX3_needs 10 = .ok (.invokevirtual 76, 3) := by decide +kernel
theorem dX3_needs_13 : decode cX3_needs 13 = .ok (.ifCond .ne 5, 3) := by decide +kernel
theorem dX3_needs_16 : decode cX3_needs 16 = .ok (.iconst (-1), 1) := by decide +kernel
theorem dX3_needs_17 : decode cX3_needs 17 = .ok (.ireturn, 1) := by decide +kernel
theorem dX3_needs_18 : decode cX3_needs 18 = .ok (.aload_n 0, 1) := by decide +kernel
theorem dX3_needs_19 : decode cX3_needs 19 = .ok (.getfield 19, 3) := by decide +kernel
theorem dX3_needs_22 : decode cX3_needs 22 = .ok (.iload_n 1, 1) := by decide +kernel
theorem dX3_needs_23 : decode cX3_needs 23 = .ok (.iload_n 2, 1) := by decide +kernel
theorem dX3_needs_24 : decode cX3_needs 24 = .ok (.invokevirtual 110, 3) := by decide +kernel
theorem dX3_needs_27 : decode cX3_needs 27 = .ok (.ireturn, 1) := by decide +kernel
theorem dX3_pours_0 : decode cX3_pours 0 = .ok (.aload_n 0, 1) := by decide +kernel
theorem dX3_pours_1 : decode cX3_pours 1 = .ok (.iload_n 1, 1) := by decide +kernel
theorem dX3_pours_2 : decode cX3_pours 2 = .ok (.invokevirtual 95, 3) := by decide +kernel
theorem dX3_pours_5 : decode cX3_pours 5 = .ok (.ifCond .ne 5, 3) := by decide +kernel
theorem dX3_pours_8 : decode cX3_pours 8 = .ok (.iconst (-1), 1) := by decide +kernel
theorem dX3_pours_9 : decode cX3_pours 9 = .ok (.ireturn, 1) := by decide +kernel
theorem dX3_pours_10 : decode cX3_pours 10 = .ok (.aload_n 0, 1) := by decide +kernel
theorem dX3_pours_11 : decode cX3_pours 11 = .ok (.iload_n 1, 1) := by decide +kernel
theorem dX3_pours_12 : decode cX3_pours 12 = .ok (.invokevirtual 104, 3) := by decide +kernel
theorem dX3_pours_15 : decode cX3_pours 15 = .ok (.ifCond .ne 11, 3) := by decide +kernel
theorem dX3_pours_18 : decode cX3_pours 18 = .ok (.aload_n 0, 1) := by decide +kernel
theorem dX3_pours_19 : decode cX3_pours 19 = .ok (.iload_n 1, 1) := by decide +kernel
theorem dX3_pours_20 : decode cX3_pours 20 = .ok (.invokevirtual 114, 3) := by decide +kernel
theorem dX3_pours_23 : decode cX3_pours 23 = .ok (.ifCond .ne 6, 3) := by decide +kernel
theorem dX3_pours_26 : decode cX3_pours 26 = .ok (.bipush (-2), 2) := by decide +kernel
theorem dX3_pours_28 : decode cX3_pours 28 = .ok (.ireturn, 1) := by decide +kernel
theorem dX3_pours_29 : decode cX3_pours 29 = .ok (.aload_n 0, 1) := by decide +kernel
theorem dX3_pours_30 : decode cX3_pours 30 = .ok (.getfield 29, 3) := by decide +kernel
theorem dX3_pours_33 : decode cX3_pours 33 = .ok (.invokevirtual 117, 3) := by decide +kernel
theorem dX3_pours_36 : decode cX3_pours 36 = .ok (.aload_n 0, 1) := by decide +kernel
theorem dX3_pours_37 : decode cX3_pours 37 = .ok (.iload_n 1, 1) := by decide +kernel
theorem dX3_pours_38 : decode cX3_pours 38 = .ok (.invokevirtual 120, 3) := by decide +kernel
theorem dX3_pours_41 : decode cX3_pours 41 = .ok (.istore_n 2, 1) := by decide +kernel
theorem dX3_pours_42 : decode cX3_pours 42 = .ok (.iconst 0, 1) := by decide +kernel
theorem dX3_pours_43 : decode cX3_pours 43 = .ok (.istore_n 3, 1) := by decide +kernel
theorem dX3_pours_44 : decode cX3_pours 44 = .ok (.iload_n 3, 1) := by decide +kernel
theorem dX3_pours_45 : decode cX3_pours 45 = .ok (.aload_n 0, 1) := by decide +kernel
theorem dX3_pours_46 : decode cX3_pours 46 = .ok (.getfield 19, 3) := by decide +kernel
theorem dX3_pours_49 : decode cX3_pours 49 = .ok (.getfield 123, 3) := by decide +kernel
theorem dX3_pours_52 : decode cX3_pours 52 = .ok (.if_icmp .ge 23, 3) := by decide +kernel
theorem dX3_pours_55 : decode cX3_pours 55 = .ok (.aload_n 0, 1) := by decide +kernel
theorem dX3_pours_56 : decode cX3_pours 56 = .ok (.getfield 29, 3) := by decide +kernel
theorem dX3_pours_59 : decode cX3_pours 59 = .ok (.iload_n 3, 1) := by decide +kernel
theorem dX3_pours_60 : decode cX3_pours 60 = .ok (.aload_n 0, 1) := by decide +kernel
theorem dX3_pours_61 : decode cX3_pours 61 = .ok (.iload_n 3, 1) := by decide +kernel
theorem dX3_pours_62 : decode cX3_pours 62 = .ok (.iload_n 1, 1) := by decide +kernel
theorem dX3_pours_63 : decode cX3_pours 63 = .ok (.invokevirtual 126, 3) := by decide +kernel
theorem dX3_pours_66 : decode cX3_pours 66 = .ok (.invokevirtual 129, 3) := by decide +kernel
theorem dX3_pours_69 : decode cX3_pours 69 = .ok (.iinc 3 1, 3) := by decide +kernel
theorem dX3_pours_72 : decode cX3_pours 72 = .ok (.goto (-28), 3) := by decide +kernel
theorem dX3_pours_75 : decode cX3_pours 75 = .ok (.aload_n 0, 1) := by decide +kernel
theorem dX3_pours_76 : decode cX3_pours 76 = .ok (.getfield 29, 3) := by decide +kernel
theorem dX3_pours_79 : decode cX3_pours 79 = .ok (.dup, 1) := by decide +kernel
theorem dX3_pours_80 : decode cX3_pours 80 = .ok (.getfield 133, 3) := by decide +kernel
theorem dX3_pours_83 : decode cX3_pours 83 = .ok (.iconst 1, 1) := by decide +kernel
theorem dX3_pours_84 : decode cX3_pours 84 = .ok (.iload_n 1, 1) := by decide +kernel
theorem dX3_pours_85 : decode cX3_pours 85 = .ok (.ishl, 1) := by decide +kernel
theorem dX3_pours_86 : decode cX3_pours 86 = .ok (.ior, 1) := by decide +kernel
theorem dX3_pours_87 : decode cX3_pours 87 = .ok (.putfield 133, 3) := by decide +kernel
theorem dX3_pours_90 : decode cX3_pours 90 = .ok (.iload_n 2, 1) := by decide +kernel
theorem dX3_pours_91 : decode cX3_pours 91 = .ok (.ifCond .eq 27, 3) := by decide +kernel
theorem dX3_pours_94 : decode cX3_pours 94 = .ok (.aload_n 0, 1) := by decide +kernel
theorem dX3_pours_95 : decode cX3_pours 95 = .ok (.getfield 29, 3) := by decide +kernel
theorem dX3_pours_98 : decode cX3_pours 98 = .ok (.dup, 1) := by decide +kernel
theorem dX3_pours_99 : decode cX3_pours 99 = .ok (.getfield 136, 3) := by decide +kernel
theorem dX3_pours_102 : decode cX3_pours 102 = .ok (.aload_n 0, 1) := by decide +kernel
theorem dX3_pours_103 : decode cX3_pours 103 = .ok (.getfield 19, 3) := by decide +kernel
theorem dX3_pours_106 : decode cX3_pours 106 = .ok (.getfield 98, 3) := by decide +kernel
theorem dX3_pours_109 : decode cX3_pours 109 = .ok (.iload_n 1, 1) := by decide +kernel
theorem dX3_pours_110 : decode cX3_pours 110 = .ok (.iaload, 1) := by decide +kernel
theorem dX3_pours_111 : decode cX3_pours 111 = .ok (.iadd, 1) := by decide +kernel
theorem dX3_pours_112 : decode cX3_pours 112 = .ok (.putfield 136, 3) := by decide +kernel
theorem dX3_pours_115 : decode cX3_pours 115 = .ok (.goto 16, 3) := by decide +kernel
theorem dX3_pours_118 : decode cX3_pours 118 = .ok (.aload_n 0, 1) := by decide +kernel
theorem dX3_pours_119 : decode cX3_pours 119 = .ok (.getfield 29, 3) := by decide +kernel
theorem dX3_pours_122 : decode cX3_pours 122 = .ok (.dup, 1) := by decide +kernel
theorem dX3_pours_123 : decode cX3_pours 123 = .ok (.getfield 139, 3) := by decide +kernel
theorem dX3_pours_126 : decode cX3_pours 126 = .ok (.iconst 1, 1) := by decide +kernel
theorem dX3_pours_127 : decode cX3_pours 127 = .ok (.iadd, 1) := by decide +kernel
theorem dX3_pours_128 : decode cX3_pours 128 = .ok (.putfield 139, 3) := by decide +kernel
theorem dX3_pours_131 : decode cX3_pours 131 = .ok (.iload_n 2, 1) := by decide +kernel
theorem dX3_pours_132 : decode cX3_pours 132 = .ok (.ifCond .eq 7, 3) := by decide +kernel
theorem dX3_pours_135 : decode cX3_pours 135 = .ok (.iconst 1, 1) := by decide +kernel
theorem dX3_pours_136 : decode cX3_pours 136 = .ok (.goto 4, 3) := by decide +kernel
theorem dX3_pours_139 : decode cX3_pours 139 = .ok (.iconst 0, 1) := by decide +kernel
theorem dX3_pours_140 : decode cX3_pours 140 = .ok (.ireturn, 1) := by decide +kernel
theorem dX3_month_0 : decode cX3_month 0 = .ok (.aload_n 0, 1) := by decide +kernel
theorem dX3_month_1 : decode cX3_month 1 = .ok (.getfield 29, 3) := by decide +kernel
theorem dX3_month_4 : decode cX3_month 4 = .ok (.getfield 142, 3) := by decide +kernel
theorem dX3_month_7 : decode cX3_month 7 = .ok (.sipush 999, 3) := by decide +kernel
theorem dX3_month_10 : decode cX3_month 10 = .ok (.if_icmp .lt 6, 3) := by decide +kernel
theorem dX3_month_13 : decode cX3_month 13 = .ok (.bipush (-2), 2) := by decide +kernel
theorem dX3_month_15 : decode cX3_month 15 = .ok (.ireturn, 1) := by decide +kernel
theorem dX3_month_16 : decode cX3_month 16 = .ok (.aload_n 0, 1) := by decide +kernel
theorem dX3_month_17 : decode cX3_month 17 = .ok (.getfield 29, 3) := by decide +kernel
theorem dX3_month_20 : decode cX3_month 20 = .ok (.invokevirtual 117, 3) := by decide +kernel
theorem dX3_month_23 : decode cX3_month 23 = .ok (.iconst 0, 1) := by decide +kernel
theorem dX3_month_24 : decode cX3_month 24 = .ok (.istore_n 1, 1) := by decide +kernel
theorem dX3_month_25 : decode cX3_month 25 = .ok (.iload_n 1, 1) := by decide +kernel
theorem dX3_month_26 : decode cX3_month 26 = .ok (.aload_n 0, 1) := by decide +kernel
theorem dX3_month_27 : decode cX3_month 27 = .ok (.getfield 19, 3) := by decide +kernel
theorem dX3_month_30 : decode cX3_month 30 = .ok (.getfield 123, 3) := by decide +kernel
theorem dX3_month_33 : decode cX3_month 33 = .ok (.if_icmp .ge 26, 3) := by decide +kernel
theorem dX3_month_36 : decode cX3_month 36 = .ok (.aload_n 0, 1) := by decide +kernel
theorem dX3_month_37 : decode cX3_month 37 = .ok (.getfield 29, 3) := by decide +kernel
theorem dX3_month_40 : decode cX3_month 40 = .ok (.iload_n 1, 1) := by decide +kernel
theorem dX3_month_41 : decode cX3_month 41 = .ok (.aload_n 0, 1) := by decide +kernel
theorem dX3_month_42 : decode cX3_month 42 = .ok (.getfield 19, 3) := by decide +kernel
theorem dX3_month_45 : decode cX3_month 45 = .ok (.getfield 82, 3) := by decide +kernel
theorem dX3_month_48 : decode cX3_month 48 = .ok (.iload_n 1, 1) := by decide +kernel
theorem dX3_month_49 : decode cX3_month 49 = .ok (.iaload, 1) := by decide +kernel
theorem dX3_month_50 : decode cX3_month 50 = .ok (.invokevirtual 129, 3) := by decide +kernel
theorem dX3_month_53 : decode cX3_month 53 = .ok (.iinc 1 1, 3) := by decide +kernel
theorem dX3_month_56 : decode cX3_month 56 = .ok (.goto (-31), 3) := by decide +kernel
theorem dX3_month_59 : decode cX3_month 59 = .ok (.aload_n 0, 1) := by decide +kernel
theorem dX3_month_60 : decode cX3_month 60 = .ok (.getfield 29, 3) := by decide +kernel
theorem dX3_month_63 : decode cX3_month 63 = .ok (.dup, 1) := by decide +kernel
theorem dX3_month_64 : decode cX3_month 64 = .ok (.getfield 142, 3) := by decide +kernel
theorem dX3_month_67 : decode cX3_month 67 = .ok (.iconst 1, 1) := by decide +kernel
theorem dX3_month_68 : decode cX3_month 68 = .ok (.iadd, 1) := by decide +kernel
theorem dX3_month_69 : decode cX3_month 69 = .ok (.putfield 142, 3) := by decide +kernel
theorem dX3_month_72 : decode cX3_month 72 = .ok (.aload_n 0, 1) := by decide +kernel
theorem dX3_month_73 : decode cX3_month 73 = .ok (.getfield 29, 3) := by decide +kernel
theorem dX3_month_76 : decode cX3_month 76 = .ok (.getfield 142, 3) := by decide +kernel
theorem dX3_month_79 : decode cX3_month 79 = .ok (.ireturn, 1) := by decide +kernel
theorem dX3_tops_0 : decode cX3_tops 0 = .ok (.aload_n 0, 1) := by decide +kernel
theorem dX3_tops_1 : decode cX3_tops 1 = .ok (.iload_n 1, 1) := by decide +kernel
theorem dX3_tops_2 : decode cX3_tops 2 = .ok (.invokevirtual 76, 3) := by decide +kernel
theorem dX3_tops_5 : decode cX3_tops 5 = .ok (.ifCond .eq 14, 3) := by decide +kernel
theorem dX3_tops_8 : decode cX3_tops 8 = .ok (.iload_n 2, 1) := by decide +kernel
theorem dX3_tops_9 : decode cX3_tops 9 = .ok (.iconst 1, 1) := by decide +kernel
theorem dX3_tops_10 : decode cX3_tops 10 = .ok (.if_icmp .lt 9, 3) := by decide +kernel
theorem dX3_tops_13 : decode cX3_tops 13 = .ok (.iload_n 2, 1) := by decide +kernel
theorem dX3_tops_14 : decode cX3_tops 14 = .ok (.bipush 40, 2) := by decide +kernel
theorem dX3_tops_16 : decode cX3_tops 16 = .ok (.if_icmp .le 5, 3) := by decide +kernel
theorem dX3_tops_19 : decode cX3_tops 19 = .ok (.iconst (-1), 1) := by decide +kernel
theorem dX3_tops_20 : decode cX3_tops 20 = .ok (.ireturn, 1) := by decide +kernel
theorem dX3_tops_21 : decode cX3_tops 21 = .ok (.aload_n 0, 1) := by decide +kernel
theorem dX3_tops_22 : decode cX3_tops 22 = .ok (.getfield 29, 3) := by decide +kernel
theorem dX3_tops_25 : decode cX3_tops 25 = .ok (.getfield 79, 3) := by decide +kernel
theorem dX3_tops_28 : decode cX3_tops 28 = .ok (.iload_n 1, 1) := by decide +kernel
theorem dX3_tops_29 : decode cX3_tops 29 = .ok (.iaload, 1) := by decide +kernel
theorem dX3_tops_30 : decode cX3_tops 30 = .ok (.iload_n 2, 1) := by decide +kernel
theorem dX3_tops_31 : decode cX3_tops 31 = .ok (.iadd, 1) := by decide +kernel
theorem dX3_tops_32 : decode cX3_tops 32 = .ok (.bipush 40, 2) := by decide +kernel
theorem dX3_tops_34 : decode cX3_tops 34 = .ok (.if_icmp .le 6, 3) := by decide +kernel
theorem dX3_tops_37 : decode cX3_tops 37 = .ok (.bipush (-2), 2) := by decide +kernel
theorem dX3_tops_39 : decode cX3_tops 39 = .ok (.ireturn, 1) := by decide +kernel
theorem dX3_tops_40 : decode cX3_tops 40 = .ok (.aload_n 0, 1) := by decide +kernel
theorem dX3_tops_41 : decode cX3_tops 41 = .ok (.getfield 29, 3) := by decide +kernel
theorem dX3_tops_44 : decode cX3_tops 44 = .ok (.invokevirtual 117, 3) := by decide +kernel
theorem dX3_tops_47 : decode cX3_tops 47 = .ok (.aload_n 0, 1) := by decide +kernel
theorem dX3_tops_48 : decode cX3_tops 48 = .ok (.getfield 29, 3) := by decide +kernel
theorem dX3_tops_51 : decode cX3_tops 51 = .ok (.getfield 79, 3) := by decide +kernel
theorem dX3_tops_54 : decode cX3_tops 54 = .ok (.iload_n 1, 1) := by decide +kernel
theorem dX3_tops_55 : decode cX3_tops 55 = .ok (.dup2, 1) := by decide +kernel
theorem dX3_tops_56 : decode cX3_tops 56 = .ok (.iaload, 1) := by decide +kernel
theorem dX3_tops_57 : decode cX3_tops 57 = .ok (.iload_n 2, 1) := by decide +kernel
theorem dX3_tops_58 : decode cX3_tops 58 = .ok (.iadd, 1) := by decide +kernel
theorem dX3_tops_59 : decode cX3_tops 59 = .ok (.iastore, 1) := by decide +kernel
theorem dX3_tops_60 : decode cX3_tops 60 = .ok (.aload_n 0, 1) := by decide +kernel
theorem dX3_tops_61 : decode cX3_tops 61 = .ok (.getfield 29, 3) := by decide +kernel
theorem dX3_tops_64 : decode cX3_tops 64 = .ok (.getfield 85, 3) := by decide +kernel
theorem dX3_tops_67 : decode cX3_tops 67 = .ok (.iload_n 1, 1) := by decide +kernel
theorem dX3_tops_68 : decode cX3_tops 68 = .ok (.dup2, 1) := by decide +kernel
theorem dX3_tops_69 : decode cX3_tops 69 = .ok (.iaload, 1) := by decide +kernel
theorem dX3_tops_70 : decode cX3_tops 70 = .ok (.iload_n 2, 1) := by decide +kernel
theorem dX3_tops_71 : decode cX3_tops 71 = .ok (.iadd, 1) := by decide +kernel
theorem dX3_tops_72 : decode cX3_tops 72 = .ok (.iastore, 1) := by decide +kernel
theorem dX3_tops_73 : decode cX3_tops 73 = .ok (.aload_n 0, 1) := by decide +kernel
theorem dX3_tops_74 : decode cX3_tops 74 = .ok (.getfield 29, 3) := by decide +kernel
theorem dX3_tops_77 : decode cX3_tops 77 = .ok (.getfield 79, 3) := by decide +kernel
theorem dX3_tops_80 : decode cX3_tops 80 = .ok (.iload_n 1, 1) := by decide +kernel
theorem dX3_tops_81 : decode cX3_tops 81 = .ok (.iaload, 1) := by decide +kernel
theorem dX3_tops_82 : decode cX3_tops 82 = .ok (.ireturn, 1) := by decide +kernel
theorem dX3_labels_0 : decode cX3_labels 0 = .ok (.aload_n 0, 1) := by decide +kernel
theorem dX3_labels_1 : decode cX3_labels 1 = .ok (.iload_n 1, 1) := by decide +kernel
theorem dX3_labels_2 : decode cX3_labels 2 = .ok (.invokevirtual 76, 3) := by decide +kernel
theorem dX3_labels_5 : decode cX3_labels 5 = .ok (.ifCond .eq 16, 3) := by decide +kernel
theorem dX3_labels_8 : decode cX3_labels 8 = .ok (.aload_n 0, 1) := by decide +kernel
theorem dX3_labels_9 : decode cX3_labels 9 = .ok (.iload_n 2, 1) := by decide +kernel
theorem dX3_labels_10 : decode cX3_labels 10 = .ok (.invokevirtual 76, 3) := by decide +kernel
theorem dX3_labels_13 : decode cX3_labels 13 = .ok (.ifCond .eq 8, 3) := by decide +kernel
theorem dX3_labels_16 : decode cX3_labels 16 = .ok (.iload_n 1, 1) := by decide +kernel
theorem dX3_labels_17 : decode cX3_labels 17 = .ok (.iload_n 2, 1) := by decide +kernel
theorem dX3_labels_18 : decode cX3_labels 18 = .ok (.if_icmp .ne 5, 3) := by decide +kernel
theorem dX3_labels_21 : decode cX3_labels 21 = .ok (.iconst (-1), 1) := by decide +kernel
theorem dX3_labels_22 : decode cX3_labels 22 = .ok (.ireturn, 1) := by decide +kernel
theorem dX3_labels_23 : decode cX3_labels 23 = .ok (.aload_n 0, 1) := by decide +kernel
theorem dX3_labels_24 : decode cX3_labels 24 = .ok (.getfield 29, 3) := by decide +kernel
theorem dX3_labels_27 : decode cX3_labels 27 = .ok (.invokevirtual 117, 3) := by decide +kernel
theorem dX3_labels_30 : decode cX3_labels 30 = .ok (.aload_n 0, 1) := by decide +kernel
theorem dX3_labels_31 : decode cX3_labels 31 = .ok (.getfield 29, 3) := by decide +kernel
theorem dX3_labels_34 : decode cX3_labels 34 = .ok (.getfield 88, 3) := by decide +kernel
theorem dX3_labels_37 : decode cX3_labels 37 = .ok (.iload_n 1, 1) := by decide +kernel
theorem dX3_labels_38 : decode cX3_labels 38 = .ok (.iaload, 1) := by decide +kernel
theorem dX3_labels_39 : decode cX3_labels 39 = .ok (.istore_n 3, 1) := by decide +kernel
theorem dX3_labels_40 : decode cX3_labels 40 = .ok (.aload_n 0, 1) := by decide +kernel
theorem dX3_labels_41 : decode cX3_labels 41 = .ok (.getfield 29, 3) := by decide +kernel
theorem dX3_labels_44 : decode cX3_labels 44 = .ok (.getfield 88, 3) := by decide +kernel
theorem dX3_labels_47 : decode cX3_labels 47 = .ok (.iload_n 1, 1) := by decide +kernel
theorem dX3_labels_48 : decode cX3_labels 48 = .ok (.aload_n 0, 1) := by decide +kernel
theorem dX3_labels_49 : decode cX3_labels 49 = .ok (.getfield 29, 3) := by decide +kernel
theorem dX3_labels_52 : decode cX3_labels 52 = .ok (.getfield 88, 3) := by decide +kernel
theorem dX3_labels_55 : decode cX3_labels 55 = .ok (.iload_n 2, 1) := by decide +kernel
theorem dX3_labels_56 : decode cX3_labels 56 = .ok (.iaload, 1) := by decide +kernel
theorem dX3_labels_57 : decode cX3_labels 57 = .ok (.iastore, 1) := by decide +kernel
theorem dX3_labels_58 : decode cX3_labels 58 = .ok (.aload_n 0, 1) := by decide +kernel
theorem dX3_labels_59 : decode cX3_labels 59 = .ok (.getfield 29, 3) := by decide +kernel
theorem dX3_labels_62 : decode cX3_labels 62 = .ok (.getfield 88, 3) := by decide +kernel
theorem dX3_labels_65 : decode cX3_labels 65 = .ok (.iload_n 2, 1) := by decide +kernel
theorem dX3_labels_66 : decode cX3_labels 66 = .ok (.iload_n 3, 1) := by decide +kernel
theorem dX3_labels_67 : decode cX3_labels 67 = .ok (.iastore, 1) := by decide +kernel
theorem dX3_labels_68 : decode cX3_labels 68 = .ok (.iconst 0, 1) := by decide +kernel
theorem dX3_labels_69 : decode cX3_labels 69 = .ok (.istore 4, 2) := by decide +kernel
theorem dX3_labels_71 : decode cX3_labels 71 = .ok (.iconst 0, 1) := by decide +kernel
theorem dX3_labels_72 : decode cX3_labels 72 = .ok (.istore 5, 2) := by decide +kernel
theorem dX3_labels_74 : decode cX3_labels 74 = .ok (.iload 5, 2) := by decide +kernel
theorem dX3_labels_76 : decode cX3_labels 76 = .ok (.aload_n 0, 1) := by decide +kernel
theorem dX3_labels_77 : decode cX3_labels 77 = .ok (.getfield 19, 3) := by decide +kernel
theorem dX3_labels_80 : decode cX3_labels 80 = .ok (.getfield 123, 3) := by decide +kernel
theorem dX3_labels_83 : decode cX3_labels 83 = .ok (.if_icmp .ge 27, 3) := by decide +kernel
theorem dX3_labels_86 : decode cX3_labels 86 = .ok (.aload_n 0, 1) := by decide +kernel
theorem dX3_labels_87 : decode cX3_labels 87 = .ok (.getfield 29, 3) := by decide +kernel
theorem dX3_labels_90 : decode cX3_labels 90 = .ok (.getfield 88, 3) := by decide +kernel
theorem dX3_labels_93 : decode cX3_labels 93 = .ok (.iload 5, 2) := by decide +kernel
theorem dX3_labels_95 : decode cX3_labels 95 = .ok (.iaload, 1) := by decide +kernel
theorem dX3_labels_96 : decode cX3_labels 96 = .ok (.iload 5, 2) := by decide +kernel
theorem dX3_labels_98 : decode cX3_labels 98 = .ok (.if_icmp .ne 6, 3) := by decide +kernel
theorem dX3_labels_101 : decode cX3_labels 101 = .ok (.iinc 4 1, 3) := by decide +kernel
theorem dX3_labels_104 : decode cX3_labels 104 = .ok (.iinc 5 1, 3) := by decide +kernel
theorem dX3_labels_107 : decode cX3_labels 107 = .ok (.goto (-33), 3) := by decide +kernel
theorem dX3_labels_110 : decode cX3_labels 110 = .ok (.iload 4, 2) := by decide +kernel
theorem dX3_labels_112 : decode cX3_labels 112 = .ok (.ireturn, 1) := by decide +kernel
theorem dX3_undo_0 : decode cX3_undo 0 = .ok (.aload_n 0, 1) := by decide +kernel
theorem dX3_undo_1 : decode cX3_undo 1 = .ok (.getfield 29, 3) := by decide +kernel
theorem dX3_undo_4 : decode cX3_undo 4 = .ok (.invokevirtual 145, 3) := by decide +kernel
theorem dX3_undo_7 : decode cX3_undo 7 = .ok (.ifCond .eq 13, 3) := by decide +kernel
theorem dX3_undo_10 : decode cX3_undo 10 = .ok (.aload_n 0, 1) := by decide +kernel
theorem dX3_undo_11 : decode cX3_undo 11 = .ok (.getfield 29, 3) := by decide +kernel
theorem dX3_undo_14 : decode cX3_undo 14 = .ok (.getfield 149, 3) := by decide +kernel
theorem dX3_undo_17 : decode cX3_undo 17 = .ok (.goto 5, 3) := by decide +kernel
theorem dX3_undo_20 : decode cX3_undo 20 = .ok (.bipush (-2), 2) := by decide +kernel
theorem dX3_undo_22 : decode cX3_undo 22 = .ok (.ireturn, 1) := by decide +kernel
theorem dX3_now_0 : decode cX3_now 0 = .ok (.iload_n 1, 1) := by decide +kernel
theorem dX3_now_1 : decode cX3_now 1 = .ok (.tableswitch 81 0 5 #[39, 47, 55, 63, 71, 76], 39) := by decide +kernel
theorem dX3_now_40 : decode cX3_now 40 = .ok (.aload_n 0, 1) := by decide +kernel
theorem dX3_now_41 : decode cX3_now 41 = .ok (.getfield 29, 3) := by decide +kernel
theorem dX3_now_44 : decode cX3_now 44 = .ok (.getfield 142, 3) := by decide +kernel
theorem dX3_now_47 : decode cX3_now 47 = .ok (.ireturn, 1) := by decide +kernel
theorem dX3_now_48 : decode cX3_now 48 = .ok (.aload_n 0, 1) := by decide +kernel
theorem dX3_now_49 : decode cX3_now 49 = .ok (.getfield 29, 3) := by decide +kernel
theorem dX3_now_52 : decode cX3_now 52 = .ok (.getfield 133, 3) := by decide +kernel
theorem dX3_now_55 : decode cX3_now 55 = .ok (.ireturn, 1) := by decide +kernel
theorem dX3_now_56 : decode cX3_now 56 = .ok (.aload_n 0, 1) := by decide +kernel
theorem dX3_now_57 : decode cX3_now 57 = .ok (.getfield 29, 3) := by decide +kernel
theorem dX3_now_60 : decode cX3_now 60 = .ok (.getfield 136, 3) := by decide +kernel
theorem dX3_now_63 : decode cX3_now 63 = .ok (.ireturn, 1) := by decide +kernel
theorem dX3_now_64 : decode cX3_now 64 = .ok (.aload_n 0, 1) := by decide +kernel
theorem dX3_now_65 : decode cX3_now 65 = .ok (.getfield 29, 3) := by decide +kernel
theorem dX3_now_68 : decode cX3_now 68 = .ok (.getfield 139, 3) := by decide +kernel
theorem dX3_now_71 : decode cX3_now 71 = .ok (.ireturn, 1) := by decide +kernel
theorem dX3_now_72 : decode cX3_now 72 = .ok (.aload_n 0, 1) := by decide +kernel
theorem dX3_now_73 : decode cX3_now 73 = .ok (.invokevirtual 152, 3) := by decide +kernel
theorem dX3_now_76 : decode cX3_now 76 = .ok (.ireturn, 1) := by decide +kernel
theorem dX3_now_77 : decode cX3_now 77 = .ok (.aload_n 0, 1) := by decide +kernel
theorem dX3_now_78 : decode cX3_now 78 = .ok (.invokevirtual 156, 3) := by decide +kernel
theorem dX3_now_81 : decode cX3_now 81 = .ok (.ireturn, 1) := by decide +kernel
theorem dX3_now_82 : decode cX3_now 82 = .ok (.iconst (-1), 1) := by decide +kernel
theorem dX3_now_83 : decode cX3_now 83 = .ok (.ireturn, 1) := by decide +kernel
theorem dX3_tray_0 : decode cX3_tray 0 = .ok (.iload_n 1, 1) := by decide +kernel
theorem dX3_tray_1 : decode cX3_tray 1 = .ok (.invokestatic 159, 3) := by decide +kernel
theorem dX3_tray_4 : decode cX3_tray 4 = .ok (.ifCond .ne 5, 3) := by decide +kernel
theorem dX3_tray_7 : decode cX3_tray 7 = .ok (.iconst (-1), 1) := by decide +kernel
theorem dX3_tray_8 : decode cX3_tray 8 = .ok (.ireturn, 1) := by decide +kernel
theorem dX3_tray_9 : decode cX3_tray 9 = .ok (.iconst 0, 1) := by decide +kernel
theorem dX3_tray_10 : decode cX3_tray 10 = .ok (.istore_n 2, 1) := by decide +kernel
theorem dX3_tray_11 : decode cX3_tray 11 = .ok (.iconst 1, 1) := by decide +kernel
theorem dX3_tray_12 : decode cX3_tray 12 = .ok (.istore_n 3, 1) := by decide +kernel
theorem dX3_tray_13 : decode cX3_tray 13 = .ok (.iload_n 3, 1) := by decide +kernel
theorem dX3_tray_14 : decode cX3_tray 14 = .ok (.iconst 1, 1) := by decide +kernel
theorem dX3_tray_15 : decode cX3_tray 15 = .ok (.aload_n 0, 1) := by decide +kernel
theorem dX3_tray_16 : decode cX3_tray 16 = .ok (.getfield 19, 3) := by decide +kernel
theorem dX3_tray_19 : decode cX3_tray 19 = .ok (.getfield 162, 3) := by decide +kernel
theorem dX3_tray_22 : decode cX3_tray 22 = .ok (.ishl, 1) := by decide +kernel
theorem dX3_tray_23 : decode cX3_tray 23 = .ok (.if_icmp .ge 50, 3) := by decide +kernel
theorem dX3_tray_26 : decode cX3_tray 26 = .ok (.iload_n 3, 1) := by decide +kernel
theorem dX3_tray_27 : decode cX3_tray 27 = .ok (.aload_n 0, 1) := by decide +kernel
theorem dX3_tray_28 : decode cX3_tray 28 = .ok (.getfield 29, 3) := by decide +kernel
theorem dX3_tray_31 : decode cX3_tray 31 = .ok (.getfield 133, 3) := by decide +kernel
theorem dX3_tray_34 : decode cX3_tray 34 = .ok (.iand, 1) := by decide +kernel
theorem dX3_tray_35 : decode cX3_tray 35 = .ok (.ifCond .ne 32, 3) := by decide +kernel
theorem dX3_tray_38 : decode cX3_tray 38 = .ok (.aload_n 0, 1) := by decide +kernel
theorem dX3_tray_39 : decode cX3_tray 39 = .ok (.getfield 19, 3) := by decide +kernel
theorem dX3_tray_42 : decode cX3_tray 42 = .ok (.iload_n 3, 1) := by decide +kernel
theorem dX3_tray_43 : decode cX3_tray 43 = .ok (.invokevirtual 165, 3) := by decide +kernel
theorem dX3_tray_46 : decode cX3_tray 46 = .ok (.aload_n 0, 1) := by decide +kernel
theorem dX3_tray_47 : decode cX3_tray 47 = .ok (.getfield 19, 3) := by decide +kernel
theorem dX3_tray_50 : decode cX3_tray 50 = .ok (.iload_n 2, 1) := by decide +kernel
theorem dX3_tray_51 : decode cX3_tray 51 = .ok (.invokevirtual 165, 3) := by decide +kernel
theorem dX3_tray_54 : decode cX3_tray 54 = .ok (.if_icmp .le 13, 3) := by decide +kernel
theorem dX3_tray_57 : decode cX3_tray 57 = .ok (.aload_n 0, 1) := by decide +kernel
theorem dX3_tray_58 : decode cX3_tray 58 = .ok (.iload_n 3, 1) := by decide +kernel
theorem dX3_tray_59 : decode cX3_tray 59 = .ok (.invokevirtual 168, 3) := by decide +kernel
theorem dX3_tray_62 : decode cX3_tray 62 = .ok (.ifCond .eq 5, 3) := by decide +kernel
theorem dX3_tray_65 : decode cX3_tray 65 = .ok (.iload_n 3, 1) := by decide +kernel
theorem dX3_tray_66 : decode cX3_tray 66 = .ok (.istore_n 2, 1) := by decide +kernel
theorem dX3_tray_67 : decode cX3_tray 67 = .ok (.iinc 3 1, 3) := by decide +kernel
theorem dX3_tray_70 : decode cX3_tray 70 = .ok (.goto (-57), 3) := by decide +kernel
theorem dX3_tray_73 : decode cX3_tray 73 = .ok (.iload_n 1, 1) := by decide +kernel
theorem dX3_tray_74 : decode cX3_tray 74 = .ok (.ifCond .ne 7, 3) := by decide +kernel
theorem dX3_tray_77 : decode cX3_tray 77 = .ok (.iload_n 2, 1) := by decide +kernel
theorem dX3_tray_78 : decode cX3_tray 78 = .ok (.goto 11, 3) := by decide +kernel
theorem dX3_tray_81 : decode cX3_tray 81 = .ok (.aload_n 0, 1) := by decide +kernel
theorem dX3_tray_82 : decode cX3_tray 82 = .ok (.getfield 19, 3) := by decide +kernel
theorem dX3_tray_85 : decode cX3_tray 85 = .ok (.iload_n 2, 1) := by decide +kernel
theorem dX3_tray_86 : decode cX3_tray 86 = .ok (.invokevirtual 165, 3) := by decide +kernel
theorem dX3_tray_89 : decode cX3_tray 89 = .ok (.ireturn, 1) := by decide +kernel
theorem dX3_right_0 : decode cX3_right 0 = .ok (.iload_n 1, 1) := by decide +kernel
theorem dX3_right_1 : decode cX3_right 1 = .ok (.invokestatic 159, 3) := by decide +kernel
theorem dX3_right_4 : decode cX3_right 4 = .ok (.ifCond .ne 5, 3) := by decide +kernel
theorem dX3_right_7 : decode cX3_right 7 = .ok (.iconst (-1), 1) := by decide +kernel
theorem dX3_right_8 : decode cX3_right 8 = .ok (.ireturn, 1) := by decide +kernel
theorem dX3_right_9 : decode cX3_right 9 = .ok (.iload_n 1, 1) := by decide +kernel
theorem dX3_right_10 : decode cX3_right 10 = .ok (.ifCond .ne 10, 3) := by decide +kernel
theorem dX3_right_13 : decode cX3_right 13 = .ok (.aload_n 0, 1) := by decide +kernel
theorem dX3_right_14 : decode cX3_right 14 = .ok (.invokevirtual 171, 3) := by decide +kernel
theorem dX3_right_17 : decode cX3_right 17 = .ok (.goto 7, 3) := by decide +kernel
theorem dX3_right_20 : decode cX3_right 20 = .ok (.aload_n 0, 1) := by decide +kernel
theorem dX3_right_21 : decode cX3_right 21 = .ok (.invokevirtual 174, 3) := by decide +kernel
theorem dX3_right_24 : decode cX3_right 24 = .ok (.ireturn, 1) := by decide +kernel
theorem dX3_share_0 : decode cX3_share 0 = .ok (.iload_n 1, 1) := by decide +kernel
theorem dX3_share_1 : decode cX3_share 1 = .ok (.invokestatic 159, 3) := by decide +kernel
theorem dX3_share_4 : decode cX3_share 4 = .ok (.ifCond .ne 5, 3) := by decide +kernel
theorem dX3_share_7 : decode cX3_share 7 = .ok (.iconst (-1), 1) := by decide +kernel
theorem dX3_share_8 : decode cX3_share 8 = .ok (.ireturn, 1) := by decide +kernel
theorem dX3_share_9 : decode cX3_share 9 = .ok (.aload_n 0, 1) := by decide +kernel
theorem dX3_share_10 : decode cX3_share 10 = .ok (.getfield 19, 3) := by decide +kernel
theorem dX3_share_13 : decode cX3_share 13 = .ok (.getfield 123, 3) := by decide +kernel
theorem dX3_share_16 : decode cX3_share 16 = .ok (.ifCond .ne 7, 3) := by decide +kernel
theorem dX3_share_19 : decode cX3_share 19 = .ok (.iconst 0, 1) := by decide +kernel
theorem dX3_share_20 : decode cX3_share 20 = .ok (.goto 4, 3) := by decide +kernel
theorem dX3_share_23 : decode cX3_share 23 = .ok (.iconst 1, 1) := by decide +kernel
theorem dX3_share_24 : decode cX3_share 24 = .ok (.istore_n 2, 1) := by decide +kernel
theorem dX3_share_25 : decode cX3_share 25 = .ok (.iconst 3, 1) := by decide +kernel
theorem dX3_share_26 : decode cX3_share 26 = .ok (.istore_n 3, 1) := by decide +kernel
theorem dX3_share_27 : decode cX3_share 27 = .ok (.iload_n 3, 1) := by decide +kernel
theorem dX3_share_28 : decode cX3_share 28 = .ok (.iconst 1, 1) := by decide +kernel
theorem dX3_share_29 : decode cX3_share 29 = .ok (.aload_n 0, 1) := by decide +kernel
theorem dX3_share_30 : decode cX3_share 30 = .ok (.getfield 19, 3) := by decide +kernel
theorem dX3_share_33 : decode cX3_share 33 = .ok (.getfield 123, 3) := by decide +kernel
theorem dX3_share_36 : decode cX3_share 36 = .ok (.ishl, 1) := by decide +kernel
theorem dX3_share_37 : decode cX3_share 37 = .ok (.if_icmp .ge 24, 3) := by decide +kernel
theorem dX3_share_40 : decode cX3_share 40 = .ok (.aload_n 0, 1) := by decide +kernel
theorem dX3_share_41 : decode cX3_share 41 = .ok (.iload_n 3, 1) := by decide +kernel
theorem dX3_share_42 : decode cX3_share 42 = .ok (.invokevirtual 177, 3) := by decide +kernel
theorem dX3_share_45 : decode cX3_share 45 = .ok (.aload_n 0, 1) := by decide +kernel
theorem dX3_share_46 : decode cX3_share 46 = .ok (.iload_n 2, 1) := by decide +kernel
theorem dX3_share_47 : decode cX3_share 47 = .ok (.invokevirtual 177, 3) := by decide +kernel
theorem dX3_share_50 : decode cX3_share 50 = .ok (.if_icmp .ge 5, 3) := by decide +kernel
theorem dX3_share_53 : decode cX3_share 53 = .ok (.iload_n 3, 1) := by decide +kernel
theorem dX3_share_54 : decode cX3_share 54 = .ok (.istore_n 2, 1) := by decide +kernel
theorem dX3_share_55 : decode cX3_share 55 = .ok (.iinc 3 2, 3) := by decide +kernel
theorem dX3_share_58 : decode cX3_share 58 = .ok (.goto (-31), 3) := by decide +kernel
theorem dX3_share_61 : decode cX3_share 61 = .ok (.iload_n 1, 1) := by decide +kernel
theorem dX3_share_62 : decode cX3_share 62 = .ok (.ifCond .ne 7, 3) := by decide +kernel
theorem dX3_share_65 : decode cX3_share 65 = .ok (.iload_n 2, 1) := by decide +kernel
theorem dX3_share_66 : decode cX3_share 66 = .ok (.goto 8, 3) := by decide +kernel
theorem dX3_share_69 : decode cX3_share 69 = .ok (.aload_n 0, 1) := by decide +kernel
theorem dX3_share_70 : decode cX3_share 70 = .ok (.iload_n 2, 1) := by decide +kernel
theorem dX3_share_71 : decode cX3_share 71 = .ok (.invokevirtual 177, 3) := by decide +kernel
theorem dX3_share_74 : decode cX3_share 74 = .ok (.ireturn, 1) := by decide +kernel
theorem dX3_odds_0 : decode cX3_odds 0 = .ok (.aload_n 0, 1) := by decide +kernel
theorem dX3_odds_1 : decode cX3_odds 1 = .ok (.iload_n 1, 1) := by decide +kernel
theorem dX3_odds_2 : decode cX3_odds 2 = .ok (.invokevirtual 95, 3) := by decide +kernel
theorem dX3_odds_5 : decode cX3_odds 5 = .ok (.ifCond .eq 20, 3) := by decide +kernel
theorem dX3_odds_8 : decode cX3_odds 8 = .ok (.iload_n 2, 1) := by decide +kernel
theorem dX3_odds_9 : decode cX3_odds 9 = .ok (.ifCond .lt 16, 3) := by decide +kernel
theorem dX3_odds_12 : decode cX3_odds 12 = .ok (.iload_n 2, 1) := by decide +kernel
theorem dX3_odds_13 : decode cX3_odds 13 = .ok (.bipush 10, 2) := by decide +kernel
theorem dX3_odds_15 : decode cX3_odds 15 = .ok (.if_icmp .gt 10, 3) := by decide +kernel
theorem dX3_odds_18 : decode cX3_odds 18 = .ok (.iload_n 3, 1) := by decide +kernel
theorem dX3_odds_19 : decode cX3_odds 19 = .ok (.invokestatic 159, 3) := by decide +kernel
theorem dX3_odds_22 : decode cX3_odds 22 = .ok (.ifCond .ne 5, 3) := by decide +kernel
theorem dX3_odds_25 : decode cX3_odds 25 = .ok (.iconst (-1), 1) := by decide +kernel
theorem dX3_odds_26 : decode cX3_odds 26 = .ok (.ireturn, 1) := by decide +kernel
theorem dX3_odds_27 : decode cX3_odds 27 = .ok (.aload_n 0, 1) := by decide +kernel
theorem dX3_odds_28 : decode cX3_odds 28 = .ok (.iload_n 1, 1) := by decide +kernel
theorem dX3_odds_29 : decode cX3_odds 29 = .ok (.invokevirtual 114, 3) := by decide +kernel
theorem dX3_odds_32 : decode cX3_odds 32 = .ok (.ifCond .ne 13, 3) := by decide +kernel
theorem dX3_odds_35 : decode cX3_odds 35 = .ok (.iload_n 3, 1) := by decide +kernel
theorem dX3_odds_36 : decode cX3_odds 36 = .ok (.ifCond .ne 7, 3) := by decide +kernel
theorem dX3_odds_39 : decode cX3_odds 39 = .ok (.iconst 0, 1) := by decide +kernel
theorem dX3_odds_40 : decode cX3_odds 40 = .ok (.goto 4, 3) := by decide +kernel
theorem dX3_odds_43 : decode cX3_odds 43 = .ok (.iconst 1, 1) := by decide +kernel
theorem dX3_odds_44 : decode cX3_odds 44 = .ok (.ireturn, 1) := by decide +kernel
theorem dX3_odds_45 : decode cX3_odds 45 = .ok (.iload_n 3, 1) := by decide +kernel
theorem dX3_odds_46 : decode cX3_odds 46 = .ok (.ifCond .ne 10, 3) := by decide +kernel
theorem dX3_odds_49 : decode cX3_odds 49 = .ok (.bipush 10, 2) := by decide +kernel
theorem dX3_odds_51 : decode cX3_odds 51 = .ok (.iload_n 2, 1) := by decide +kernel
theorem dX3_odds_52 : decode cX3_odds 52 = .ok (.isub, 1) := by decide +kernel
theorem dX3_odds_53 : decode cX3_odds 53 = .ok (.goto 5, 3) := by decide +kernel
theorem dX3_odds_56 : decode cX3_odds 56 = .ok (.bipush 10, 2) := by decide +kernel
theorem dX3_odds_58 : decode cX3_odds 58 = .ok (.iload_n 2, 1) := by decide +kernel
theorem dX3_odds_59 : decode cX3_odds 59 = .ok (.invokestatic 180, 3) := by decide +kernel
theorem dX3_odds_62 : decode cX3_odds 62 = .ok (.istore 4, 2) := by decide +kernel
theorem dX3_odds_64 : decode cX3_odds 64 = .ok (.iconst 1, 1) := by decide +kernel
theorem dX3_odds_65 : decode cX3_odds 65 = .ok (.istore 5, 2) := by decide +kernel
theorem dX3_odds_67 : decode cX3_odds 67 = .ok (.aload_n 0, 1) := by decide +kernel
theorem dX3_odds_68 : decode cX3_odds 68 = .ok (.getfield 19, 3) := by decide +kernel
theorem dX3_odds_71 : decode cX3_odds 71 = .ok (.iload_n 1, 1) := by decide +kernel
theorem dX3_odds_72 : decode cX3_odds 72 = .ok (.invokevirtual 101, 3) := by decide +kernel
theorem dX3_odds_75 : decode cX3_odds 75 = .ok (.invokestatic 183, 3) := by decide +kernel
theorem dX3_odds_78 : decode cX3_odds 78 = .ok (.istore 6, 2) := by decide +kernel
theorem dX3_odds_80 : decode cX3_odds 80 = .ok (.iload 6, 2) := by decide +kernel
theorem dX3_odds_82 : decode cX3_odds 82 = .ok (.ifCond .le 16, 3) := by decide +kernel
theorem dX3_odds_85 : decode cX3_odds 85 = .ok (.iload 5, 2) := by decide +kernel
theorem dX3_odds_87 : decode cX3_odds 87 = .ok (.iload 4, 2) := by decide +kernel
theorem dX3_odds_89 : decode cX3_odds 89 = .ok (.imul, 1) := by decide +kernel
theorem dX3_odds_90 : decode cX3_odds 90 = .ok (.istore 5, 2) := by decide +kernel
theorem dX3_odds_92 : decode cX3_odds 92 = .ok (.iinc 6 (-1), 3) := by decide +kernel
theorem dX3_odds_95 : decode cX3_odds 95 = .ok (.goto (-15), 3) := by decide +kernel
theorem dX3_odds_98 : decode cX3_odds 98 = .ok (.iload 5, 2) := by decide +kernel
theorem dX3_odds_100 : decode cX3_odds 100 = .ok (.ireturn, 1) := by decide +kernel
theorem dX3_tells_0 : decode cX3_tells 0 = .ok (.aload_n 0, 1) := by decide +kernel
theorem dX3_tells_1 : decode cX3_tells 1 = .ok (.iload_n 1, 1) := by decide +kernel
theorem dX3_tells_2 : decode cX3_tells 2 = .ok (.invokevirtual 95, 3) := by decide +kernel
theorem dX3_tells_5 : decode cX3_tells 5 = .ok (.ifCond .eq 10, 3) := by decide +kernel
theorem dX3_tells_8 : decode cX3_tells 8 = .ok (.iload_n 2, 1) := by decide +kernel
theorem dX3_tells_9 : decode cX3_tells 9 = .ok (.invokestatic 159, 3) := by decide +kernel
theorem dX3_tells_12 : decode cX3_tells 12 = .ok (.ifCond .ne 5, 3) := by decide +kernel
theorem dX3_tells_15 : decode cX3_tells 15 = .ok (.iconst (-1), 1) := by decide +kernel
theorem dX3_tells_16 : decode cX3_tells 16 = .ok (.ireturn, 1) := by decide +kernel
theorem dX3_tells_17 : decode cX3_tells 17 = .ok (.aload_n 0, 1) := by decide +kernel
theorem dX3_tells_18 : decode cX3_tells 18 = .ok (.getfield 51, 3) := by decide +kernel
theorem dX3_tells_21 : decode cX3_tells 21 = .ok (.bipush 6, 2) := by decide +kernel
theorem dX3_tells_23 : decode cX3_tells 23 = .ok (.if_icmp .lt 6, 3) := by decide +kernel
theorem dX3_tells_26 : decode cX3_tells 26 = .ok (.bipush (-3), 2) := by decide +kernel
theorem dX3_tells_28 : decode cX3_tells 28 = .ok (.ireturn, 1) := by decide +kernel
theorem dX3_tells_29 : decode cX3_tells 29 = .ok (.aload_n 0, 1) := by decide +kernel
theorem dX3_tells_30 : decode cX3_tells 30 = .ok (.getfield 43, 3) := by decide +kernel
theorem dX3_tells_33 : decode cX3_tells 33 = .ok (.aload_n 0, 1) := by decide +kernel
theorem dX3_tells_34 : decode cX3_tells 34 = .ok (.getfield 51, 3) := by decide +kernel
theorem dX3_tells_37 : decode cX3_tells 37 = .ok (.aload_n 0, 1) := by decide +kernel
theorem dX3_tells_38 : decode cX3_tells 38 = .ok (.getfield 19, 3) := by decide +kernel
theorem dX3_tells_41 : decode cX3_tells 41 = .ok (.iload_n 1, 1) := by decide +kernel
theorem dX3_tells_42 : decode cX3_tells 42 = .ok (.invokevirtual 101, 3) := by decide +kernel
theorem dX3_tells_45 : decode cX3_tells 45 = .ok (.iastore, 1) := by decide +kernel
theorem dX3_tells_46 : decode cX3_tells 46 = .ok (.aload_n 0, 1) := by decide +kernel
theorem dX3_tells_47 : decode cX3_tells 47 = .ok (.getfield 47, 3) := by decide +kernel
theorem dX3_tells_50 : decode cX3_tells 50 = .ok (.aload_n 0, 1) := by decide +kernel
theorem dX3_tells_51 : decode cX3_tells 51 = .ok (.getfield 51, 3) := by decide +kernel
theorem dX3_tells_54 : decode cX3_tells 54 = .ok (.iload_n 2, 1) := by decide +kernel
theorem dX3_tells_55 : decode cX3_tells 55 = .ok (.iconst 1, 1) := by decide +kernel
theorem dX3_tells_56 : decode cX3_tells 56 = .ok (.if_icmp .ne 7, 3) := by decide +kernel
theorem dX3_tells_59 : decode cX3_tells 59 = .ok (.iconst 1, 1) := by decide +kernel
theorem dX3_tells_60 : decode cX3_tells 60 = .ok (.goto 4, 3) := by decide +kernel
theorem dX3_tells_63 : decode cX3_tells 63 = .ok (.iconst 0, 1) := by decide +kernel
theorem dX3_tells_64 : decode cX3_tells 64 = .ok (.bastore, 1) := by decide +kernel
theorem dX3_tells_65 : decode cX3_tells 65 = .ok (.aload_n 0, 1) := by decide +kernel
theorem dX3_tells_66 : decode cX3_tells 66 = .ok (.dup, 1) := by decide +kernel
theorem dX3_tells_67 : decode cX3_tells 67 = .ok (.getfield 51, 3) := by decide +kernel
theorem dX3_tells_70 : decode cX3_tells 70 = .ok (.iconst 1, 1) := by decide +kernel
theorem dX3_tells_71 : decode cX3_tells 71 = .ok (.iadd, 1) := by decide +kernel
theorem dX3_tells_72 : decode cX3_tells 72 = .ok (.putfield 51, 3) := by decide +kernel
theorem dX3_tells_75 : decode cX3_tells 75 = .ok (.aload_n 0, 1) := by decide +kernel
theorem dX3_tells_76 : decode cX3_tells 76 = .ok (.getfield 51, 3) := by decide +kernel
theorem dX3_tells_79 : decode cX3_tells 79 = .ok (.ireturn, 1) := by decide +kernel
theorem dX3_forget_0 : decode cX3_forget 0 = .ok (.aload_n 0, 1) := by decide +kernel
theorem dX3_forget_1 : decode cX3_forget 1 = .ok (.getfield 51, 3) := by decide +kernel
theorem dX3_forget_4 : decode cX3_forget 4 = .ok (.istore_n 1, 1) := by decide +kernel
theorem dX3_forget_5 : decode cX3_forget 5 = .ok (.aload_n 0, 1) := by decide +kernel
theorem dX3_forget_6 : decode cX3_forget 6 = .ok (.iconst 0, 1) := by decide +kernel
theorem dX3_forget_7 : decode cX3_forget 7 = .ok (.putfield 51, 3) := by decide +kernel
theorem dX3_forget_10 : decode cX3_forget 10 = .ok (.iload_n 1, 1) := by decide +kernel
theorem dX3_forget_11 : decode cX3_forget 11 = .ok (.ireturn, 1) := by decide +kernel
theorem dX3_fits_0 : decode cX3_fits 0 = .ok (.iload_n 1, 1) := by decide +kernel
theorem dX3_fits_1 : decode cX3_fits 1 = .ok (.iconst (-1), 1) := by decide +kernel
theorem dX3_fits_2 : decode cX3_fits 2 = .ok (.if_icmp .ne 8, 3) := by decide +kernel
theorem dX3_fits_5 : decode cX3_fits 5 = .ok (.aload_n 0, 1) := by decide +kernel
theorem dX3_fits_6 : decode cX3_fits 6 = .ok (.invokevirtual 188, 3) := by decide +kernel
theorem dX3_fits_9 : decode cX3_fits 9 = .ok (.ireturn, 1) := by decide +kernel
theorem dX3_fits_10 : decode cX3_fits 10 = .ok (.aload_n 0, 1) := by decide +kernel
theorem dX3_fits_11 : decode cX3_fits 11 = .ok (.iload_n 1, 1) := by decide +kernel
theorem dX3_fits_12 : decode cX3_fits 12 = .ok (.invokevirtual 76, 3) := by decide +kernel
theorem dX3_fits_15 : decode cX3_fits 15 = .ok (.ifCond .eq 11, 3) := by decide +kernel
theorem dX3_fits_18 : decode cX3_fits 18 = .ok (.aload_n 0, 1) := by decide +kernel
theorem dX3_fits_19 : decode cX3_fits 19 = .ok (.iload_n 1, 1) := by decide +kernel
theorem dX3_fits_20 : decode cX3_fits 20 = .ok (.invokevirtual 191, 3) := by decide +kernel
theorem dX3_fits_23 : decode cX3_fits 23 = .ok (.goto 4, 3) := by decide +kernel
theorem dX3_fits_26 : decode cX3_fits 26 = .ok (.iconst (-1), 1) := by decide +kernel
theorem dX3_fits_27 : decode cX3_fits 27 = .ok (.ireturn, 1) := by decide +kernel
theorem dX3_mark_0 : decode cX3_mark 0 = .ok (.aload_n 0, 1) := by decide +kernel
theorem dX3_mark_1 : decode cX3_mark 1 = .ok (.iload_n 2, 1) := by decide +kernel
theorem dX3_mark_2 : decode cX3_mark 2 = .ok (.invokevirtual 95, 3) := by decide +kernel
theorem dX3_mark_5 : decode cX3_mark 5 = .ok (.ifCond .ne 6, 3) := by decide +kernel
theorem dX3_mark_8 : decode cX3_mark 8 = .ok (.ldc 194, 2) := by decide +kernel
theorem dX3_mark_10 : decode cX3_mark 10 = .ok (.ireturn, 1) := by decide +kernel
theorem dX3_mark_11 : decode cX3_mark 11 = .ok (.iload_n 1, 1) := by decide +kernel
theorem dX3_mark_12 : decode cX3_mark 12 = .ok (.tableswitch 76 0 5 #[40, 46, 52, 58, 64, 70], 40) := by decide +kernel
theorem dX3_mark_52 : decode cX3_mark 52 = .ok (.aload_n 0, 1) := by decide +kernel
theorem dX3_mark_53 : decode cX3_mark 53 = .ok (.iload_n 2, 1) := by decide +kernel
theorem dX3_mark_54 : decode cX3_mark 54 = .ok (.invokevirtual 195, 3) := by decide +kernel
theorem dX3_mark_57 : decode cX3_mark 57 = .ok (.ireturn, 1) := by decide +kernel
theorem dX3_mark_58 : decode cX3_mark 58 = .ok (.aload_n 0, 1) := by decide +kernel
theorem dX3_mark_59 : decode cX3_mark 59 = .ok (.iload_n 2, 1) := by decide +kernel
theorem dX3_mark_60 : decode cX3_mark 60 = .ok (.invokevirtual 198, 3) := by decide +kernel
theorem dX3_mark_63 : decode cX3_mark 63 = .ok (.ireturn, 1) := by decide +kernel
theorem dX3_mark_64 : decode cX3_mark 64 = .ok (.aload_n 0, 1) := by decide +kernel
theorem dX3_mark_65 : decode cX3_mark 65 = .ok (.iload_n 2, 1) := by decide +kernel
theorem dX3_mark_66 : decode cX3_mark 66 = .ok (.invokevirtual 201, 3) := by decide +kernel
theorem dX3_mark_69 : decode cX3_mark 69 = .ok (.ireturn, 1) := by decide +kernel
theorem dX3_mark_70 : decode cX3_mark 70 = .ok (.aload_n 0, 1) := by decide +kernel
theorem dX3_mark_71 : decode cX3_mark 71 = .ok (.iload_n 2, 1) := by decide +kernel
theorem dX3_mark_72 : decode cX3_mark 72 = .ok (.invokevirtual 204, 3) := by decide +kernel
theorem dX3_mark_75 : decode cX3_mark 75 = .ok (.ireturn, 1) := by decide +kernel
theorem dX3_mark_76 : decode cX3_mark 76 = .ok (.aload_n 0, 1) := by decide +kernel
theorem dX3_mark_77 : decode cX3_mark 77 = .ok (.iload_n 2, 1) := by decide +kernel
theorem dX3_mark_78 : decode cX3_mark 78 = .ok (.invokevirtual 207, 3) := by decide +kernel
theorem dX3_mark_81 : decode cX3_mark 81 = .ok (.ireturn, 1) := by decide +kernel
theorem dX3_mark_82 : decode cX3_mark 82 = .ok (.aload_n 0, 1) := by decide +kernel
theorem dX3_mark_83 : decode cX3_mark 83 = .ok (.iload_n 2, 1) := by decide +kernel
theorem dX3_mark_84 : decode cX3_mark 84 = .ok (.invokevirtual 210, 3) := by decide +kernel
theorem dX3_mark_87 : decode cX3_mark 87 = .ok (.ireturn, 1) := by decide +kernel
theorem dX3_mark_88 : decode cX3_mark 88 = .ok (.ldc 194, 2) := by decide +kernel
theorem dX3_mark_90 : decode cX3_mark 90 = .ok (.ireturn, 1) := by decide +kernel
theorem dX3_keep_0 : decode cX3_keep 0 = .ok (.iload_n 1, 1) := by decide +kernel
theorem dX3_keep_1 : decode cX3_keep 1 = .ok (.invokestatic 159, 3) := by decide +kernel
theorem dX3_keep_4 : decode cX3_keep 4 = .ok (.ifCond .ne 5, 3) := by decide +kernel
theorem dX3_keep_7 : decode cX3_keep 7 = .ok (.iconst (-1), 1) := by decide +kernel
theorem dX3_keep_8 : decode cX3_keep 8 = .ok (.ireturn, 1) := by decide +kernel
theorem dX3_keep_9 : decode cX3_keep 9 = .ok (.aload_n 0, 1) := by decide +kernel
theorem dX3_keep_10 : decode cX3_keep 10 = .ok (.iload_n 1, 1) := by decide +kernel
theorem dX3_keep_11 : decode cX3_keep 11 = .ok (.invokevirtual 213, 3) := by decide +kernel
theorem dX3_keep_14 : decode cX3_keep 14 = .ok (.aload_n 0, 1) := by decide +kernel
theorem dX3_keep_15 : decode cX3_keep 15 = .ok (.getfield 29, 3) := by decide +kernel
theorem dX3_keep_18 : decode cX3_keep 18 = .ok (.invokevirtual 217, 3) := by decide +kernel
theorem dX3_keep_21 : decode cX3_keep 21 = .ok (.aload_n 0, 1) := by decide +kernel
theorem dX3_keep_22 : decode cX3_keep 22 = .ok (.dup, 1) := by decide +kernel
theorem dX3_keep_23 : decode cX3_keep 23 = .ok (.getfield 39, 3) := by decide +kernel
theorem dX3_keep_26 : decode cX3_keep 26 = .ok (.iconst 1, 1) := by decide +kernel
theorem dX3_keep_27 : decode cX3_keep 27 = .ok (.iload_n 1, 1) := by decide +kernel
theorem dX3_keep_28 : decode cX3_keep 28 = .ok (.ishl, 1) := by decide +kernel
theorem dX3_keep_29 : decode cX3_keep 29 = .ok (.ior, 1) := by decide +kernel
theorem dX3_keep_30 : decode cX3_keep 30 = .ok (.putfield 39, 3) := by decide +kernel
theorem dX3_keep_33 : decode cX3_keep 33 = .ok (.aload_n 0, 1) := by decide +kernel
theorem dX3_keep_34 : decode cX3_keep 34 = .ok (.getfield 29, 3) := by decide +kernel
theorem dX3_keep_37 : decode cX3_keep 37 = .ok (.getfield 142, 3) := by decide +kernel
theorem dX3_keep_40 : decode cX3_keep 40 = .ok (.ireturn, 1) := by decide +kernel
theorem dX3_back_0 : decode cX3_back 0 = .ok (.iload_n 1, 1) := by decide +kernel
theorem dX3_back_1 : decode cX3_back 1 = .ok (.invokestatic 159, 3) := by decide +kernel
theorem dX3_back_4 : decode cX3_back 4 = .ok (.ifCond .ne 5, 3) := by decide +kernel
theorem dX3_back_7 : decode cX3_back 7 = .ok (.iconst (-1), 1) := by decide +kernel
theorem dX3_back_8 : decode cX3_back 8 = .ok (.ireturn, 1) := by decide +kernel
theorem dX3_back_9 : decode cX3_back 9 = .ok (.aload_n 0, 1) := by decide +kernel
theorem dX3_back_10 : decode cX3_back 10 = .ok (.getfield 39, 3) := by decide +kernel
theorem dX3_back_13 : decode cX3_back 13 = .ok (.iload_n 1, 1) := by decide +kernel
theorem dX3_back_14 : decode cX3_back 14 = .ok (.invokestatic 221, 3) := by decide +kernel
theorem dX3_back_17 : decode cX3_back 17 = .ok (.ifCond .ne 6, 3) := by decide +kernel
theorem dX3_back_20 : decode cX3_back 20 = .ok (.bipush (-2), 2) := by decide +kernel
theorem dX3_back_22 : decode cX3_back 22 = .ok (.ireturn, 1) := by decide +kernel
theorem dX3_back_23 : decode cX3_back 23 = .ok (.aload_n 0, 1) := by decide +kernel
theorem dX3_back_24 : decode cX3_back 24 = .ok (.getfield 29, 3) := by decide +kernel
theorem dX3_back_27 : decode cX3_back 27 = .ok (.aload_n 0, 1) := by decide +kernel
theorem dX3_back_28 : decode cX3_back 28 = .ok (.iload_n 1, 1) := by decide +kernel
theorem dX3_back_29 : decode cX3_back 29 = .ok (.invokevirtual 213, 3) := by decide +kernel
theorem dX3_back_32 : decode cX3_back 32 = .ok (.invokevirtual 217, 3) := by decide +kernel
theorem dX3_back_35 : decode cX3_back 35 = .ok (.aload_n 0, 1) := by decide +kernel
theorem dX3_back_36 : decode cX3_back 36 = .ok (.getfield 29, 3) := by decide +kernel
theorem dX3_back_39 : decode cX3_back 39 = .ok (.getfield 142, 3) := by decide +kernel
theorem dX3_back_42 : decode cX3_back 42 = .ok (.ireturn, 1) := by decide +kernel
theorem dX3_count_0 : decode cX3_count 0 = .ok (.iload_n 1, 1) := by decide +kernel
theorem dX3_count_1 : decode cX3_count 1 = .ok (.tableswitch 72 0 4 #[35, 43, 51, 56, 64], 35) := by decide +kernel
theorem dX3_count_36 : decode cX3_count 36 = .ok (.aload_n 0, 1) := by decide +kernel
theorem dX3_count_37 : decode cX3_count 37 = .ok (.getfield 19, 3) := by decide +kernel
theorem dX3_count_40 : decode cX3_count 40 = .ok (.getfield 123, 3) := by decide +kernel
theorem dX3_count_43 : decode cX3_count 43 = .ok (.ireturn, 1) := by decide +kernel
theorem dX3_count_44 : decode cX3_count 44 = .ok (.aload_n 0, 1) := by decide +kernel
theorem dX3_count_45 : decode cX3_count 45 = .ok (.getfield 19, 3) := by decide +kernel
theorem dX3_count_48 : decode cX3_count 48 = .ok (.getfield 162, 3) := by decide +kernel
theorem dX3_count_51 : decode cX3_count 51 = .ok (.ireturn, 1) := by decide +kernel
theorem dX3_count_52 : decode cX3_count 52 = .ok (.aload_n 0, 1) := by decide +kernel
theorem dX3_count_53 : decode cX3_count 53 = .ok (.getfield 51, 3) := by decide +kernel
theorem dX3_count_56 : decode cX3_count 56 = .ok (.ireturn, 1) := by decide +kernel
theorem dX3_count_57 : decode cX3_count 57 = .ok (.aload_n 0, 1) := by decide +kernel
theorem dX3_count_58 : decode cX3_count 58 = .ok (.getfield 29, 3) := by decide +kernel
theorem dX3_count_61 : decode cX3_count 61 = .ok (.getfield 149, 3) := by decide +kernel
theorem dX3_count_64 : decode cX3_count 64 = .ok (.ireturn, 1) := by decide +kernel
theorem dX3_count_65 : decode cX3_count 65 = .ok (.aload_n 0, 1) := by decide +kernel
theorem dX3_count_66 : decode cX3_count 66 = .ok (.getfield 10, 3) := by decide +kernel
theorem dX3_count_69 : decode cX3_count 69 = .ok (.getfield 62, 3) := by decide +kernel
theorem dX3_count_72 : decode cX3_count 72 = .ok (.ireturn, 1) := by decide +kernel
theorem dX3_count_73 : decode cX3_count 73 = .ok (.iconst (-1), 1) := by decide +kernel
theorem dX3_count_74 : decode cX3_count 74 = .ok (.ireturn, 1) := by decide +kernel
theorem dX3_trace_0 : decode cX3_trace 0 = .ok (.aload_n 0, 1) := by decide +kernel
theorem dX3_trace_1 : decode cX3_trace 1 = .ok (.getfield 54, 3) := by decide +kernel
theorem dX3_trace_4 : decode cX3_trace 4 = .ok (.lreturn, 1) := by decide +kernel
theorem dX3_isDecanter_0 : decode cX3_isDecanter 0 = .ok (.iload_n 1, 1) := by decide +kernel
theorem dX3_isDecanter_1 : decode cX3_isDecanter 1 = .ok (.ifCond .lt 18, 3) := by decide +kernel
theorem dX3_isDecanter_4 : decode cX3_isDecanter 4 = .ok (.iload_n 1, 1) := by decide +kernel
theorem dX3_isDecanter_5 : decode cX3_isDecanter 5 = .ok (.aload_n 0, 1) := by decide +kernel
theorem dX3_isDecanter_6 : decode cX3_isDecanter 6 = .ok (.getfield 19, 3) := by decide +kernel
theorem dX3_isDecanter_9 : decode cX3_isDecanter 9 = .ok (.getfield 123, 3) := by decide +kernel
theorem dX3_isDecanter_12 : decode cX3_isDecanter 12 = .ok (.if_icmp .ge 7, 3) := by decide +kernel
theorem dX3_isDecanter_15 : decode cX3_isDecanter 15 = .ok (.iconst 1, 1) := by decide +kernel
theorem dX3_isDecanter_16 : decode cX3_isDecanter 16 = .ok (.goto 4, 3) := by decide +kernel
theorem dX3_isDecanter_19 : decode cX3_isDecanter 19 = .ok (.iconst 0, 1) := by decide +kernel
theorem dX3_isDecanter_20 : decode cX3_isDecanter 20 = .ok (.ireturn, 1) := by decide +kernel
theorem dX3_isAct_0 : decode cX3_isAct 0 = .ok (.iload_n 1, 1) := by decide +kernel
theorem dX3_isAct_1 : decode cX3_isAct 1 = .ok (.ifCond .lt 18, 3) := by decide +kernel
theorem dX3_isAct_4 : decode cX3_isAct 4 = .ok (.iload_n 1, 1) := by decide +kernel
theorem dX3_isAct_5 : decode cX3_isAct 5 = .ok (.aload_n 0, 1) := by decide +kernel
theorem dX3_isAct_6 : decode cX3_isAct 6 = .ok (.getfield 19, 3) := by decide +kernel
theorem dX3_isAct_9 : decode cX3_isAct 9 = .ok (.getfield 162, 3) := by decide +kernel
theorem dX3_isAct_12 : decode cX3_isAct 12 = .ok (.if_icmp .ge 7, 3) := by decide +kernel
theorem dX3_isAct_15 : decode cX3_isAct 15 = .ok (.iconst 1, 1) := by decide +kernel
theorem dX3_isAct_16 : decode cX3_isAct 16 = .ok (.goto 4, 3) := by decide +kernel
theorem dX3_isAct_19 : decode cX3_isAct 19 = .ok (.iconst 0, 1) := by decide +kernel
theorem dX3_isAct_20 : decode cX3_isAct 20 = .ok (.ireturn, 1) := by decide +kernel
theorem dX3_isDone_0 : decode cX3_isDone 0 = .ok (.aload_n 0, 1) := by decide +kernel
theorem dX3_isDone_1 : decode cX3_isDone 1 = .ok (.getfield 29, 3) := by decide +kernel
theorem dX3_isDone_4 : decode cX3_isDone 4 = .ok (.getfield 133, 3) := by decide +kernel
theorem dX3_isDone_7 : decode cX3_isDone 7 = .ok (.iload_n 1, 1) := by decide +kernel
theorem dX3_isDone_8 : decode cX3_isDone 8 = .ok (.invokestatic 221, 3) := by decide +kernel
theorem dX3_isDone_11 : decode cX3_isDone 11 = .ok (.ireturn, 1) := by decide +kernel
theorem dX3_has_0 : decode cX3_has 0 = .ok (.iload_n 0, 1) := by decide +kernel
theorem dX3_has_1 : decode cX3_has 1 = .ok (.iload_n 1, 1) := by decide +kernel
theorem dX3_has_2 : decode cX3_has 2 = .ok (.ishr, 1) := by decide +kernel
theorem dX3_has_3 : decode cX3_has 3 = .ok (.iconst 1, 1) := by decide +kernel
theorem dX3_has_4 : decode cX3_has 4 = .ok (.iand, 1) := by decide +kernel
theorem dX3_has_5 : decode cX3_has 5 = .ok (.iconst 1, 1) := by decide +kernel
theorem dX3_has_6 : decode cX3_has 6 = .ok (.if_icmp .ne 7, 3) := by decide +kernel
theorem dX3_has_9 : decode cX3_has 9 = .ok (.iconst 1, 1) := by decide +kernel
theorem dX3_has_10 : decode cX3_has 10 = .ok (.goto 4, 3) := by decide +kernel
theorem dX3_has_13 : decode cX3_has 13 = .ok (.iconst 0, 1) := by decide +kernel
theorem dX3_has_14 : decode cX3_has 14 = .ok (.ireturn, 1) := by decide +kernel
theorem dX3_isNoughtOrOne_0 : decode cX3_isNoughtOrOne 0 = .ok (.iload_n 0, 1) := by decide +kernel
theorem dX3_isNoughtOrOne_1 : decode cX3_isNoughtOrOne 1 = .ok (.ifCond .eq 8, 3) := by decide +kernel
theorem dX3_isNoughtOrOne_4 : decode cX3_isNoughtOrOne 4 = .ok (.iload_n 0, 1) := by decide +kernel
theorem dX3_isNoughtOrOne_5 : decode cX3_isNoughtOrOne 5 = .ok (.iconst 1, 1) := by decide +kernel
theorem dX3_isNoughtOrOne_6 : decode cX3_isNoughtOrOne 6 = .ok (.if_icmp .ne 7, 3) := by decide +kernel
theorem dX3_isNoughtOrOne_9 : decode cX3_isNoughtOrOne 9 = .ok (.iconst 1, 1) := by decide +kernel
theorem dX3_isNoughtOrOne_10 : decode cX3_isNoughtOrOne 10 = .ok (.goto 4, 3) := by decide +kernel
theorem dX3_isNoughtOrOne_13 : decode cX3_isNoughtOrOne 13 = .ok (.iconst 0, 1) := by decide +kernel
theorem dX3_isNoughtOrOne_14 : decode cX3_isNoughtOrOne 14 = .ok (.ireturn, 1) := by decide +kernel
theorem dX3_imageOf_0 : decode cX3_imageOf 0 = .ok (.iload_n 1, 1) := by decide +kernel
theorem dX3_imageOf_1 : decode cX3_imageOf 1 = .ok (.ifCond .ne 10, 3) := by decide +kernel
theorem dX3_imageOf_4 : decode cX3_imageOf 4 = .ok (.aload_n 0, 1) := by decide +kernel
theorem dX3_imageOf_5 : decode cX3_imageOf 5 = .ok (.getfield 33, 3) := by decide +kernel
theorem dX3_imageOf_8 : decode cX3_imageOf 8 = .ok (.goto 7, 3) := by decide +kernel
theorem dX3_imageOf_11 : decode cX3_imageOf 11 = .ok (.aload_n 0, 1) := by decide +kernel
theorem dX3_imageOf_12 : decode cX3_imageOf 12 = .ok (.getfield 36, 3) := by decide +kernel
theorem dX3_imageOf_15 : decode cX3_imageOf 15 = .ok (.areturn, 1) := by decide +kernel
theorem dX3_dropsFrom_0 : decode cX3_dropsFrom 0 = .ok (.aload_n 0, 1) := by decide +kernel
theorem dX3_dropsFrom_1 : decode cX3_dropsFrom 1 = .ok (.getfield 19, 3) := by decide +kernel
theorem dX3_dropsFrom_4 : decode cX3_dropsFrom 4 = .ok (.iload_n 2, 1) := by decide +kernel
theorem dX3_dropsFrom_5 : decode cX3_dropsFrom 5 = .ok (.aload_n 0, 1) := by decide +kernel
theorem dX3_dropsFrom_6 : decode cX3_dropsFrom 6 = .ok (.getfield 29, 3) := by decide +kernel
theorem dX3_dropsFrom_9 : decode cX3_dropsFrom 9 = .ok (.getfield 88, 3) := by decide +kernel
theorem dX3_dropsFrom_12 : decode cX3_dropsFrom 12 = .ok (.iload_n 1, 1) := by decide +kernel
theorem dX3_dropsFrom_13 : decode cX3_dropsFrom 13 = .ok (.iaload, 1) := by decide +kernel
theorem dX3_dropsFrom_14 : decode cX3_dropsFrom 14 = .ok (.invokevirtual 110, 3) := by decide +kernel
theorem dX3_dropsFrom_17 : decode cX3_dropsFrom 17 = .ok (.ireturn, 1) := by decide +kernel
theorem dX3_isEnoughFor_0 : decode cX3_isEnoughFor 0 = .ok (.aload_n 0, 1) := by decide +kernel
theorem dX3_isEnoughFor_1 : decode cX3_isEnoughFor 1 = .ok (.iconst 1, 1) := by decide +kernel
theorem dX3_isEnoughFor_2 : decode cX3_isEnoughFor 2 = .ok (.iload_n 1, 1) := by decide +kernel
theorem dX3_isEnoughFor_3 : decode cX3_isEnoughFor 3 = .ok (.ishl, 1) := by decide +kernel
theorem dX3_isEnoughFor_4 : decode cX3_isEnoughFor 4 = .ok (.invokevirtual 168, 3) := by decide +kernel
theorem dX3_isEnoughFor_7 : decode cX3_isEnoughFor 7 = .ok (.ireturn, 1) := by decide +kernel
theorem dX3_isEnoughForAll_0 : decode cX3_isEnoughForAll 0 = .ok (.iconst 0, 1) := by decide +kernel
theorem dX3_isEnoughForAll_1 : decode cX3_isEnoughForAll 1 = .ok (.istore_n 2, 1) := by decide +kernel
theorem dX3_isEnoughForAll_2 : decode cX3_isEnoughForAll 2 = .ok (.iload_n 2, 1) := by decide +kernel
theorem dX3_isEnoughForAll_3 : decode cX3_isEnoughForAll 3 = .ok (.aload_n 0, 1) := by decide +kernel
theorem dX3_isEnoughForAll_4 : decode cX3_isEnoughForAll 4 = .ok (.getfield 19, 3) := by decide +kernel
theorem dX3_isEnoughForAll_7 : decode cX3_isEnoughForAll 7 = .ok (.getfield 123, 3) := by decide +kernel
theorem dX3_isEnoughForAll_10 : decode cX3_isEnoughForAll 10 = .ok (.if_icmp .ge 66, 3) := by decide +kernel
theorem dX3_isEnoughForAll_13 : decode cX3_isEnoughForAll 13 = .ok (.iconst 0, 1) := by decide +kernel
theorem dX3_isEnoughForAll_14 : decode cX3_isEnoughForAll 14 = .ok (.istore_n 3, 1) := by decide +kernel
theorem dX3_isEnoughForAll_15 : decode cX3_isEnoughForAll 15 = .ok (.iconst 0, 1) := by decide +kernel
theorem dX3_isEnoughForAll_16 : decode cX3_isEnoughForAll 16 = .ok (.istore 4, 2) := by decide +kernel
theorem dX3_isEnoughForAll_18 : decode cX3_isEnoughForAll 18 = .ok (.iload 4, 2) := by decide +kernel
theorem dX3_isEnoughForAll_20 : decode cX3_isEnoughForAll 20 = .ok (.aload_n 0, 1) := by decide +kernel
theorem dX3_isEnoughForAll_21 : decode cX3_isEnoughForAll 21 = .ok (.getfield 19, 3) := by decide +kernel
theorem dX3_isEnoughForAll_24 : decode cX3_isEnoughForAll 24 = .ok (.getfield 162, 3) := by decide +kernel
theorem dX3_isEnoughForAll_27 : decode cX3_isEnoughForAll 27 = .ok (.if_icmp .ge 28, 3) := by decide +kernel
theorem dX3_isEnoughForAll_30 : decode cX3_isEnoughForAll 30 = .ok (.iload_n 1, 1) := by decide +kernel
theorem dX3_isEnoughForAll_31 : decode cX3_isEnoughForAll 31 = .ok (.iload 4, 2) := by decide +kernel
theorem dX3_isEnoughForAll_33 : decode cX3_isEnoughForAll 33 = .ok (.invokestatic 221, 3) := by decide +kernel
theorem dX3_isEnoughForAll_36 : decode cX3_isEnoughForAll 36 = .ok (.ifCond .eq 13, 3) := by decide +kernel
theorem dX3_isEnoughForAll_39 : decode cX3_isEnoughForAll 39 = .ok (.iload_n 3, 1) := by decide +kernel
theorem dX3_isEnoughForAll_40 : decode cX3_isEnoughForAll 40 = .ok (.aload_n 0, 1) := by decide +kernel
theorem dX3_isEnoughForAll_41 : decode cX3_isEnoughForAll 41 = .ok (.iload_n 2, 1) := by decide +kernel
theorem dX3_isEnoughForAll_42 : decode cX3_isEnoughForAll 42 = .ok (.iload 4, 2) := by decide +kernel
theorem dX3_isEnoughForAll_44 : decode cX3_isEnoughForAll 44 = .ok (.invokevirtual 126, 3) := by decide +kernel
theorem dX3_isEnoughForAll_47 : decode cX3_isEnoughForAll 47 = .ok (.iadd, 1) := by decide +kernel
theorem dX3_isEnoughForAll_48 : decode cX3_isEnoughForAll 48 = .ok (.istore_n 3, 1) := by decide +kernel
theorem dX3_isEnoughForAll_49 : decode cX3_isEnoughForAll 49 = .ok (.iinc 4 1, 3) := by decide +kernel
theorem dX3_isEnoughForAll_52 : decode cX3_isEnoughForAll 52 = .ok (.goto (-34), 3) := by decide +kernel
theorem dX3_isEnoughForAll_55 : decode cX3_isEnoughForAll 55 = .ok (.iload_n 3, 1) := by decide +kernel
theorem dX3_isEnoughForAll_56 : decode cX3_isEnoughForAll 56 = .ok (.aload_n 0, 1) := by decide +kernel
theorem dX3_isEnoughForAll_57 : decode cX3_isEnoughForAll 57 = .ok (.getfield 29, 3) := by decide +kernel
theorem dX3_isEnoughForAll_60 : decode cX3_isEnoughForAll 60 = .ok (.getfield 79, 3) := by decide +kernel
theorem dX3_isEnoughForAll_63 : decode cX3_isEnoughForAll 63 = .ok (.iload_n 2, 1) := by decide +kernel
theorem dX3_isEnoughForAll_64 : decode cX3_isEnoughForAll 64 = .ok (.iaload, 1) := by decide +kernel
theorem dX3_isEnoughForAll_65 : decode cX3_isEnoughForAll 65 = .ok (.if_icmp .le 5, 3) := by decide +kernel
theorem dX3_isEnoughForAll_68 : decode cX3_isEnoughForAll 68 = .ok (.iconst 0, 1) := by decide +kernel
theorem dX3_isEnoughForAll_69 : decode cX3_isEnoughForAll 69 = .ok (.ireturn, 1) := by decide +kernel
theorem dX3_isEnoughForAll_70 : decode cX3_isEnoughForAll 70 = .ok (.iinc 2 1, 3) := by decide +kernel
theorem dX3_isEnoughForAll_73 : decode cX3_isEnoughForAll 73 = .ok (.goto (-71), 3) := by decide +kernel
theorem dX3_isEnoughForAll_76 : decode cX3_isEnoughForAll 76 = .ok (.iconst 1, 1) := by decide +kernel
theorem dX3_isEnoughForAll_77 : decode cX3_isEnoughForAll 77 = .ok (.ireturn, 1) := by decide +kernel
theorem dX3_wouldGoWell_0 : decode cX3_wouldGoWell 0 = .ok (.iconst 0, 1) := by decide +kernel
theorem dX3_wouldGoWell_1 : decode cX3_wouldGoWell 1 = .ok (.istore_n 2, 1) := by decide +kernel
theorem dX3_wouldGoWell_2 : decode cX3_wouldGoWell 2 = .ok (.iload_n 2, 1) := by decide +kernel
theorem dX3_wouldGoWell_3 : decode cX3_wouldGoWell 3 = .ok (.aload_n 0, 1) := by decide +kernel
theorem dX3_wouldGoWell_4 : decode cX3_wouldGoWell 4 = .ok (.getfield 19, 3) := by decide +kernel
theorem dX3_wouldGoWell_7 : decode cX3_wouldGoWell 7 = .ok (.getfield 123, 3) := by decide +kernel
theorem dX3_wouldGoWell_10 : decode cX3_wouldGoWell 10 = .ok (.if_icmp .ge 45, 3) := by decide +kernel
theorem dX3_wouldGoWell_13 : decode cX3_wouldGoWell 13 = .ok (.aload_n 0, 1) := by decide +kernel
theorem dX3_wouldGoWell_14 : decode cX3_wouldGoWell 14 = .ok (.iload_n 2, 1) := by decide +kernel
theorem dX3_wouldGoWell_15 : decode cX3_wouldGoWell 15 = .ok (.iload_n 1, 1) := by decide +kernel
theorem dX3_wouldGoWell_16 : decode cX3_wouldGoWell 16 = .ok (.invokevirtual 126, 3) := by decide +kernel
theorem dX3_wouldGoWell_19 : decode cX3_wouldGoWell 19 = .ok (.ifCond .le 30, 3) := by decide +kernel
theorem dX3_wouldGoWell_22 : decode cX3_wouldGoWell 22 = .ok (.aload_n 0, 1) := by decide +kernel
theorem dX3_wouldGoWell_23 : decode cX3_wouldGoWell 23 = .ok (.getfield 29, 3) := by decide +kernel
theorem dX3_wouldGoWell_26 : decode cX3_wouldGoWell 26 = .ok (.getfield 88, 3) := by decide +kernel
theorem dX3_wouldGoWell_29 : decode cX3_wouldGoWell 29 = .ok (.iload_n 2, 1) := by decide +kernel
theorem dX3_wouldGoWell_30 : decode cX3_wouldGoWell 30 = .ok (.iaload, 1) := by decide +kernel
theorem dX3_wouldGoWell_31 : decode cX3_wouldGoWell 31 = .ok (.iload_n 2, 1) := by decide +kernel
theorem dX3_wouldGoWell_32 : decode cX3_wouldGoWell 32 = .ok (.if_icmp .ne 15, 3) := by decide +kernel
theorem dX3_wouldGoWell_35 : decode cX3_wouldGoWell 35 = .ok (.aload_n 0, 1) := by decide +kernel
theorem dX3_wouldGoWell_36 : decode cX3_wouldGoWell 36 = .ok (.getfield 29, 3) := by decide +kernel
theorem dX3_wouldGoWell_39 : decode cX3_wouldGoWell 39 = .ok (.getfield 85, 3) := by decide +kernel
theorem dX3_wouldGoWell_42 : decode cX3_wouldGoWell 42 = .ok (.iload_n 2, 1) := by decide +kernel
theorem dX3_wouldGoWell_43 : decode cX3_wouldGoWell 43 = .ok (.iaload, 1) := by decide +kernel
theorem dX3_wouldGoWell_44 : decode cX3_wouldGoWell 44 = .ok (.ifCond .le 5, 3) := by decide +kernel
theorem dX3_wouldGoWell_47 : decode cX3_wouldGoWell 47 = .ok (.iconst 0, 1) := by decide +kernel
theorem dX3_wouldGoWell_48 : decode cX3_wouldGoWell 48 = .ok (.ireturn, 1) := by decide +kernel
theorem dX3_wouldGoWell_49 : decode cX3_wouldGoWell 49 = .ok (.iinc 2 1, 3) := by decide +kernel
theorem dX3_wouldGoWell_52 : decode cX3_wouldGoWell 52 = .ok (.goto (-50), 3) := by decide +kernel
theorem dX3_wouldGoWell_55 : decode cX3_wouldGoWell 55 = .ok (.iconst 1, 1) := by decide +kernel
theorem dX3_wouldGoWell_56 : decode cX3_wouldGoWell 56 = .ok (.ireturn, 1) := by decide +kernel
theorem dX3_actsThatCan_0 : decode cX3_actsThatCan 0 = .ok (.iconst 0, 1) := by decide +kernel
theorem dX3_actsThatCan_1 : decode cX3_actsThatCan 1 = .ok (.istore_n 1, 1) := by decide +kernel
theorem dX3_actsThatCan_2 : decode cX3_actsThatCan 2 = .ok (.iconst 0, 1) := by decide +kernel
theorem dX3_actsThatCan_3 : decode cX3_actsThatCan 3 = .ok (.istore_n 2, 1) := by decide +kernel
theorem dX3_actsThatCan_4 : decode cX3_actsThatCan 4 = .ok (.iload_n 2, 1) := by decide +kernel
theorem dX3_actsThatCan_5 : decode cX3_actsThatCan 5 = .ok (.aload_n 0, 1) := by decide +kernel
theorem dX3_actsThatCan_6 : decode cX3_actsThatCan 6 = .ok (.getfield 19, 3) := by decide +kernel
theorem dX3_actsThatCan_9 : decode cX3_actsThatCan 9 = .ok (.getfield 162, 3) := by decide +kernel
theorem dX3_actsThatCan_12 : decode cX3_actsThatCan 12 = .ok (.if_icmp .ge 31, 3) := by decide +kernel
theorem dX3_actsThatCan_15 : decode cX3_actsThatCan 15 = .ok (.aload_n 0, 1) := by decide +kernel
theorem dX3_actsThatCan_16 : decode cX3_actsThatCan 16 = .ok (.iload_n 2, 1) := by decide +kernel
theorem dX3_actsThatCan_17 : decode cX3_actsThatCan 17 = .ok (.invokevirtual 104, 3) := by decide +kernel
theorem dX3_actsThatCan_20 : decode cX3_actsThatCan 20 = .ok (.ifCond .ne 17, 3) := by decide +kernel
theorem dX3_actsThatCan_23 : decode cX3_actsThatCan 23 = .ok (.aload_n 0, 1) := by decide +kernel
theorem dX3_actsThatCan_24 : decode cX3_actsThatCan 24 = .ok (.iload_n 2, 1) := by decide +kernel
theorem dX3_actsThatCan_25 : decode cX3_actsThatCan 25 = .ok (.invokevirtual 114, 3) := by decide +kernel
theorem dX3_actsThatCan_28 : decode cX3_actsThatCan 28 = .ok (.ifCond .eq 9, 3) := by decide +kernel
theorem dX3_actsThatCan_31 : decode cX3_actsThatCan 31 = .ok (.iload_n 1, 1) := by decide +kernel
theorem dX3_actsThatCan_32 : decode cX3_actsThatCan 32 = .ok (.iconst 1, 1) := by decide +kernel
theorem dX3_actsThatCan_33 : decode cX3_actsThatCan 33 = .ok (.iload_n 2, 1) := by decide +kernel
theorem dX3_actsThatCan_34 : decode cX3_actsThatCan 34 = .ok (.ishl, 1) := by decide +kernel
theorem dX3_actsThatCan_35 : decode cX3_actsThatCan 35 = .ok (.ior, 1) := by decide +kernel
theorem dX3_actsThatCan_36 : decode cX3_actsThatCan 36 = .ok (.istore_n 1, 1) := by decide +kernel
theorem dX3_actsThatCan_37 : decode cX3_actsThatCan 37 = .ok (.iinc 2 1, 3) := by decide +kernel
theorem dX3_actsThatCan_40 : decode cX3_actsThatCan 40 = .ok (.goto (-36), 3) := by decide +kernel
theorem dX3_actsThatCan_43 : decode cX3_actsThatCan 43 = .ok (.iload_n 1, 1) := by decide +kernel
theorem dX3_actsThatCan_44 : decode cX3_actsThatCan 44 = .ok (.ireturn, 1) := by decide +kernel
theorem dX3_span_0 : decode cX3_span 0 = .ok (.aload_n 0, 1) := by decide +kernel
theorem dX3_span_1 : decode cX3_span 1 = .ok (.getfield 29, 3) := by decide +kernel
theorem dX3_span_4 : decode cX3_span 4 = .ok (.getfield 79, 3) := by decide +kernel
theorem dX3_span_7 : decode cX3_span 7 = .ok (.iload_n 1, 1) := by decide +kernel
theorem dX3_span_8 : decode cX3_span 8 = .ok (.iaload, 1) := by decide +kernel
theorem dX3_span_9 : decode cX3_span 9 = .ok (.istore_n 2, 1) := by decide +kernel
theorem dX3_span_10 : decode cX3_span 10 = .ok (.aload_n 0, 1) := by decide +kernel
theorem dX3_span_11 : decode cX3_span 11 = .ok (.getfield 19, 3) := by decide +kernel
theorem dX3_span_14 : decode cX3_span 14 = .ok (.getfield 82, 3) := by decide +kernel
theorem dX3_span_17 : decode cX3_span 17 = .ok (.iload_n 1, 1) := by decide +kernel
theorem dX3_span_18 : decode cX3_span 18 = .ok (.iaload, 1) := by decide +kernel
theorem dX3_span_19 : decode cX3_span 19 = .ok (.istore_n 3, 1) := by decide +kernel
theorem dX3_span_20 : decode cX3_span 20 = .ok (.iload_n 2, 1) := by decide +kernel
theorem dX3_span_21 : decode cX3_span 21 = .ok (.ifCond .ne 5, 3) := by decide +kernel
theorem dX3_span_24 : decode cX3_span 24 = .ok (.iconst 0, 1) := by decide +kernel
theorem dX3_span_25 : decode cX3_span 25 = .ok (.ireturn, 1) := by decide +kernel
theorem dX3_span_26 : decode cX3_span 26 = .ok (.iload_n 3, 1) := by decide +kernel
theorem dX3_span_27 : decode cX3_span 27 = .ok (.ifCond .le 13, 3) := by decide +kernel
theorem dX3_span_30 : decode cX3_span 30 = .ok (.iload_n 2, 1) := by decide +kernel
theorem dX3_span_31 : decode cX3_span 31 = .ok (.iload_n 3, 1) := by decide +kernel
theorem dX3_span_32 : decode cX3_span 32 = .ok (.iadd, 1) := by decide +kernel
theorem dX3_span_33 : decode cX3_span 33 = .ok (.iconst 1, 1) := by decide +kernel
theorem dX3_span_34 : decode cX3_span 34 = .ok (.isub, 1) := by decide +kernel
theorem dX3_span_35 : decode cX3_span 35 = .ok (.iload_n 3, 1) := by decide +kernel
theorem dX3_span_36 : decode cX3_span 36 = .ok (.idiv, 1) := by decide +kernel
theorem dX3_span_37 : decode cX3_span 37 = .ok (.goto 5, 3) := by decide +kernel
theorem dX3_span_40 : decode cX3_span 40 = .ok (.bipush (-9), 2) := by decide +kernel
theorem dX3_span_42 : decode cX3_span 42 = .ok (.ireturn, 1) := by decide +kernel
theorem dX3_lastMonth_0 : decode cX3_lastMonth 0 = .ok (.aload_n 0, 1) := by decide +kernel
theorem dX3_lastMonth_1 : decode cX3_lastMonth 1 = .ok (.iload_n 1, 1) := by decide +kernel
theorem dX3_lastMonth_2 : decode cX3_lastMonth 2 = .ok (.invokevirtual 104, 3) := by decide +kernel
theorem dX3_lastMonth_5 : decode cX3_lastMonth 5 = .ok (.ifCond .ne 11, 3) := by decide +kernel
theorem dX3_lastMonth_8 : decode cX3_lastMonth 8 = .ok (.aload_n 0, 1) := by decide +kernel
theorem dX3_lastMonth_9 : decode cX3_lastMonth 9 = .ok (.iload_n 1, 1) := by decide +kernel
theorem dX3_lastMonth_10 : decode cX3_lastMonth 10 = .ok (.invokevirtual 114, 3) := by decide +kernel
theorem dX3_lastMonth_13 : decode cX3_lastMonth 13 = .ok (.ifCond .ne 6, 3) := by decide +kernel
theorem dX3_lastMonth_16 : decode cX3_lastMonth 16 = .ok (.bipush (-9), 2) := by decide +kernel
theorem dX3_lastMonth_18 : decode cX3_lastMonth 18 = .ok (.ireturn, 1) := by decide +kernel
theorem dX3_lastMonth_19 : decode cX3_lastMonth 19 = .ok (.bipush 60, 2) := by decide +kernel
theorem dX3_lastMonth_21 : decode cX3_lastMonth 21 = .ok (.istore_n 2, 1) := by decide +kernel
theorem dX3_lastMonth_22 : decode cX3_lastMonth 22 = .ok (.iconst 0, 1) := by decide +kernel
theorem dX3_lastMonth_23 : decode cX3_lastMonth 23 = .ok (.istore_n 3, 1) := by decide +kernel
theorem dX3_lastMonth_24 : decode cX3_lastMonth 24 = .ok (.iload_n 3, 1) := by decide +kernel
theorem dX3_lastMonth_25 : decode cX3_lastMonth 25 = .ok (.aload_n 0, 1) := by decide +kernel
theorem dX3_lastMonth_26 : decode cX3_lastMonth 26 = .ok (.getfield 19, 3) := by decide +kernel
theorem dX3_lastMonth_29 : decode cX3_lastMonth 29 = .ok (.getfield 123, 3) := by decide +kernel
theorem dX3_lastMonth_32 : decode cX3_lastMonth 32 = .ok (.if_icmp .ge 58, 3) := by decide +kernel
theorem dX3_lastMonth_35 : decode cX3_lastMonth 35 = .ok (.aload_n 0, 1) := by decide +kernel
theorem dX3_lastMonth_36 : decode cX3_lastMonth 36 = .ok (.iload_n 3, 1) := by decide +kernel
theorem dX3_lastMonth_37 : decode cX3_lastMonth 37 = .ok (.iload_n 1, 1) := by decide +kernel
theorem dX3_lastMonth_38 : decode cX3_lastMonth 38 = .ok (.invokevirtual 126, 3) := by decide +kernel
theorem dX3_lastMonth_41 : decode cX3_lastMonth 41 = .ok (.istore 4, 2) := by decide +kernel
theorem dX3_lastMonth_43 : decode cX3_lastMonth 43 = .ok (.aload_n 0, 1) := by decide +kernel
theorem dX3_lastMonth_44 : decode cX3_lastMonth 44 = .ok (.getfield 19, 3) := by decide +kernel
theorem dX3_lastMonth_47 : decode cX3_lastMonth 47 = .ok (.getfield 82, 3) := by decide +kernel
theorem dX3_lastMonth_50 : decode cX3_lastMonth 50 = .ok (.iload_n 3, 1) := by decide +kernel
theorem dX3_lastMonth_51 : decode cX3_lastMonth 51 = .ok (.iaload, 1) := by decide +kernel
theorem dX3_lastMonth_52 : decode cX3_lastMonth 52 = .ok (.istore 5, 2) := by decide +kernel
theorem dX3_lastMonth_54 : decode cX3_lastMonth 54 = .ok (.iload 4, 2) := by decide +kernel
theorem dX3_lastMonth_56 : decode cX3_lastMonth 56 = .ok (.ifCond .le 28, 3) := by decide +kernel
theorem dX3_lastMonth_59 : decode cX3_lastMonth 59 = .ok (.iload 5, 2) := by decide +kernel
theorem dX3_lastMonth_61 : decode cX3_lastMonth 61 = .ok (.ifCond .le 23, 3) := by decide +kernel
theorem dX3_lastMonth_64 : decode cX3_lastMonth 64 = .ok (.iload_n 2, 1) := by decide +kernel
theorem dX3_lastMonth_65 : decode cX3_lastMonth 65 = .ok (.aload_n 0, 1) := by decide +kernel
theorem dX3_lastMonth_66 : decode cX3_lastMonth 66 = .ok (.getfield 29, 3) := by decide +kernel
theorem dX3_lastMonth_69 : decode cX3_lastMonth 69 = .ok (.getfield 79, 3) := by decide +kernel
theorem dX3_lastMonth_72 : decode cX3_lastMonth 72 = .ok (.iload_n 3, 1) := by decide +kernel
theorem dX3_lastMonth_73 : decode cX3_lastMonth 73 = .ok (.iaload, 1) := by decide +kernel
theorem dX3_lastMonth_74 : decode cX3_lastMonth 74 = .ok (.iload 4, 2) := by decide +kernel
theorem dX3_lastMonth_76 : decode cX3_lastMonth 76 = .ok (.isub, 1) := by decide +kernel
theorem dX3_lastMonth_77 : decode cX3_lastMonth 77 = .ok (.iload 5, 2) := by decide +kernel
theorem dX3_lastMonth_79 : decode cX3_lastMonth 79 = .ok (.idiv, 1) := by decide +kernel
theorem dX3_lastMonth_80 : decode cX3_lastMonth 80 = .ok (.invokestatic 225, 3) := by decide +kernel
theorem dX3_lastMonth_83 : decode cX3_lastMonth 83 = .ok (.istore_n 2, 1) := by decide +kernel
theorem dX3_lastMonth_84 : decode cX3_lastMonth 84 = .ok (.iinc 3 1, 3) := by decide +kernel
theorem dX3_lastMonth_87 : decode cX3_lastMonth 87 = .ok (.goto (-63), 3) := by decide +kernel
theorem dX3_lastMonth_90 : decode cX3_lastMonth 90 = .ok (.iload_n 2, 1) := by decide +kernel
theorem dX3_lastMonth_91 : decode cX3_lastMonth 91 = .ok (.ireturn, 1) := by decide +kernel
theorem dX3_fewestChanges_0 : decode cX3_fewestChanges 0 = .ok (.aload_n 0, 1) := by decide +kernel
theorem dX3_fewestChanges_1 : decode cX3_fewestChanges 1 = .ok (.getfield 19, 3) := by decide +kernel
theorem dX3_fewestChanges_4 : decode cX3_fewestChanges 4 = .ok (.getfield 123, 3) := by decide +kernel
theorem dX3_fewestChanges_7 : decode cX3_fewestChanges 7 = .ok (.istore_n 1, 1) := by decide +kernel
theorem dX3_fewestChanges_8 : decode cX3_fewestChanges 8 = .ok (.iconst 0, 1) := by decide +kernel
theorem dX3_fewestChanges_9 : decode cX3_fewestChanges 9 = .ok (.istore_n 2, 1) := by decide +kernel
theorem dX3_fewestChanges_10 : decode cX3_fewestChanges 10 = .ok (.iconst 0, 1) := by decide +kernel
theorem dX3_fewestChanges_11 : decode cX3_fewestChanges 11 = .ok (.istore_n 3, 1) := by decide +kernel
theorem dX3_fewestChanges_12 : decode cX3_fewestChanges 12 = .ok (.iload_n 3, 1) := by decide +kernel
theorem dX3_fewestChanges_13 : decode cX3_fewestChanges 13 = .ok (.aload_n 0, 1) := by decide +kernel
theorem dX3_fewestChanges_14 : decode cX3_fewestChanges 14 = .ok (.getfield 19, 3) := by decide +kernel
theorem dX3_fewestChanges_17 : decode cX3_fewestChanges 17 = .ok (.getfield 123, 3) := by decide +kernel
theorem dX3_fewestChanges_20 : decode cX3_fewestChanges 20 = .ok (.if_icmp .ge 28, 3) := by decide +kernel
theorem dX3_fewestChanges_23 : decode cX3_fewestChanges 23 = .ok (.iload_n 2, 1) := by decide +kernel
theorem dX3_fewestChanges_24 : decode cX3_fewestChanges 24 = .ok (.iload_n 3, 1) := by decide +kernel
theorem dX3_fewestChanges_25 : decode cX3_fewestChanges 25 = .ok (.invokestatic 221, 3) := by decide +kernel
theorem dX3_fewestChanges_28 : decode cX3_fewestChanges 28 = .ok (.ifCond .ne 14, 3) := by decide +kernel
theorem dX3_fewestChanges_31 : decode cX3_fewestChanges 31 = .ok (.iinc 1 (-1), 3) := by decide +kernel
theorem dX3_fewestChanges_34 : decode cX3_fewestChanges 34 = .ok (.iload_n 2, 1) := by decide +kernel
theorem dX3_fewestChanges_35 : decode cX3_fewestChanges 35 = .ok (.aload_n 0, 1) := by decide +kernel
theorem dX3_fewestChanges_36 : decode cX3_fewestChanges 36 = .ok (.iload_n 3, 1) := by decide +kernel
theorem dX3_fewestChanges_37 : decode cX3_fewestChanges 37 = .ok (.invokevirtual 230, 3) := by decide +kernel
theorem dX3_fewestChanges_40 : decode cX3_fewestChanges 40 = .ok (.ior, 1) := by decide +kernel
theorem dX3_fewestChanges_41 : decode cX3_fewestChanges 41 = .ok (.istore_n 2, 1) := by decide +kernel
theorem dX3_fewestChanges_42 : decode cX3_fewestChanges 42 = .ok (.iinc 3 1, 3) := by decide +kernel
theorem dX3_fewestChanges_45 : decode cX3_fewestChanges 45 = .ok (.goto (-33), 3) := by decide +kernel
theorem dX3_fewestChanges_48 : decode cX3_fewestChanges 48 = .ok (.iload_n 1, 1) := by decide +kernel
theorem dX3_fewestChanges_49 : decode cX3_fewestChanges 49 = .ok (.ireturn, 1) := by decide +kernel
theorem dX3_ringOf_0 : decode cX3_ringOf 0 = .ok (.iconst 0, 1) := by decide +kernel
theorem dX3_ringOf_1 : decode cX3_ringOf 1 = .ok (.istore_n 2, 1) := by decide +kernel
theorem dX3_ringOf_2 : decode cX3_ringOf 2 = .ok (.iload_n 1, 1) := by decide +kernel
theorem dX3_ringOf_3 : decode cX3_ringOf 3 = .ok (.istore_n 3, 1) := by decide +kernel
theorem dX3_ringOf_4 : decode cX3_ringOf 4 = .ok (.iconst 0, 1) := by decide +kernel
theorem dX3_ringOf_5 : decode cX3_ringOf 5 = .ok (.istore 4, 2) := by decide +kernel
theorem dX3_ringOf_7 : decode cX3_ringOf 7 = .ok (.iload 4, 2) := by decide +kernel
theorem dX3_ringOf_9 : decode cX3_ringOf 9 = .ok (.aload_n 0, 1) := by decide +kernel
theorem dX3_ringOf_10 : decode cX3_ringOf 10 = .ok (.getfield 19, 3) := by decide +kernel
theorem dX3_ringOf_13 : decode cX3_ringOf 13 = .ok (.getfield 123, 3) := by decide +kernel
theorem dX3_ringOf_16 : decode cX3_ringOf 16 = .ok (.if_icmp .ge 33, 3) := by decide +kernel
theorem dX3_ringOf_19 : decode cX3_ringOf 19 = .ok (.aload_n 0, 1) := by decide +kernel
theorem dX3_ringOf_20 : decode cX3_ringOf 20 = .ok (.iload_n 3, 1) := by decide +kernel
theorem dX3_ringOf_21 : decode cX3_ringOf 21 = .ok (.invokevirtual 76, 3) := by decide +kernel
theorem dX3_ringOf_24 : decode cX3_ringOf 24 = .ok (.ifCond .eq 25, 3) := by decide +kernel
theorem dX3_ringOf_27 : decode cX3_ringOf 27 = .ok (.iload_n 2, 1) := by decide +kernel
theorem dX3_ringOf_28 : decode cX3_ringOf 28 = .ok (.iconst 1, 1) := by decide +kernel
theorem dX3_ringOf_29 : decode cX3_ringOf 29 = .ok (.iload_n 3, 1) := by decide +kernel
theorem dX3_ringOf_30 : decode cX3_ringOf 30 = .ok (.ishl, 1) := by decide +kernel
theorem dX3_ringOf_31 : decode cX3_ringOf 31 = .ok (.ior, 1) := by decide +kernel
theorem dX3_ringOf_32 : decode cX3_ringOf 32 = .ok (.istore_n 2, 1) := by decide +kernel
theorem dX3_ringOf_33 : decode cX3_ringOf 33 = .ok (.aload_n 0, 1) := by decide +kernel
theorem dX3_ringOf_34 : decode cX3_ringOf 34 = .ok (.getfield 29, 3) := by decide +kernel
theorem dX3_ringOf_37 : decode cX3_ringOf 37 = .ok (.getfield 88, 3) := by decide +kernel
theorem dX3_ringOf_40 : decode cX3_ringOf 40 = .ok (.iload_n 3, 1) := by decide +kernel
theorem dX3_ringOf_41 : decode cX3_ringOf 41 = .ok (.iaload, 1) := by decide +kernel
theorem dX3_ringOf_42 : decode cX3_ringOf 42 = .ok (.istore_n 3, 1) := by decide +kernel
theorem dX3_ringOf_43 : decode cX3_ringOf 43 = .ok (.iinc 4 1, 3) := by decide +kernel
theorem dX3_ringOf_46 : decode cX3_ringOf 46 = .ok (.goto (-39), 3) := by decide +kernel
theorem dX3_ringOf_49 : decode cX3_ringOf 49 = .ok (.iload_n 2, 1) := by decide +kernel
theorem dX3_ringOf_50 : decode cX3_ringOf 50 = .ok (.ireturn, 1) := by decide +kernel
theorem dX3_firstChange_0 : decode cX3_firstChange 0 = .ok (.iconst 0, 1) := by decide +kernel
theorem dX3_firstChange_1 : decode cX3_firstChange 1 = .ok (.istore_n 1, 1) := by decide +kernel
theorem dX3_firstChange_2 : decode cX3_firstChange 2 = .ok (.iload_n 1, 1) := by decide +kernel
theorem dX3_firstChange_3 : decode cX3_firstChange 3 = .ok (.aload_n 0, 1) := by decide +kernel
theorem dX3_firstChange_4 : decode cX3_firstChange 4 = .ok (.getfield 19, 3) := by decide +kernel
theorem dX3_firstChange_7 : decode cX3_firstChange 7 = .ok (.getfield 123, 3) := by decide +kernel
theorem dX3_firstChange_10 : decode cX3_firstChange 10 = .ok (.if_icmp .ge 63, 3) := by decide +kernel
theorem dX3_firstChange_13 : decode cX3_firstChange 13 = .ok (.iload_n 1, 1) := by decide +kernel
theorem dX3_firstChange_14 : decode cX3_firstChange 14 = .ok (.iconst 1, 1) := by decide +kernel
theorem dX3_firstChange_15 : decode cX3_firstChange 15 = .ok (.iadd, 1) := by decide +kernel
theorem dX3_firstChange_16 : decode cX3_firstChange 16 = .ok (.istore_n 2, 1) := by decide +kernel
theorem dX3_firstChange_17 : decode cX3_firstChange 17 = .ok (.iload_n 2, 1) := by decide +kernel
theorem dX3_firstChange_18 : decode cX3_firstChange 18 = .ok (.aload_n 0, 1) := by decide +kernel
theorem dX3_firstChange_19 : decode cX3_firstChange 19 = .ok (.getfield 19, 3) := by decide +kernel
theorem dX3_firstChange_22 : decode cX3_firstChange 22 = .ok (.getfield 123, 3) := by decide +kernel
theorem dX3_firstChange_25 : decode cX3_firstChange 25 = .ok (.if_icmp .ge 42, 3) := by decide +kernel
theorem dX3_firstChange_28 : decode cX3_firstChange 28 = .ok (.aload_n 0, 1) := by decide +kernel
theorem dX3_firstChange_29 : decode cX3_firstChange 29 = .ok (.getfield 29, 3) := by decide +kernel
theorem dX3_firstChange_32 : decode cX3_firstChange 32 = .ok (.getfield 88, 3) := by decide +kernel
theorem dX3_firstChange_35 : decode cX3_firstChange 35 = .ok (.iload_n 1, 1) := by decide +kernel
theorem dX3_firstChange_36 : decode cX3_firstChange 36 = .ok (.iaload, 1) := by decide +kernel
theorem dX3_firstChange_37 : decode cX3_firstChange 37 = .ok (.iload_n 2, 1) := by decide +kernel
theorem dX3_firstChange_38 : decode cX3_firstChange 38 = .ok (.if_icmp .eq 16, 3) := by decide +kernel
theorem dX3_firstChange_41 : decode cX3_firstChange 41 = .ok (.aload_n 0, 1) := by decide +kernel
theorem dX3_firstChange_42 : decode cX3_firstChange 42 = .ok (.getfield 29, 3) := by decide +kernel
theorem dX3_firstChange_45 : decode cX3_firstChange 45 = .ok (.getfield 88, 3) := by decide +kernel
theorem dX3_firstChange_48 : decode cX3_firstChange 48 = .ok (.iload_n 2, 1) := by decide +kernel
theorem dX3_firstChange_49 : decode cX3_firstChange 49 = .ok (.iaload, 1) := by decide +kernel
theorem dX3_firstChange_50 : decode cX3_firstChange 50 = .ok (.iload_n 1, 1) := by decide +kernel
theorem dX3_firstChange_51 : decode cX3_firstChange 51 = .ok (.if_icmp .ne 10, 3) := by decide +kernel
theorem dX3_firstChange_54 : decode cX3_firstChange 54 = .ok (.bipush 10, 2) := by decide +kernel
theorem dX3_firstChange_56 : decode cX3_firstChange 56 = .ok (.iload_n 1, 1) := by decide +kernel
theorem dX3_firstChange_57 : decode cX3_firstChange 57 = .ok (.imul, 1) := by decide +kernel
theorem dX3_firstChange_58 : decode cX3_firstChange 58 = .ok (.iload_n 2, 1) := by decide +kernel
theorem dX3_firstChange_59 : decode cX3_firstChange 59 = .ok (.iadd, 1) := by decide +kernel
theorem dX3_firstChange_60 : decode cX3_firstChange 60 = .ok (.ireturn, 1) := by decide +kernel
theorem dX3_firstChange_61 : decode cX3_firstChange 61 = .ok (.iinc 2 1, 3) := by decide +kernel
theorem dX3_firstChange_64 : decode cX3_firstChange 64 = .ok (.goto (-47), 3) := by decide +kernel
theorem dX3_firstChange_67 : decode cX3_firstChange 67 = .ok (.iinc 1 1, 3) := by decide +kernel
theorem dX3_firstChange_70 : decode cX3_firstChange 70 = .ok (.goto (-68), 3) := by decide +kernel
theorem dX3_firstChange_73 : decode cX3_firstChange 73 = .ok (.bipush (-9), 2) := by decide +kernel
theorem dX3_firstChange_75 : decode cX3_firstChange 75 = .ok (.ireturn, 1) := by decide +kernel
theorem dX3_levelsTogether_0 : decode cX3_levelsTogether 0 = .ok (.iconst 0, 1) := by decide +kernel
theorem dX3_levelsTogether_1 : decode cX3_levelsTogether 1 = .ok (.istore_n 1, 1) := by decide +kernel
theorem dX3_levelsTogether_2 : decode cX3_levelsTogether 2 = .ok (.iconst 0, 1) := by decide +kernel
theorem dX3_levelsTogether_3 : decode cX3_levelsTogether 3 = .ok (.istore_n 2, 1) := by decide +kernel
theorem dX3_levelsTogether_4 : decode cX3_levelsTogether 4 = .ok (.iload_n 2, 1) := by decide +kernel
theorem dX3_levelsTogether_5 : decode cX3_levelsTogether 5 = .ok (.aload_n 0, 1) := by decide +kernel
theorem dX3_levelsTogether_6 : decode cX3_levelsTogether 6 = .ok (.getfield 19, 3) := by decide +kernel
theorem dX3_levelsTogether_9 : decode cX3_levelsTogether 9 = .ok (.getfield 123, 3) := by decide +kernel
theorem dX3_levelsTogether_12 : decode cX3_levelsTogether 12 = .ok (.if_icmp .ge 21, 3) := by decide +kernel
theorem dX3_levelsTogether_15 : decode cX3_levelsTogether 15 = .ok (.iload_n 1, 1) := by decide +kernel
theorem dX3_levelsTogether_16 : decode cX3_levelsTogether 16 = .ok (.aload_n 0, 1) := by decide +kernel
theorem dX3_levelsTogether_17 : decode cX3_levelsTogether 17 = .ok (.getfield 29, 3) := by decide +kernel
theorem dX3_levelsTogether_20 : decode cX3_levelsTogether 20 = .ok (.getfield 79, 3) := by decide +kernel
theorem dX3_levelsTogether_23 : decode cX3_levelsTogether 23 = .ok (.iload_n 2, 1) := by decide +kernel
theorem dX3_levelsTogether_24 : decode cX3_levelsTogether 24 = .ok (.iaload, 1) := by decide +kernel
theorem dX3_levelsTogether_25 : decode cX3_levelsTogether 25 = .ok (.iadd, 1) := by decide +kernel
theorem dX3_levelsTogether_26 : decode cX3_levelsTogether 26 = .ok (.istore_n 1, 1) := by decide +kernel
theorem dX3_levelsTogether_27 : decode cX3_levelsTogether 27 = .ok (.iinc 2 1, 3) := by decide +kernel
theorem dX3_levelsTogether_30 : decode cX3_levelsTogether 30 = .ok (.goto (-26), 3) := by decide +kernel
theorem dX3_levelsTogether_33 : decode cX3_levelsTogether 33 = .ok (.iload_n 1, 1) := by decide +kernel
theorem dX3_levelsTogether_34 : decode cX3_levelsTogether 34 = .ok (.ireturn, 1) := by decide +kernel
theorem dX3_differenceOf_0 : decode cX3_differenceOf 0 = .ok (.iconst 0, 1) := by decide +kernel
theorem dX3_differenceOf_1 : decode cX3_differenceOf 1 = .ok (.istore_n 2, 1) := by decide +kernel
theorem dX3_differenceOf_2 : decode cX3_differenceOf 2 = .ok (.iconst 0, 1) := by decide +kernel
theorem dX3_differenceOf_3 : decode cX3_differenceOf 3 = .ok (.istore_n 3, 1) := by decide +kernel
theorem dX3_differenceOf_4 : decode cX3_differenceOf 4 = .ok (.iload_n 3, 1) := by decide +kernel
theorem dX3_differenceOf_5 : decode cX3_differenceOf 5 = .ok (.aload_n 0, 1) := by decide +kernel
theorem dX3_differenceOf_6 : decode cX3_differenceOf 6 = .ok (.getfield 19, 3) := by decide +kernel
theorem dX3_differenceOf_9 : decode cX3_differenceOf 9 = .ok (.getfield 123, 3) := by decide +kernel
theorem dX3_differenceOf_12 : decode cX3_differenceOf 12 = .ok (.if_icmp .ge 42, 3) := by decide +kernel
theorem dX3_differenceOf_15 : decode cX3_differenceOf 15 = .ok (.iload_n 2, 1) := by decide +kernel
theorem dX3_differenceOf_16 : decode cX3_differenceOf 16 = .ok (.iload_n 1, 1) := by decide +kernel
theorem dX3_differenceOf_17 : decode cX3_differenceOf 17 = .ok (.iload_n 3, 1) := by decide +kernel
theorem dX3_differenceOf_18 : decode cX3_differenceOf 18 = .ok (.invokestatic 221, 3) := by decide +kernel
theorem dX3_differenceOf_21 : decode cX3_differenceOf 21 = .ok (.ifCond .eq 15, 3) := by decide +kernel
theorem dX3_differenceOf_24 : decode cX3_differenceOf 24 = .ok (.aload_n 0, 1) := by decide +kernel
theorem dX3_differenceOf_25 : decode cX3_differenceOf 25 = .ok (.getfield 29, 3) := by decide +kernel
theorem dX3_differenceOf_28 : decode cX3_differenceOf 28 = .ok (.getfield 79, 3) := by decide +kernel
theorem dX3_differenceOf_31 : decode cX3_differenceOf 31 = .ok (.iload_n 3, 1) := by decide +kernel
theorem dX3_differenceOf_32 : decode cX3_differenceOf 32 = .ok (.iaload, 1) := by decide +kernel
theorem dX3_differenceOf_33 : decode cX3_differenceOf 33 = .ok (.goto 13, 3) := by decide +kernel
theorem dX3_differenceOf_36 : decode cX3_differenceOf 36 = .ok (.aload_n 0, 1) := by decide +kernel
theorem dX3_differenceOf_37 : decode cX3_differenceOf 37 = .ok (.getfield 29, 3) := by decide +kernel
theorem dX3_differenceOf_40 : decode cX3_differenceOf 40 = .ok (.getfield 79, 3) := by decide +kernel
theorem dX3_differenceOf_43 : decode cX3_differenceOf 43 = .ok (.iload_n 3, 1) := by decide +kernel
theorem dX3_differenceOf_44 : decode cX3_differenceOf 44 = .ok (.iaload, 1) := by decide +kernel
theorem dX3_differenceOf_45 : decode cX3_differenceOf 45 = .ok (.ineg, 1) := by decide +kernel
theorem dX3_differenceOf_46 : decode cX3_differenceOf 46 = .ok (.iadd, 1) := by decide +kernel
theorem dX3_differenceOf_47 : decode cX3_differenceOf 47 = .ok (.istore_n 2, 1) := by decide +kernel
theorem dX3_differenceOf_48 : decode cX3_differenceOf 48 = .ok (.iinc 3 1, 3) := by decide +kernel
theorem dX3_differenceOf_51 : decode cX3_differenceOf 51 = .ok (.goto (-47), 3) := by decide +kernel
theorem dX3_differenceOf_54 : decode cX3_differenceOf 54 = .ok (.iload_n 2, 1) := by decide +kernel
theorem dX3_differenceOf_55 : decode cX3_differenceOf 55 = .ok (.invokestatic 233, 3) := by decide +kernel
theorem dX3_differenceOf_58 : decode cX3_differenceOf 58 = .ok (.ireturn, 1) := by decide +kernel
theorem dX3_inLeastTerms_0 : decode cX3_inLeastTerms 0 = .ok (.bipush 10, 2) := by decide +kernel
theorem dX3_inLeastTerms_2 : decode cX3_inLeastTerms 2 = .ok (.istore_n 2, 1) := by decide +kernel
theorem dX3_inLeastTerms_3 : decode cX3_inLeastTerms 3 = .ok (.iload_n 2, 1) := by decide +kernel
theorem dX3_inLeastTerms_4 : decode cX3_inLeastTerms 4 = .ok (.iconst 1, 1) := by decide +kernel
theorem dX3_inLeastTerms_5 : decode cX3_inLeastTerms 5 = .ok (.if_icmp .le 26, 3) := by decide +kernel
theorem dX3_inLeastTerms_8 : decode cX3_inLeastTerms 8 = .ok (.bipush 10, 2) := by decide +kernel
theorem dX3_inLeastTerms_10 : decode cX3_inLeastTerms 10 = .ok (.iload_n 2, 1) := by decide +kernel
theorem dX3_inLeastTerms_11 : decode cX3_inLeastTerms 11 = .ok (.irem, 1) := by decide +kernel
theorem dX3_inLeastTerms_12 : decode cX3_inLeastTerms 12 = .ok (.ifCond .ne 13, 3) := by decide +kernel
theorem dX3_inLeastTerms_15 : decode cX3_inLeastTerms 15 = .ok (.iload_n 1, 1) := by decide +kernel
theorem dX3_inLeastTerms_16 : decode cX3_inLeastTerms 16 = .ok (.iload_n 2, 1) := by decide +kernel
theorem dX3_inLeastTerms_17 : decode cX3_inLeastTerms 17 = .ok (.irem, 1) := by decide +kernel
theorem dX3_inLeastTerms_18 : decode cX3_inLeastTerms 18 = .ok (.ifCond .ne 7, 3) := by decide +kernel
theorem dX3_inLeastTerms_21 : decode cX3_inLeastTerms 21 = .ok (.iload_n 0, 1) := by decide +kernel
theorem dX3_inLeastTerms_22 : decode cX3_inLeastTerms 22 = .ok (.iload_n 2, 1) := by decide +kernel
theorem dX3_inLeastTerms_23 : decode cX3_inLeastTerms 23 = .ok (.idiv, 1) := by decide +kernel
theorem dX3_inLeastTerms_24 : decode cX3_inLeastTerms 24 = .ok (.ireturn, 1) := by decide +kernel
theorem dX3_inLeastTerms_25 : decode cX3_inLeastTerms 25 = .ok (.iinc 2 (-1), 3) := by decide +kernel
theorem dX3_inLeastTerms_28 : decode cX3_inLeastTerms 28 = .ok (.goto (-25), 3) := by decide +kernel
theorem dX3_inLeastTerms_31 : decode cX3_inLeastTerms 31 = .ok (.iload_n 0, 1) := by decide +kernel
theorem dX3_inLeastTerms_32 : decode cX3_inLeastTerms 32 = .ok (.ireturn, 1) := by decide +kernel
theorem dX3_agreesWithTold_0 : decode cX3_agreesWithTold 0 = .ok (.iconst 0, 1) := by decide +kernel
theorem dX3_agreesWithTold_1 : decode cX3_agreesWithTold 1 = .ok (.istore_n 2, 1) := by decide +kernel
theorem dX3_agreesWithTold_2 : decode cX3_agreesWithTold 2 = .ok (.iload_n 2, 1) := by decide +kernel
theorem dX3_agreesWithTold_3 : decode cX3_agreesWithTold 3 = .ok (.aload_n 0, 1) := by decide +kernel
theorem dX3_agreesWithTold_4 : decode cX3_agreesWithTold 4 = .ok (.getfield 51, 3) := by decide +kernel
theorem dX3_agreesWithTold_7 : decode cX3_agreesWithTold 7 = .ok (.if_icmp .ge 40, 3) := by decide +kernel
theorem dX3_agreesWithTold_10 : decode cX3_agreesWithTold 10 = .ok (.aload_n 0, 1) := by decide +kernel
theorem dX3_agreesWithTold_11 : decode cX3_agreesWithTold 11 = .ok (.getfield 43, 3) := by decide +kernel
theorem dX3_agreesWithTold_14 : decode cX3_agreesWithTold 14 = .ok (.iload_n 2, 1) := by decide +kernel
theorem dX3_agreesWithTold_15 : decode cX3_agreesWithTold 15 = .ok (.iaload, 1) := by decide +kernel
theorem dX3_agreesWithTold_16 : decode cX3_agreesWithTold 16 = .ok (.iload_n 1, 1) := by decide +kernel
theorem dX3_agreesWithTold_17 : decode cX3_agreesWithTold 17 = .ok (.iconst (-1), 1) := by decide +kernel
theorem dX3_agreesWithTold_18 : decode cX3_agreesWithTold 18 = .ok (.ixor, 1) := by decide +kernel
theorem dX3_agreesWithTold_19 : decode cX3_agreesWithTold 19 = .ok (.iand, 1) := by decide +kernel
theorem dX3_agreesWithTold_20 : decode cX3_agreesWithTold 20 = .ok (.ifCond .ne 7, 3) := by decide +kernel
theorem dX3_agreesWithTold_23 : decode cX3_agreesWithTold 23 = .ok (.iconst 1, 1) := by decide +kernel
theorem dX3_agreesWithTold_24 : decode cX3_agreesWithTold 24 = .ok (.goto 4, 3) := by decide +kernel
theorem dX3_agreesWithTold_27 : decode cX3_agreesWithTold 27 = .ok (.iconst 0, 1) := by decide +kernel
theorem dX3_agreesWithTold_28 : decode cX3_agreesWithTold 28 = .ok (.istore_n 3, 1) := by decide +kernel
theorem dX3_agreesWithTold_29 : decode cX3_agreesWithTold 29 = .ok (.iload_n 3, 1) := by decide +kernel
theorem dX3_agreesWithTold_30 : decode cX3_agreesWithTold 30 = .ok (.aload_n 0, 1) := by decide +kernel
theorem dX3_agreesWithTold_31 : decode cX3_agreesWithTold 31 = .ok (.getfield 47, 3) := by decide +kernel
theorem dX3_agreesWithTold_34 : decode cX3_agreesWithTold 34 = .ok (.iload_n 2, 1) := by decide +kernel
theorem dX3_agreesWithTold_35 : decode cX3_agreesWithTold 35 = .ok (.baload, 1) := by decide +kernel
theorem dX3_agreesWithTold_36 : decode cX3_agreesWithTold 36 = .ok (.if_icmp .eq 5, 3) := by decide +kernel
theorem dX3_agreesWithTold_39 : decode cX3_agreesWithTold 39 = .ok (.iconst 0, 1) := by decide +kernel
theorem dX3_agreesWithTold_40 : decode cX3_agreesWithTold 40 = .ok (.ireturn, 1) := by decide +kernel
theorem dX3_agreesWithTold_41 : decode cX3_agreesWithTold 41 = .ok (.iinc 2 1, 3) := by decide +kernel
theorem dX3_agreesWithTold_44 : decode cX3_agreesWithTold 44 = .ok (.goto (-42), 3) := by decide +kernel
theorem dX3_agreesWithTold_47 : decode cX3_agreesWithTold 47 = .ok (.iconst 1, 1) := by decide +kernel
theorem dX3_agreesWithTold_48 : decode cX3_agreesWithTold 48 = .ok (.ireturn, 1) := by decide +kernel
theorem dX3_waysWithOwn_0 : decode cX3_waysWithOwn 0 = .ok (.aload_n 0, 1) := by decide +kernel
theorem dX3_waysWithOwn_1 : decode cX3_waysWithOwn 1 = .ok (.getfield 19, 3) := by decide +kernel
theorem dX3_waysWithOwn_4 : decode cX3_waysWithOwn 4 = .ok (.getfield 123, 3) := by decide +kernel
theorem dX3_waysWithOwn_7 : decode cX3_waysWithOwn 7 = .ok (.iload_n 1, 1) := by decide +kernel
theorem dX3_waysWithOwn_8 : decode cX3_waysWithOwn 8 = .ok (.invokestatic 183, 3) := by decide +kernel
theorem dX3_waysWithOwn_11 : decode cX3_waysWithOwn 11 = .ok (.isub, 1) := by decide +kernel
theorem dX3_waysWithOwn_12 : decode cX3_waysWithOwn 12 = .ok (.istore_n 2, 1) := by decide +kernel
theorem dX3_waysWithOwn_13 : decode cX3_waysWithOwn 13 = .ok (.iload_n 2, 1) := by decide +kernel
theorem dX3_waysWithOwn_14 : decode cX3_waysWithOwn 14 = .ok (.ifCond .lt 19, 3) := by decide +kernel
theorem dX3_waysWithOwn_17 : decode cX3_waysWithOwn 17 = .ok (.iload_n 2, 1) := by decide +kernel
theorem dX3_waysWithOwn_18 : decode cX3_waysWithOwn 18 = .ok (.getstatic 236, 3) := by decide +kernel
theorem dX3_waysWithOwn_21 : decode cX3_waysWithOwn 21 = .ok (.arraylength, 1) := by decide +kernel
theorem dX3_waysWithOwn_22 : decode cX3_waysWithOwn 22 = .ok (.if_icmp .ge 11, 3) := by decide +kernel
theorem dX3_waysWithOwn_25 : decode cX3_waysWithOwn 25 = .ok (.aload_n 0, 1) := by decide +kernel
theorem dX3_waysWithOwn_26 : decode cX3_waysWithOwn 26 = .ok (.iload_n 1, 1) := by decide +kernel
theorem dX3_waysWithOwn_27 : decode cX3_waysWithOwn 27 = .ok (.invokevirtual 239, 3) := by decide +kernel
theorem dX3_waysWithOwn_30 : decode cX3_waysWithOwn 30 = .ok (.ifCond .ne 5, 3) := by decide +kernel
theorem dX3_waysWithOwn_33 : decode cX3_waysWithOwn 33 = .ok (.iconst 0, 1) := by decide +kernel
theorem dX3_waysWithOwn_34 : decode cX3_waysWithOwn 34 = .ok (.ireturn, 1) := by decide +kernel
theorem dX3_waysWithOwn_35 : decode cX3_waysWithOwn 35 = .ok (.getstatic 236, 3) := by decide +kernel
theorem dX3_waysWithOwn_38 : decode cX3_waysWithOwn 38 = .ok (.iload_n 2, 1) := by decide +kernel
theorem dX3_waysWithOwn_39 : decode cX3_waysWithOwn 39 = .ok (.iaload, 1) := by decide +kernel
theorem dX3_waysWithOwn_40 : decode cX3_waysWithOwn 40 = .ok (.ireturn, 1) := by decide +kernel
theorem dX3_waysThatFit_0 : decode cX3_waysThatFit 0 = .ok (.iconst 0, 1) := by decide +kernel
theorem dX3_waysThatFit_1 : decode cX3_waysThatFit 1 = .ok (.istore_n 1, 1) := by decide +kernel
theorem dX3_waysThatFit_2 : decode cX3_waysThatFit 2 = .ok (.iconst 0, 1) := by decide +kernel
theorem dX3_waysThatFit_3 : decode cX3_waysThatFit 3 = .ok (.istore_n 2, 1) := by decide +kernel
theorem dX3_waysThatFit_4 : decode cX3_waysThatFit 4 = .ok (.iload_n 2, 1) := by decide +kernel
theorem dX3_waysThatFit_5 : decode cX3_waysThatFit 5 = .ok (.iconst 1, 1) := by decide +kernel
theorem dX3_waysThatFit_6 : decode cX3_waysThatFit 6 = .ok (.aload_n 0, 1) := by decide +kernel
theorem dX3_waysThatFit_7 : decode cX3_waysThatFit 7 = .ok (.getfield 19, 3) := by decide +kernel
theorem dX3_waysThatFit_10 : decode cX3_waysThatFit 10 = .ok (.getfield 123, 3) := by decide +kernel
theorem dX3_waysThatFit_13 : decode cX3_waysThatFit 13 = .ok (.ishl, 1) := by decide +kernel
theorem dX3_waysThatFit_14 : decode cX3_waysThatFit 14 = .ok (.if_icmp .ge 17, 3) := by decide +kernel
theorem dX3_waysThatFit_17 : decode cX3_waysThatFit 17 = .ok (.iload_n 1, 1) := by decide +kernel
theorem dX3_waysThatFit_18 : decode cX3_waysThatFit 18 = .ok (.aload_n 0, 1) := by decide +kernel
theorem dX3_waysThatFit_19 : decode cX3_waysThatFit 19 = .ok (.iload_n 2, 1) := by decide +kernel
theorem dX3_waysThatFit_20 : decode cX3_waysThatFit 20 = .ok (.invokevirtual 242, 3) := by decide +kernel
theorem dX3_waysThatFit_23 : decode cX3_waysThatFit 23 = .ok (.iadd, 1) := by decide +kernel
theorem dX3_waysThatFit_24 : decode cX3_waysThatFit 24 = .ok (.istore_n 1, 1) := by decide +kernel
theorem dX3_waysThatFit_25 : decode cX3_waysThatFit 25 = .ok (.iinc 2 1, 3) := by decide +kernel
theorem dX3_waysThatFit_28 : decode cX3_waysThatFit 28 = .ok (.goto (-24), 3) := by decide +kernel
theorem dX3_waysThatFit_31 : decode cX3_waysThatFit 31 = .ok (.iload_n 1, 1) := by decide +kernel
theorem dX3_waysThatFit_32 : decode cX3_waysThatFit 32 = .ok (.ireturn, 1) := by decide +kernel
theorem dX3_sureLabel_0 : decode cX3_sureLabel 0 = .ok (.iconst 1, 1) := by decide +kernel
theorem dX3_sureLabel_1 : decode cX3_sureLabel 1 = .ok (.aload_n 0, 1) := by decide +kernel
theorem dX3_sureLabel_2 : decode cX3_sureLabel 2 = .ok (.getfield 19, 3) := by decide +kernel
theorem dX3_sureLabel_5 : decode cX3_sureLabel 5 = .ok (.getfield 123, 3) := by decide +kernel
theorem dX3_sureLabel_8 : decode cX3_sureLabel 8 = .ok (.ishl, 1) := by decide +kernel
theorem dX3_sureLabel_9 : decode cX3_sureLabel 9 = .ok (.iconst 1, 1) := by decide +kernel
theorem dX3_sureLabel_10 : decode cX3_sureLabel 10 = .ok (.isub, 1) := by decide +kernel
theorem dX3_sureLabel_11 : decode cX3_sureLabel 11 = .ok (.istore_n 2, 1) := by decide +kernel
theorem dX3_sureLabel_12 : decode cX3_sureLabel 12 = .ok (.iconst 0, 1) := by decide +kernel
theorem dX3_sureLabel_13 : decode cX3_sureLabel 13 = .ok (.istore_n 3, 1) := by decide +kernel
theorem dX3_sureLabel_14 : decode cX3_sureLabel 14 = .ok (.iconst 0, 1) := by decide +kernel
theorem dX3_sureLabel_15 : decode cX3_sureLabel 15 = .ok (.istore 4, 2) := by decide +kernel
theorem dX3_sureLabel_17 : decode cX3_sureLabel 17 = .ok (.iload 4, 2) := by decide +kernel
theorem dX3_sureLabel_19 : decode cX3_sureLabel 19 = .ok (.iload_n 2, 1) := by decide +kernel
theorem dX3_sureLabel_20 : decode cX3_sureLabel 20 = .ok (.if_icmp .gt 48, 3) := by decide +kernel
theorem dX3_sureLabel_23 : decode cX3_sureLabel 23 = .ok (.aload_n 0, 1) := by decide +kernel
theorem dX3_sureLabel_24 : decode cX3_sureLabel 24 = .ok (.iload 4, 2) := by decide +kernel
theorem dX3_sureLabel_26 : decode cX3_sureLabel 26 = .ok (.invokevirtual 242, 3) := by decide +kernel
theorem dX3_sureLabel_29 : decode cX3_sureLabel 29 = .ok (.ifCond .le 33, 3) := by decide +kernel
theorem dX3_sureLabel_32 : decode cX3_sureLabel 32 = .ok (.iload_n 3, 1) := by decide +kernel
theorem dX3_sureLabel_33 : decode cX3_sureLabel 33 = .ok (.iload 4, 2) := by decide +kernel
theorem dX3_sureLabel_35 : decode cX3_sureLabel 35 = .ok (.iload_n 1, 1) := by decide +kernel
theorem dX3_sureLabel_36 : decode cX3_sureLabel 36 = .ok (.invokestatic 221, 3) := by decide +kernel
theorem dX3_sureLabel_39 : decode cX3_sureLabel 39 = .ok (.ifCond .eq 9, 3) := by decide +kernel
theorem dX3_sureLabel_42 : decode cX3_sureLabel 42 = .ok (.iconst 1, 1) := by decide +kernel
theorem dX3_sureLabel_43 : decode cX3_sureLabel 43 = .ok (.iload_n 1, 1) := by decide +kernel
theorem dX3_sureLabel_44 : decode cX3_sureLabel 44 = .ok (.ishl, 1) := by decide +kernel
theorem dX3_sureLabel_45 : decode cX3_sureLabel 45 = .ok (.goto 15, 3) := by decide +kernel
theorem dX3_sureLabel_48 : decode cX3_sureLabel 48 = .ok (.iload_n 2, 1) := by decide +kernel
theorem dX3_sureLabel_49 : decode cX3_sureLabel 49 = .ok (.iload 4, 2) := by decide +kernel
theorem dX3_sureLabel_51 : decode cX3_sureLabel 51 = .ok (.iconst (-1), 1) := by decide +kernel
theorem dX3_sureLabel_52 : decode cX3_sureLabel 52 = .ok (.ixor, 1) := by decide +kernel
theorem dX3_sureLabel_53 : decode cX3_sureLabel 53 = .ok (.iand, 1) := by decide +kernel
theorem dX3_sureLabel_54 : decode cX3_sureLabel 54 = .ok (.iconst 1, 1) := by decide +kernel
theorem dX3_sureLabel_55 : decode cX3_sureLabel 55 = .ok (.iload_n 1, 1) := by decide +kernel
theorem dX3_sureLabel_56 : decode cX3_sureLabel 56 = .ok (.ishl, 1) := by decide +kernel
theorem dX3_sureLabel_57 : decode cX3_sureLabel 57 = .ok (.iconst (-1), 1) := by decide +kernel
theorem dX3_sureLabel_58 : decode cX3_sureLabel 58 = .ok (.ixor, 1) := by decide +kernel
theorem dX3_sureLabel_59 : decode cX3_sureLabel 59 = .ok (.iand, 1) := by decide +kernel
theorem dX3_sureLabel_60 : decode cX3_sureLabel 60 = .ok (.ior, 1) := by decide +kernel
theorem dX3_sureLabel_61 : decode cX3_sureLabel 61 = .ok (.istore_n 3, 1) := by decide +kernel
theorem dX3_sureLabel_62 : decode cX3_sureLabel 62 = .ok (.iinc 4 1, 3) := by decide +kernel
theorem dX3_sureLabel_65 : decode cX3_sureLabel 65 = .ok (.goto (-48), 3) := by decide +kernel
theorem dX3_sureLabel_68 : decode cX3_sureLabel 68 = .ok (.iconst 0, 1) := by decide +kernel
theorem dX3_sureLabel_69 : decode cX3_sureLabel 69 = .ok (.istore 4, 2) := by decide +kernel
theorem dX3_sureLabel_71 : decode cX3_sureLabel 71 = .ok (.iload 4, 2) := by decide +kernel
theorem dX3_sureLabel_73 : decode cX3_sureLabel 73 = .ok (.aload_n 0, 1) := by decide +kernel
theorem dX3_sureLabel_74 : decode cX3_sureLabel 74 = .ok (.getfield 19, 3) := by decide +kernel
theorem dX3_sureLabel_77 : decode cX3_sureLabel 77 = .ok (.getfield 123, 3) := by decide +kernel
theorem dX3_sureLabel_80 : decode cX3_sureLabel 80 = .ok (.if_icmp .ge 20, 3) := by decide +kernel
theorem dX3_sureLabel_83 : decode cX3_sureLabel 83 = .ok (.iload_n 3, 1) := by decide +kernel
theorem dX3_sureLabel_84 : decode cX3_sureLabel 84 = .ok (.iconst 1, 1) := by decide +kernel
theorem dX3_sureLabel_85 : decode cX3_sureLabel 85 = .ok (.iload 4, 2) := by decide +kernel
theorem dX3_sureLabel_87 : decode cX3_sureLabel 87 = .ok (.ishl, 1) := by decide +kernel
theorem dX3_sureLabel_88 : decode cX3_sureLabel 88 = .ok (.if_icmp .ne 6, 3) := by decide +kernel
theorem dX3_sureLabel_91 : decode cX3_sureLabel 91 = .ok (.iload 4, 2) := by decide +kernel
theorem dX3_sureLabel_93 : decode cX3_sureLabel 93 = .ok (.ireturn, 1) := by decide +kernel
theorem dX3_sureLabel_94 : decode cX3_sureLabel 94 = .ok (.iinc 4 1, 3) := by decide +kernel
theorem dX3_sureLabel_97 : decode cX3_sureLabel 97 = .ok (.goto (-26), 3) := by decide +kernel
theorem dX3_sureLabel_100 : decode cX3_sureLabel 100 = .ok (.bipush (-9), 2) := by decide +kernel
theorem dX3_sureLabel_102 : decode cX3_sureLabel 102 = .ok (.ireturn, 1) := by decide +kernel
theorem dX3_markOfAct_0 : decode cX3_markOfAct 0 = .ok (.aload_n 0, 1) := by decide +kernel
theorem dX3_markOfAct_1 : decode cX3_markOfAct 1 = .ok (.dup, 1) := by decide +kernel
theorem dX3_markOfAct_2 : decode cX3_markOfAct 2 = .ok (.getfield 54, 3) := by decide +kernel
theorem dX3_markOfAct_5 : decode cX3_markOfAct 5 = .ok (.lconst 1, 1) := by decide +kernel
theorem dX3_markOfAct_6 : decode cX3_markOfAct 6 = .ok (.ladd, 1) := by decide +kernel
theorem dX3_markOfAct_7 : decode cX3_markOfAct 7 = .ok (.putfield 54, 3) := by decide +kernel
theorem dX3_markOfAct_10 : decode cX3_markOfAct 10 = .ok (.aload_n 0, 1) := by decide +kernel
theorem dX3_markOfAct_11 : decode cX3_markOfAct 11 = .ok (.getfield 19, 3) := by decide +kernel
theorem dX3_markOfAct_14 : decode cX3_markOfAct 14 = .ok (.getfield 98, 3) := by decide +kernel
theorem dX3_markOfAct_17 : decode cX3_markOfAct 17 = .ok (.iload_n 1, 1) := by decide +kernel
theorem dX3_markOfAct_18 : decode cX3_markOfAct 18 = .ok (.iaload, 1) := by decide +kernel
theorem dX3_markOfAct_19 : decode cX3_markOfAct 19 = .ok (.ireturn, 1) := by decide +kernel
theorem dX3_markOfTreaty_0 : decode cX3_markOfTreaty 0 = .ok (.aload_n 0, 1) := by decide +kernel
theorem dX3_markOfTreaty_1 : decode cX3_markOfTreaty 1 = .ok (.dup, 1) := by decide +kernel
theorem dX3_markOfTreaty_2 : decode cX3_markOfTreaty 2 = .ok (.getfield 54, 3) := by decide +kernel
theorem dX3_markOfTreaty_5 : decode cX3_markOfTreaty 5 = .ok (.ldc2_w 245, 3) := by decide +kernel
theorem dX3_markOfTreaty_8 : decode cX3_markOfTreaty 8 = .ok (.ladd, 1) := by decide +kernel
theorem dX3_markOfTreaty_9 : decode cX3_markOfTreaty 9 = .ok (.putfield 54, 3) := by decide +kernel
theorem dX3_markOfTreaty_12 : decode cX3_markOfTreaty 12 = .ok (.aload_n 0, 1) := by decide +kernel
theorem dX3_markOfTreaty_13 : decode cX3_markOfTreaty 13 = .ok (.iload_n 1, 1) := by decide +kernel
theorem dX3_markOfTreaty_14 : decode cX3_markOfTreaty 14 = .ok (.invokevirtual 195, 3) := by decide +kernel
theorem dX3_markOfTreaty_17 : decode cX3_markOfTreaty 17 = .ok (.aload_n 0, 1) := by decide +kernel
theorem dX3_markOfTreaty_18 : decode cX3_markOfTreaty 18 = .ok (.getfield 19, 3) := by decide +kernel
theorem dX3_markOfTreaty_21 : decode cX3_markOfTreaty 21 = .ok (.iload_n 1, 1) := by decide +kernel
theorem dX3_markOfTreaty_22 : decode cX3_markOfTreaty 22 = .ok (.invokevirtual 101, 3) := by decide +kernel
theorem dX3_markOfTreaty_25 : decode cX3_markOfTreaty 25 = .ok (.invokestatic 183, 3) := by decide +kernel
theorem dX3_markOfTreaty_28 : decode cX3_markOfTreaty 28 = .ok (.iadd, 1) := by decide +kernel
theorem dX3_markOfTreaty_29 : decode cX3_markOfTreaty 29 = .ok (.ireturn, 1) := by decide +kernel
theorem dX3_markOfWar_0 : decode cX3_markOfWar 0 = .ok (.aload_n 0, 1) := by decide +kernel
theorem dX3_markOfWar_1 : decode cX3_markOfWar 1 = .ok (.dup, 1) := by decide +kernel
theorem dX3_markOfWar_2 : decode cX3_markOfWar 2 = .ok (.getfield 54, 3) := by decide +kernel
theorem dX3_markOfWar_5 : decode cX3_markOfWar 5 = .ok (.ldc2_w 247, 3) := by decide +kernel
theorem dX3_markOfWar_8 : decode cX3_markOfWar 8 = .ok (.ladd, 1) := by decide +kernel
theorem dX3_markOfWar_9 : decode cX3_markOfWar 9 = .ok (.putfield 54, 3) := by decide +kernel
theorem dX3_markOfWar_12 : decode cX3_markOfWar 12 = .ok (.iconst 0, 1) := by decide +kernel
theorem dX3_markOfWar_13 : decode cX3_markOfWar 13 = .ok (.istore_n 2, 1) := by decide +kernel
theorem dX3_markOfWar_14 : decode cX3_markOfWar 14 = .ok (.iconst 0, 1) := by decide +kernel
theorem dX3_markOfWar_15 : decode cX3_markOfWar 15 = .ok (.istore_n 3, 1) := by decide +kernel
theorem dX3_markOfWar_16 : decode cX3_markOfWar 16 = .ok (.iload_n 3, 1) := by decide +kernel
theorem dX3_markOfWar_17 : decode cX3_markOfWar 17 = .ok (.aload_n 0, 1) := by decide +kernel
theorem dX3_markOfWar_18 : decode cX3_markOfWar 18 = .ok (.getfield 19, 3) := by decide +kernel
theorem dX3_markOfWar_21 : decode cX3_markOfWar 21 = .ok (.getfield 123, 3) := by decide +kernel
theorem dX3_markOfWar_24 : decode cX3_markOfWar 24 = .ok (.if_icmp .ge 21, 3) := by decide +kernel
theorem dX3_markOfWar_27 : decode cX3_markOfWar 27 = .ok (.iload_n 2, 1) := by decide +kernel
theorem dX3_markOfWar_28 : decode cX3_markOfWar 28 = .ok (.aload_n 0, 1) := by decide +kernel
theorem dX3_markOfWar_29 : decode cX3_markOfWar 29 = .ok (.getfield 19, 3) := by decide +kernel
theorem dX3_markOfWar_32 : decode cX3_markOfWar 32 = .ok (.iload_n 1, 1) := by decide +kernel
theorem dX3_markOfWar_33 : decode cX3_markOfWar 33 = .ok (.iload_n 3, 1) := by decide +kernel
theorem dX3_markOfWar_34 : decode cX3_markOfWar 34 = .ok (.invokevirtual 110, 3) := by decide +kernel
theorem dX3_markOfWar_37 : decode cX3_markOfWar 37 = .ok (.iadd, 1) := by decide +kernel
theorem dX3_markOfWar_38 : decode cX3_markOfWar 38 = .ok (.istore_n 2, 1) := by decide +kernel
theorem dX3_markOfWar_39 : decode cX3_markOfWar 39 = .ok (.iinc 3 1, 3) := by decide +kernel
theorem dX3_markOfWar_42 : decode cX3_markOfWar 42 = .ok (.goto (-26), 3) := by decide +kernel
theorem dX3_markOfWar_45 : decode cX3_markOfWar 45 = .ok (.aload_n 0, 1) := by decide +kernel
theorem dX3_markOfWar_46 : decode cX3_markOfWar 46 = .ok (.iload_n 1, 1) := by decide +kernel
theorem dX3_markOfWar_47 : decode cX3_markOfWar 47 = .ok (.invokevirtual 195, 3) := by decide +kernel
theorem dX3_markOfWar_50 : decode cX3_markOfWar 50 = .ok (.iload_n 2, 1) := by decide +kernel
theorem dX3_markOfWar_51 : decode cX3_markOfWar 51 = .ok (.isub, 1) := by decide +kernel
theorem dX3_markOfWar_52 : decode cX3_markOfWar 52 = .ok (.ireturn, 1) := by decide +kernel
theorem dX3_markOfPardon_0 : decode cX3_markOfPardon 0 = .ok (.aload_n 0, 1) := by decide +kernel
theorem dX3_markOfPardon_1 : decode cX3_markOfPardon 1 = .ok (.dup, 1) := by decide +kernel
theorem dX3_markOfPardon_2 : decode cX3_markOfPardon 2 = .ok (.getfield 54, 3) := by decide +kernel
theorem dX3_markOfPardon_5 : decode cX3_markOfPardon 5 = .ok (.ldc2_w 249, 3) := by decide +kernel
theorem dX3_markOfPardon_8 : decode cX3_markOfPardon 8 = .ok (.ladd, 1) := by decide +kernel
theorem dX3_markOfPardon_9 : decode cX3_markOfPardon 9 = .ok (.putfield 54, 3) := by decide +kernel
theorem dX3_markOfPardon_12 : decode cX3_markOfPardon 12 = .ok (.aload_n 0, 1) := by decide +kernel
theorem dX3_markOfPardon_13 : decode cX3_markOfPardon 13 = .ok (.iload_n 1, 1) := by decide +kernel
theorem dX3_markOfPardon_14 : decode cX3_markOfPardon 14 = .ok (.invokevirtual 198, 3) := by decide +kernel
theorem dX3_markOfPardon_17 : decode cX3_markOfPardon 17 = .ok (.iconst 2, 1) := by decide +kernel
theorem dX3_markOfPardon_18 : decode cX3_markOfPardon 18 = .ok (.imul, 1) := by decide +kernel
theorem dX3_markOfPardon_19 : decode cX3_markOfPardon 19 = .ok (.ireturn, 1) := by decide +kernel
theorem dX3_markOfHunt_0 : decode cX3_markOfHunt 0 = .ok (.aload_n 0, 1) := by decide +kernel
theorem dX3_markOfHunt_1 : decode cX3_markOfHunt 1 = .ok (.dup, 1) := by decide +kernel
theorem dX3_markOfHunt_2 : decode cX3_markOfHunt 2 = .ok (.getfield 54, 3) := by decide +kernel
theorem dX3_markOfHunt_5 : decode cX3_markOfHunt 5 = .ok (.ldc2_w 251, 3) := by decide +kernel
theorem dX3_markOfHunt_8 : decode cX3_markOfHunt 8 = .ok (.ladd, 1) := by decide +kernel
theorem dX3_markOfHunt_9 : decode cX3_markOfHunt 9 = .ok (.putfield 54, 3) := by decide +kernel
theorem dX3_markOfHunt_12 : decode cX3_markOfHunt 12 = .ok (.aload_n 0, 1) := by decide +kernel
theorem dX3_markOfHunt_13 : decode cX3_markOfHunt 13 = .ok (.iload_n 1, 1) := by decide +kernel
theorem dX3_markOfHunt_14 : decode cX3_markOfHunt 14 = .ok (.invokevirtual 201, 3) := by decide +kernel
theorem dX3_markOfHunt_17 : decode cX3_markOfHunt 17 = .ok (.aload_n 0, 1) := by decide +kernel
theorem dX3_markOfHunt_18 : decode cX3_markOfHunt 18 = .ok (.getfield 29, 3) := by decide +kernel
theorem dX3_markOfHunt_21 : decode cX3_markOfHunt 21 = .ok (.getfield 139, 3) := by decide +kernel
theorem dX3_markOfHunt_24 : decode cX3_markOfHunt 24 = .ok (.iadd, 1) := by decide +kernel
theorem dX3_markOfHunt_25 : decode cX3_markOfHunt 25 = .ok (.ireturn, 1) := by decide +kernel
theorem dX3_markOfBreath_0 : decode cX3_markOfBreath 0 = .ok (.aload_n 0, 1) := by decide +kernel
theorem dX3_markOfBreath_1 : decode cX3_markOfBreath 1 = .ok (.dup, 1) := by decide +kernel
theorem dX3_markOfBreath_2 : decode cX3_markOfBreath 2 = .ok (.getfield 54, 3) := by decide +kernel
theorem dX3_markOfBreath_5 : decode cX3_markOfBreath 5 = .ok (.ldc2_w 253, 3) := by decide +kernel
theorem dX3_markOfBreath_8 : decode cX3_markOfBreath 8 = .ok (.ladd, 1) := by decide +kernel
theorem dX3_markOfBreath_9 : decode cX3_markOfBreath 9 = .ok (.putfield 54, 3) := by decide +kernel
theorem dX3_markOfBreath_12 : decode cX3_markOfBreath 12 = .ok (.aload_n 0, 1) := by decide +kernel
theorem dX3_markOfBreath_13 : decode cX3_markOfBreath 13 = .ok (.iload_n 1, 1) := by decide +kernel
theorem dX3_markOfBreath_14 : decode cX3_markOfBreath 14 = .ok (.invokevirtual 195, 3) := by decide +kernel
theorem dX3_markOfBreath_17 : decode cX3_markOfBreath 17 = .ok (.aload_n 0, 1) := by decide +kernel
theorem dX3_markOfBreath_18 : decode cX3_markOfBreath 18 = .ok (.getfield 29, 3) := by decide +kernel
theorem dX3_markOfBreath_21 : decode cX3_markOfBreath 21 = .ok (.getfield 142, 3) := by decide +kernel
theorem dX3_markOfBreath_24 : decode cX3_markOfBreath 24 = .ok (.iadd, 1) := by decide +kernel
theorem dX3_markOfBreath_25 : decode cX3_markOfBreath 25 = .ok (.ireturn, 1) := by decide +kernel
end
section
theorem dX4_init_0 : decode cX4_init 0 = .ok (.aload_n 0, 1) := by decide +kernel
theorem dX4_init_1 : decode cX4_init 1 = .ok (.invokespecial 1, 3) := by decide +kernel
theorem dX4_init_4 : decode cX4_init 4 = .ok (.aload_n 0, 1) := by decide +kernel
theorem dX4_init_5 : decode cX4_init 5 = .ok (.sipush 150, 3) := by decide +kernel
theorem dX4_init_8 : decode cX4_init 8 = .ok (.newarray .byte, 2) := by decide +kernel
theorem dX4_init_10 : decode cX4_init 10 = .ok (.putfield 7, 3) := by decide +kernel
theorem dX4_init_13 : decode cX4_init 13 = .ok (.aload_n 0, 1) := by decide +kernel
theorem dX4_init_14 : decode cX4_init 14 = .ok (.iconst 2, 1) := by decide +kernel
theorem dX4_init_15 : decode cX4_init 15 = .ok (.newarray .int, 2) := by decide +kernel
theorem dX4_init_17 : decode cX4_init 17 = .ok (.putfield 13, 3) := by decide +kernel
theorem dX4_init_20 : decode cX4_init 20 = .ok (.aload_n 0, 1) := by decide +kernel
theorem dX4_init_21 : decode cX4_init 21 = .ok (.bipush 6, 2) := by decide +kernel
theorem dX4_init_23 : decode cX4_init 23 = .ok (.newarray .int, 2) := by decide +kernel
theorem dX4_init_25 : decode cX4_init 25 = .ok (.putfield 17, 3) := by decide +kernel
theorem dX4_init_28 : decode cX4_init 28 = .ok (.aload_n 0, 1) := by decide +kernel
theorem dX4_init_29 : decode cX4_init 29 = .ok (.bipush 6, 2) := by decide +kernel
theorem dX4_init_31 : decode cX4_init 31 = .ok (.newarray .int, 2) := by decide +kernel
theorem dX4_init_33 : decode cX4_init 33 = .ok (.putfield 20, 3) := by decide +kernel
theorem dX4_init_36 : decode cX4_init 36 = .ok (.aload_n 0, 1) := by decide +kernel
theorem dX4_init_37 : decode cX4_init 37 = .ok (.bipush 12, 2) := by decide +kernel
theorem dX4_init_39 : decode cX4_init 39 = .ok (.newarray .int, 2) := by decide +kernel
theorem dX4_init_41 : decode cX4_init 41 = .ok (.putfield 23, 3) := by decide +kernel
theorem dX4_init_44 : decode cX4_init 44 = .ok (.aload_n 0, 1) := by decide +kernel
theorem dX4_init_45 : decode cX4_init 45 = .ok (.iconst 2, 1) := by decide +kernel
theorem dX4_init_46 : decode cX4_init 46 = .ok (.newarray .int, 2) := by decide +kernel
theorem dX4_init_48 : decode cX4_init 48 = .ok (.putfield 26, 3) := by decide +kernel
theorem dX4_init_51 : decode cX4_init 51 = .ok (.aload_n 0, 1) := by decide +kernel
theorem dX4_init_52 : decode cX4_init 52 = .ok (.bipush 10, 2) := by decide +kernel
theorem dX4_init_54 : decode cX4_init 54 = .ok (.newarray .int, 2) := by decide +kernel
theorem dX4_init_56 : decode cX4_init 56 = .ok (.putfield 29, 3) := by decide +kernel
theorem dX4_init_59 : decode cX4_init 59 = .ok (.aload_n 0, 1) := by decide +kernel
theorem dX4_init_60 : decode cX4_init 60 = .ok (.bipush 60, 2) := by decide +kernel
theorem dX4_init_62 : decode cX4_init 62 = .ok (.newarray .int, 2) := by decide +kernel
theorem dX4_init_64 : decode cX4_init 64 = .ok (.putfield 32, 3) := by decide +kernel
theorem dX4_init_67 : decode cX4_init 67 = .ok (.aload_n 0, 1) := by decide +kernel
theorem dX4_init_68 : decode cX4_init 68 = .ok (.sipush 729, 3) := by decide +kernel
theorem dX4_init_71 : decode cX4_init 71 = .ok (.newarray .int, 2) := by decide +kernel
theorem dX4_init_73 : decode cX4_init 73 = .ok (.putfield 35, 3) := by decide +kernel
theorem dX4_init_76 : decode cX4_init 76 = .ok (.aload_n 0, 1) := by decide +kernel
theorem dX4_init_77 : decode cX4_init 77 = .ok (.iconst 2, 1) := by decide +kernel
theorem dX4_init_78 : decode cX4_init 78 = .ok (.newarray .boolean, 2) := by decide +kernel
theorem dX4_init_80 : decode cX4_init 80 = .ok (.putfield 38, 3) := by decide +kernel
theorem dX4_init_83 : decode cX4_init 83 = .ok (.aload_n 0, 1) := by decide +kernel
theorem dX4_init_84 : decode cX4_init 84 = .ok (.bipush 6, 2) := by decide +kernel
theorem dX4_init_86 : decode cX4_init 86 = .ok (.newarray .int, 2) := by decide +kernel
theorem dX4_init_88 : decode cX4_init 88 = .ok (.putfield 42, 3) := by decide +kernel
theorem dX4_init_91 : decode cX4_init 91 = .ok (.aload_n 0, 1) := by decide +kernel
theorem dX4_init_92 : decode cX4_init 92 = .ok (.bipush 6, 2) := by decide +kernel
theorem dX4_init_94 : decode cX4_init 94 = .ok (.newarray .int, 2) := by decide +kernel
theorem dX4_init_96 : decode cX4_init 96 = .ok (.putfield 45, 3) := by decide +kernel
theorem dX4_init_99 : decode cX4_init 99 = .ok (.aload_n 0, 1) := by decide +kernel
theorem dX4_init_100 : decode cX4_init 100 = .ok (.bipush 6, 2) := by decide +kernel
theorem dX4_init_102 : decode cX4_init 102 = .ok (.newarray .int, 2) := by decide +kernel
theorem dX4_init_104 : decode cX4_init 104 = .ok (.putfield 48, 3) := by decide +kernel
theorem dX4_init_107 : decode cX4_init 107 = .ok (.aload_n 0, 1) := by decide +kernel
theorem dX4_init_108 : decode cX4_init 108 = .ok (.invokevirtual 51, 3) := by decide +kernel
theorem dX4_init_111 : decode cX4_init 111 = .ok (.aload_n 0, 1) := by decide +kernel
theorem dX4_init_112 : decode cX4_init 112 = .ok (.invokevirtual 54, 3) := by decide +kernel
theorem dX4_init_115 : decode cX4_init 115 = .ok (.return_, 1) := by decide +kernel
theorem dX4_in_0 : decode cX4_in 0 = .ok (.iload_n 0, 1) := by decide +kernel
theorem dX4_in_1 : decode cX4_in 1 = .ok (.iload_n 1, 1) := by decide +kernel
theorem dX4_in_2 : decode cX4_in 2 = .ok (.if_icmp .lt 12, 3) := by decide +kernel
theorem dX4_in_5 : decode cX4_in 5 = .ok (.iload_n 0, 1) := by decide +kernel
theorem dX4_in_6 : decode cX4_in 6 = .ok (.iload_n 2, 1) := by decide +kernel
theorem dX4_in_7 : decode cX4_in 7 = .ok (.if_icmp .gt 7, 3) := by decide +kernel
theorem dX4_in_10 : decode cX4_in 10 = .ok (.iconst 1, 1) := by decide +kernel
theorem dX4_in_11 : decode cX4_in 11 = .ok (.goto 4, 3) := by decide +kernel
theorem dX4_in_14 : decode cX4_in 14 = .ok (.iconst 0, 1) := by decide +kernel
theorem dX4_in_15 : decode cX4_in 15 = .ok (.ireturn, 1) := by decide +kernel
theorem dX4_type_0 : decode cX4_type 0 = .ok (.iload_n 1, 1) := by decide +kernel
theorem dX4_type_1 : decode cX4_type 1 = .ok (.iconst 0, 1) := by decide +kernel
theorem dX4_type_2 : decode cX4_type 2 = .ok (.sipush 255, 3) := by decide +kernel
theorem dX4_type_5 : decode cX4_type 5 = .ok (.invokestatic 57, 3) := by decide +kernel
theorem dX4_type_8 : decode cX4_type 8 = .ok (.ifCond .ne 5, 3) := by decide +kernel
theorem dX4_type_11 : decode cX4_type 11 = .ok (.iconst (-1), 1) := by decide +kernel
theorem dX4_type_12 : decode cX4_type 12 = .ok (.ireturn, 1) := by decide +kernel
theorem dX4_type_13 : decode cX4_type 13 = .ok (.aload_n 0, 1) := by decide +kernel
theorem dX4_type_14 : decode cX4_type 14 = .ok (.getfield 61, 3) := by decide +kernel
theorem dX4_type_17 : decode cX4_type 17 = .ok (.sipush 150, 3) := by decide +kernel
theorem dX4_type_20 : decode cX4_type 20 = .ok (.if_icmp .ne 6, 3) := by decide +kernel
theorem dX4_type_23 : decode cX4_type 23 = .ok (.bipush (-3), 2) := by decide +kernel
theorem dX4_type_25 : decode cX4_type 25 = .ok (.ireturn, 1) := by decide +kernel
theorem dX4_type_26 : decode cX4_type 26 = .ok (.aload_n 0, 1) := by decide +kernel
theorem dX4_type_27 : decode cX4_type 27 = .ok (.getfield 7, 3) := by decide +kernel
theorem dX4_type_30 : decode cX4_type 30 = .ok (.aload_n 0, 1) := by decide +kernel
theorem dX4_type_31 : decode cX4_type 31 = .ok (.getfield 61, 3) := by decide +kernel
theorem dX4_type_34 : decode cX4_type 34 = .ok (.iload_n 1, 1) := by decide +kernel
theorem dX4_type_35 : decode cX4_type 35 = .ok (.i2b, 1) := by decide +kernel
theorem dX4_type_36 : decode cX4_type 36 = .ok (.bastore, 1) := by decide +kernel
theorem dX4_type_37 : decode cX4_type 37 = .ok (.aload_n 0, 1) := by decide +kernel
theorem dX4_type_38 : decode cX4_type 38 = .ok (.dup, 1) := by decide +kernel
theorem dX4_type_39 : decode cX4_type 39 = .ok (.getfield 61, 3) := by decide +kernel
theorem dX4_type_42 : decode cX4_type 42 = .ok (.iconst 1, 1) := by decide +kernel
theorem dX4_type_43 : decode cX4_type 43 = .ok (.iadd, 1) := by decide +kernel
theorem dX4_type_44 : decode cX4_type 44 = .ok (.putfield 61, 3) := by decide +kernel
theorem dX4_type_47 : decode cX4_type 47 = .ok (.aload_n 0, 1) := by decide +kernel
theorem dX4_type_48 : decode cX4_type 48 = .ok (.getfield 61, 3) := by decide +kernel
theorem dX4_type_51 : decode cX4_type 51 = .ok (.ireturn, 1) := by decide +kernel
theorem dX4_clear_0 : decode cX4_clear 0 = .ok (.aload_n 0, 1) := by decide +kernel
theorem dX4_clear_1 : decode cX4_clear 1 = .ok (.getfield 61, 3) := by decide +kernel
theorem dX4_clear_4 : decode cX4_clear 4 = .ok (.istore_n 1, 1) := by decide +kernel
theorem dX4_clear_5 : decode cX4_clear 5 = .ok (.aload_n 0, 1) := by decide +kernel
theorem dX4_clear_6 : decode cX4_clear 6 = .ok (.iconst 0, 1) := by decide +kernel
theorem dX4_clear_7 : decode cX4_clear 7 = .ok (.putfield 61, 3) := by decide +kernel
theorem dX4_clear_10 : decode cX4_clear 10 = .ok (.iload_n 1, 1) := by decide +kernel
theorem dX4_clear_11 : decode cX4_clear 11 = .ok (.ireturn, 1) := by decide +kernel
theorem dX4_here_0 : decode cX4_here 0 = .ok (.aload_n 0, 1) := by decide +kernel
theorem dX4_here_1 : decode cX4_here 1 = .ok (.getfield 65, 3) := by decide +kernel
theorem dX4_here_4 : decode cX4_here 4 = .ok (.aload_n 0, 1) := by decide +kernel
theorem dX4_here_5 : decode cX4_here 5 = .ok (.getfield 61, 3) := by decide +kernel
theorem dX4_here_8 : decode cX4_here 8 = .ok (.if_icmp .ge 19, 3) := by decide +kernel
theorem dX4_here_11 : decode cX4_here 11 = .ok (.aload_n 0, 1) := by decide +kernel
theorem dX4_here_12 : decode cX4_here 12 = .ok (.getfield 7, 3) := by decide +kernel
theorem dX4_here_15 : decode cX4_here 15 = .ok (.aload_n 0, 1) := by decide +kernel
theorem dX4_here_16 : decode cX4_here 16 = .ok (.getfield 65, 3) := by decide +kernel
theorem dX4_here_19 : decode cX4_here 19 = .ok (.baload, 1) := by decide +kernel
theorem dX4_here_20 : decode cX4_here 20 = .ok (.sipush 255, 3) := by decide +kernel
theorem dX4_here_23 : decode cX4_here 23 = .ok (.iand, 1) := by decide +kernel
theorem dX4_here_24 : decode cX4_here 24 = .ok (.goto 4, 3) := by decide +kernel
theorem dX4_here_27 : decode cX4_here 27 = .ok (.iconst (-1), 1) := by decide +kernel
theorem dX4_here_28 : decode cX4_here 28 = .ok (.ireturn, 1) := by decide +kernel
theorem dX4_step_0 : decode cX4_step 0 = .ok (.aload_n 0, 1) := by decide +kernel
theorem dX4_step_1 : decode cX4_step 1 = .ok (.invokevirtual 68, 3) := by decide +kernel
theorem dX4_step_4 : decode cX4_step 4 = .ok (.bipush 32, 2) := by decide +kernel
theorem dX4_step_6 : decode cX4_step 6 = .ok (.if_icmp .ne 16, 3) := by decide +kernel
theorem dX4_step_9 : decode cX4_step 9 = .ok (.aload_n 0, 1) := by decide +kernel
theorem dX4_step_10 : decode cX4_step 10 = .ok (.dup, 1) := by decide +kernel
theorem dX4_step_11 : decode cX4_step 11 = .ok (.getfield 65, 3) := by decide +kernel
theorem dX4_step_14 : decode cX4_step 14 = .ok (.iconst 1, 1) := by decide +kernel
theorem dX4_step_15 : decode cX4_step 15 = .ok (.iadd, 1) := by decide +kernel
theorem dX4_step_16 : decode cX4_step 16 = .ok (.putfield 65, 3) := by decide +kernel
theorem dX4_step_19 : decode cX4_step 19 = .ok (.goto (-19), 3) := by decide +kernel
theorem dX4_step_22 : decode cX4_step 22 = .ok (.aload_n 0, 1) := by decide +kernel
theorem dX4_step_23 : decode cX4_step 23 = .ok (.aload_n 0, 1) := by decide +kernel
theorem dX4_step_24 : decode cX4_step 24 = .ok (.getfield 65, 3) := by decide +kernel
theorem dX4_step_27 : decode cX4_step 27 = .ok (.putfield 72, 3) := by decide +kernel
theorem dX4_step_30 : decode cX4_step 30 = .ok (.aload_n 0, 1) := by decide +kernel
theorem dX4_step_31 : decode cX4_step 31 = .ok (.iconst 0, 1) := by decide +kernel
theorem dX4_step_32 : decode cX4_step 32 = .ok (.putfield 75, 3) := by decide +kernel
theorem dX4_step_35 : decode cX4_step 35 = .ok (.aload_n 0, 1) := by decide +kernel
theorem dX4_step_36 : decode cX4_step 36 = .ok (.invokevirtual 68, 3) := by decide +kernel
theorem dX4_step_39 : decode cX4_step 39 = .ok (.istore_n 1, 1) := by decide +kernel
theorem dX4_step_40 : decode cX4_step 40 = .ok (.iload_n 1, 1) := by decide +kernel
theorem dX4_step_41 : decode cX4_step 41 = .ok (.ifCond .ge 11, 3) := by decide +kernel
theorem dX4_step_44 : decode cX4_step 44 = .ok (.aload_n 0, 1) := by decide +kernel
theorem dX4_step_45 : decode cX4_step 45 = .ok (.iconst 3, 1) := by decide +kernel
theorem dX4_step_46 : decode cX4_step 46 = .ok (.putfield 78, 3) := by decide +kernel
theorem dX4_step_49 : decode cX4_step 49 = .ok (.goto 204, 3) := by decide +kernel
theorem dX4_step_52 : decode cX4_step 52 = .ok (.iload_n 1, 1) := by decide +kernel
theorem dX4_step_53 : decode cX4_step 53 = .ok (.bipush 97, 2) := by decide +kernel
theorem dX4_step_55 : decode cX4_step 55 = .ok (.bipush 122, 2) := by decide +kernel
theorem dX4_step_57 : decode cX4_step 57 = .ok (.invokestatic 57, 3) := by decide +kernel
theorem dX4_step_60 : decode cX4_step 60 = .ok (.ifCond .eq 55, 3) := by decide +kernel
theorem dX4_step_63 : decode cX4_step 63 = .ok (.aload_n 0, 1) := by decide +kernel
theorem dX4_step_64 : decode cX4_step 64 = .ok (.invokevirtual 68, 3) := by decide +kernel
theorem dX4_step_67 : decode cX4_step 67 = .ok (.bipush 97, 2) := by decide +kernel
theorem dX4_step_69 : decode cX4_step 69 = .ok (.bipush 122, 2) := by decide +kernel
theorem dX4_step_71 : decode cX4_step 71 = .ok (.invokestatic 57, 3) := by decide +kernel
theorem dX4_step_74 : decode cX4_step 74 = .ok (.ifCond .eq 16, 3) := by decide +kernel
theorem dX4_step_77 : decode cX4_step 77 = .ok (.aload_n 0, 1) := by decide +kernel
theorem dX4_step_78 : decode cX4_step 78 = .ok (.dup, 1) := by decide +kernel
theorem dX4_step_79 : decode cX4_step 79 = .ok (.getfield 65, 3) := by decide +kernel
theorem dX4_step_82 : decode cX4_step 82 = .ok (.iconst 1, 1) := by decide +kernel
theorem dX4_step_83 : decode cX4_step 83 = .ok (.iadd, 1) := by decide +kernel
theorem dX4_step_84 : decode cX4_step 84 = .ok (.putfield 65, 3) := by decide +kernel
theorem dX4_step_87 : decode cX4_step 87 = .ok (.goto (-24), 3) := by decide +kernel
theorem dX4_step_90 : decode cX4_step 90 = .ok (.aload_n 0, 1) := by decide +kernel
theorem dX4_step_91 : decode cX4_step 91 = .ok (.aload_n 0, 1) := by decide +kernel
theorem dX4_step_92 : decode cX4_step 92 = .ok (.getfield 65, 3) := by decide +kernel
theorem dX4_step_95 : decode cX4_step 95 = .ok (.aload_n 0, 1) := by decide +kernel
theorem dX4_step_96 : decode cX4_step 96 = .ok (.getfield 72, 3) := by decide +kernel
theorem dX4_step_99 : decode cX4_step 99 = .ok (.isub, 1) := by decide +kernel
theorem dX4_step_100 : decode cX4_step 100 = .ok (.iconst 1, 1) := by decide +kernel
theorem dX4_step_101 : decode cX4_step 101 = .ok (.if_icmp .ne 7, 3) := by decide +kernel
theorem dX4_step_104 : decode cX4_step 104 = .ok (.iload_n 1, 1) := by decide +kernel
theorem dX4_step_105 : decode cX4_step 105 = .ok (.goto 4, 3) := by decide +kernel
theorem dX4_step_108 : decode cX4_step 108 = .ok (.iconst 4, 1) := by decide +kernel
theorem dX4_step_109 : decode cX4_step 109 = .ok (.putfield 78, 3) := by decide +kernel
theorem dX4_step_112 : decode cX4_step 112 = .ok (.goto 141, 3) := by decide +kernel
theorem dX4_step_115 : decode cX4_step 115 = .ok (.iload_n 1, 1) := by decide +kernel
theorem dX4_step_116 : decode cX4_step 116 = .ok (.bipush 48, 2) := by decide +kernel
theorem dX4_step_118 : decode cX4_step 118 = .ok (.bipush 57, 2) := by decide +kernel
theorem dX4_step_120 : decode cX4_step 120 = .ok (.invokestatic 57, 3) := by decide +kernel
theorem dX4_step_123 : decode cX4_step 123 = .ok (.ifCond .eq 105, 3) := by decide +kernel
theorem dX4_step_126 : decode cX4_step 126 = .ok (.aload_n 0, 1) := by decide +kernel
theorem dX4_step_127 : decode cX4_step 127 = .ok (.invokevirtual 68, 3) := by decide +kernel
theorem dX4_step_130 : decode cX4_step 130 = .ok (.bipush 48, 2) := by decide +kernel
theorem dX4_step_132 : decode cX4_step 132 = .ok (.bipush 57, 2) := by decide +kernel
theorem dX4_step_134 : decode cX4_step 134 = .ok (.invokestatic 57, 3) := by decide +kernel
theorem dX4_step_137 : decode cX4_step 137 = .ok (.ifCond .eq 51, 3) := by decide +kernel
theorem dX4_step_140 : decode cX4_step 140 = .ok (.aload_n 0, 1) := by decide +kernel
theorem dX4_step_141 : decode cX4_step 141 = .ok (.aload_n 0, 1) := by decide +kernel
theorem dX4_step_142 : decode cX4_step 142 = .ok (.getfield 75, 3) := by decide +kernel
theorem dX4_step_145 : decode cX4_step 145 = .ok (.bipush 99, 2) := by decide +kernel
theorem dX4_step_147 : decode cX4_step 147 = .ok (.if_icmp .le 10, 3) := by decide +kernel
theorem dX4_step_150 : decode cX4_step 150 = .ok (.aload_n 0, 1) := by decide +kernel
theorem dX4_step_151 : decode cX4_step 151 = .ok (.getfield 75, 3) := by decide +kernel
theorem dX4_step_154 : decode cX4_step 154 = .ok (.goto 18, 3) := by decide +kernel
theorem dX4_step_157 : decode cX4_step 157 = .ok (.bipush 10, 2) := by decide +kernel
theorem dX4_step_159 : decode cX4_step 159 = .ok (.aload_n 0, 1) := by decide +kernel
theorem dX4_step_160 : decode cX4_step 160 = .ok (.getfield 75, 3) := by decide +kernel
theorem dX4_step_163 : decode cX4_step 163 = .ok (.imul, 1) := by decide +kernel
theorem dX4_step_164 : decode cX4_step 164 = .ok (.aload_n 0, 1) := by decide +kernel
theorem dX4_step_165 : decode cX4_step 165 = .ok (.invokevirtual 68, 3) := by decide +kernel
theorem dX4_step_168 : decode cX4_step 168 = .ok (.iadd, 1) := by decide +kernel
theorem dX4_step_169 : decode cX4_step 169 = .ok (.bipush 48, 2) := by decide +kernel
theorem dX4_step_171 : decode cX4_step 171 = .ok (.isub, 1) := by decide +kernel
theorem dX4_step_172 : decode cX4_step 172 = .ok (.putfield 75, 3) := by decide +kernel
theorem dX4_step_175 : decode cX4_step 175 = .ok (.aload_n 0, 1) := by decide +kernel
theorem dX4_step_176 : decode cX4_step 176 = .ok (.dup, 1) := by decide +kernel
theorem dX4_step_177 : decode cX4_step 177 = .ok (.getfield 65, 3) := by decide +kernel
theorem dX4_step_180 : decode cX4_step 180 = .ok (.iconst 1, 1) := by decide +kernel
theorem dX4_step_181 : decode cX4_step 181 = .ok (.iadd, 1) := by decide +kernel
theorem dX4_step_182 : decode cX4_step 182 = .ok (.putfield 65, 3) := by decide +kernel
theorem dX4_step_185 : decode cX4_step 185 = .ok (.goto (-59), 3) := by decide +kernel
theorem dX4_step_188 : decode cX4_step 188 = .ok (.aload_n 0, 1) := by decide +kernel
theorem dX4_step_189 : decode cX4_step 189 = .ok (.aload_n 0, 1) := by decide +kernel
theorem dX4_step_190 : decode cX4_step 190 = .ok (.getfield 75, 3) := by decide +kernel
theorem dX4_step_193 : decode cX4_step 193 = .ok (.bipush 99, 2) := by decide +kernel
theorem dX4_step_195 : decode cX4_step 195 = .ok (.if_icmp .gt 22, 3) := by decide +kernel
theorem dX4_step_198 : decode cX4_step 198 = .ok (.iload_n 1, 1) := by decide +kernel
theorem dX4_step_199 : decode cX4_step 199 = .ok (.bipush 48, 2) := by decide +kernel
theorem dX4_step_201 : decode cX4_step 201 = .ok (.if_icmp .ne 20, 3) := by decide +kernel
theorem dX4_step_204 : decode cX4_step 204 = .ok (.aload_n 0, 1) := by decide +kernel
theorem dX4_step_205 : decode cX4_step 205 = .ok (.getfield 65, 3) := by decide +kernel
theorem dX4_step_208 : decode cX4_step 208 = .ok (.aload_n 0, 1) := by decide +kernel
theorem dX4_step_209 : decode cX4_step 209 = .ok (.getfield 72, 3) := by decide +kernel
theorem dX4_step_212 : decode cX4_step 212 = .ok (.isub, 1) := by decide +kernel
theorem dX4_step_213 : decode cX4_step 213 = .ok (.iconst 1, 1) := by decide +kernel
theorem dX4_step_214 : decode cX4_step 214 = .ok (.if_icmp .le 7, 3) := by decide +kernel
theorem dX4_step_217 : decode cX4_step 217 = .ok (.iconst 4, 1) := by decide +kernel
theorem dX4_step_218 : decode cX4_step 218 = .ok (.goto 4, 3) := by decide +kernel
theorem dX4_step_221 : decode cX4_step 221 = .ok (.iconst 1, 1) := by decide +kernel
theorem dX4_step_222 : decode cX4_step 222 = .ok (.putfield 78, 3) := by decide +kernel
theorem dX4_step_225 : decode cX4_step 225 = .ok (.goto 28, 3) := by decide +kernel
theorem dX4_step_228 : decode cX4_step 228 = .ok (.aload_n 0, 1) := by decide +kernel
theorem dX4_step_229 : decode cX4_step 229 = .ok (.dup, 1) := by decide +kernel
theorem dX4_step_230 : decode cX4_step 230 = .ok (.getfield 65, 3) := by decide +kernel
theorem dX4_step_233 : decode cX4_step 233 = .ok (.iconst 1, 1) := by decide +kernel
theorem dX4_step_234 : decode cX4_step 234 = .ok (.iadd, 1) := by decide +kernel
theorem dX4_step_235 : decode cX4_step 235 = .ok (.putfield 65, 3) := by decide +kernel
theorem dX4_step_238 : decode cX4_step 238 = .ok (.aload_n 0, 1) := by decide +kernel
theorem dX4_step_239 : decode cX4_step 239 = .ok (.iload_n 1, 1) := by decide +kernel
theorem dX4_step_240 : decode cX4_step 240 = .ok (.bipush 59, 2) := by decide +kernel
theorem dX4_step_242 : decode cX4_step 242 = .ok (.if_icmp .ne 7, 3) := by decide +kernel
theorem dX4_step_245 : decode cX4_step 245 = .ok (.iconst 2, 1) := by decide +kernel
theorem dX4_step_246 : decode cX4_step 246 = .ok (.goto 4, 3) := by decide +kernel
theorem dX4_step_249 : decode cX4_step 249 = .ok (.iconst 4, 1) := by decide +kernel
theorem dX4_step_250 : decode cX4_step 250 = .ok (.putfield 78, 3) := by decide +kernel
theorem dX4_step_253 : decode cX4_step 253 = .ok (.return_, 1) := by decide +kernel
theorem dX4_due_0 : decode cX4_due 0 = .ok (.aload_n 0, 1) := by decide +kernel
theorem dX4_due_1 : decode cX4_due 1 = .ok (.getfield 75, 3) := by decide +kernel
theorem dX4_due_4 : decode cX4_due 4 = .ok (.istore_n 2, 1) := by decide +kernel
theorem dX4_due_5 : decode cX4_due 5 = .ok (.aload_n 0, 1) := by decide +kernel
theorem dX4_due_6 : decode cX4_due 6 = .ok (.getfield 81, 3) := by decide +kernel
theorem dX4_due_9 : decode cX4_due 9 = .ok (.bipush (-9), 2) := by decide +kernel
theorem dX4_due_11 : decode cX4_due 11 = .ok (.if_icmp .ne 22, 3) := by decide +kernel
theorem dX4_due_14 : decode cX4_due 14 = .ok (.iload_n 1, 1) := by decide +kernel
theorem dX4_due_15 : decode cX4_due 15 = .ok (.ifCond .eq 10, 3) := by decide +kernel
theorem dX4_due_18 : decode cX4_due 18 = .ok (.aload_n 0, 1) := by decide +kernel
theorem dX4_due_19 : decode cX4_due 19 = .ok (.invokevirtual 84, 3) := by decide +kernel
theorem dX4_due_22 : decode cX4_due 22 = .ok (.goto 11, 3) := by decide +kernel
theorem dX4_due_25 : decode cX4_due 25 = .ok (.aload_n 0, 1) := by decide +kernel
theorem dX4_due_26 : decode cX4_due 26 = .ok (.aload_n 0, 1) := by decide +kernel
theorem dX4_due_27 : decode cX4_due 27 = .ok (.getfield 72, 3) := by decide +kernel
theorem dX4_due_30 : decode cX4_due 30 = .ok (.putfield 81, 3) := by decide +kernel
theorem dX4_due_33 : decode cX4_due 33 = .ok (.iload_n 2, 1) := by decide +kernel
theorem dX4_due_34 : decode cX4_due 34 = .ok (.ireturn, 1) := by decide +kernel
theorem dX4_number_0 : decode cX4_number 0 = .ok (.aload_n 0, 1) := by decide +kernel
theorem dX4_number_1 : decode cX4_number 1 = .ok (.aload_n 0, 1) := by decide +kernel
theorem dX4_number_2 : decode cX4_number 2 = .ok (.getfield 78, 3) := by decide +kernel
theorem dX4_number_5 : decode cX4_number 5 = .ok (.iconst 1, 1) := by decide +kernel
theorem dX4_number_6 : decode cX4_number 6 = .ok (.if_icmp .ne 19, 3) := by decide +kernel
theorem dX4_number_9 : decode cX4_number 9 = .ok (.aload_n 0, 1) := by decide +kernel
theorem dX4_number_10 : decode cX4_number 10 = .ok (.getfield 75, 3) := by decide +kernel
theorem dX4_number_13 : decode cX4_number 13 = .ok (.iload_n 1, 1) := by decide +kernel
theorem dX4_number_14 : decode cX4_number 14 = .ok (.iload_n 2, 1) := by decide +kernel
theorem dX4_number_15 : decode cX4_number 15 = .ok (.invokestatic 57, 3) := by decide +kernel
theorem dX4_number_18 : decode cX4_number 18 = .ok (.ifCond .eq 7, 3) := by decide +kernel
theorem dX4_number_21 : decode cX4_number 21 = .ok (.iconst 1, 1) := by decide +kernel
theorem dX4_number_22 : decode cX4_number 22 = .ok (.goto 4, 3) := by decide +kernel
theorem dX4_number_25 : decode cX4_number 25 = .ok (.iconst 0, 1) := by decide +kernel
theorem dX4_number_26 : decode cX4_number 26 = .ok (.invokevirtual 87, 3) := by decide +kernel
theorem dX4_number_29 : decode cX4_number 29 = .ok (.ireturn, 1) := by decide +kernel
theorem dX4_mayBe_0 : decode cX4_mayBe 0 = .ok (.iload_n 1, 1) := by decide +kernel
theorem dX4_mayBe_1 : decode cX4_mayBe 1 = .ok (.lookupswitch 70 #[(97, 52), (100, 35), (120, 68)], 35) := by decide +kernel
theorem dX4_mayBe_36 : decode cX4_mayBe 36 = .ok (.aload_n 0, 1) := by decide +kernel
theorem dX4_mayBe_37 : decode cX4_mayBe 37 = .ok (.getfield 13, 3) := by decide +kernel
theorem dX4_mayBe_40 : decode cX4_mayBe 40 = .ok (.iconst 1, 1) := by decide +kernel
theorem dX4_mayBe_41 : decode cX4_mayBe 41 = .ok (.iaload, 1) := by decide +kernel
theorem dX4_mayBe_42 : decode cX4_mayBe 42 = .ok (.bipush 6, 2) := by decide +kernel
theorem dX4_mayBe_44 : decode cX4_mayBe 44 = .ok (.if_icmp .ge 7, 3) := by decide +kernel
theorem dX4_mayBe_47 : decode cX4_mayBe 47 = .ok (.iconst 1, 1) := by decide +kernel
theorem dX4_mayBe_48 : decode cX4_mayBe 48 = .ok (.goto 4, 3) := by decide +kernel
theorem dX4_mayBe_51 : decode cX4_mayBe 51 = .ok (.iconst 0, 1) := by decide +kernel
theorem dX4_mayBe_52 : decode cX4_mayBe 52 = .ok (.ireturn, 1) := by decide +kernel
theorem dX4_mayBe_53 : decode cX4_mayBe 53 = .ok (.aload_n 0, 1) := by decide +kernel
theorem dX4_mayBe_54 : decode cX4_mayBe 54 = .ok (.getfield 26, 3) := by decide +kernel
theorem dX4_mayBe_57 : decode cX4_mayBe 57 = .ok (.iconst 1, 1) := by decide +kernel
theorem dX4_mayBe_58 : decode cX4_mayBe 58 = .ok (.iaload, 1) := by decide +kernel
theorem dX4_mayBe_59 : decode cX4_mayBe 59 = .ok (.iconst 5, 1) := by decide +kernel
theorem dX4_mayBe_60 : decode cX4_mayBe 60 = .ok (.if_icmp .ge 7, 3) := by decide +kernel
theorem dX4_mayBe_63 : decode cX4_mayBe 63 = .ok (.iconst 1, 1) := by decide +kernel
theorem dX4_mayBe_64 : decode cX4_mayBe 64 = .ok (.goto 4, 3) := by decide +kernel
theorem dX4_mayBe_67 : decode cX4_mayBe 67 = .ok (.iconst 0, 1) := by decide +kernel
theorem dX4_mayBe_68 : decode cX4_mayBe 68 = .ok (.ireturn, 1) := by decide +kernel
theorem dX4_mayBe_69 : decode cX4_mayBe 69 = .ok (.iconst 1, 1) := by decide +kernel
theorem dX4_mayBe_70 : decode cX4_mayBe 70 = .ok (.ireturn, 1) := by decide +kernel
theorem dX4_mayBe_71 : decode cX4_mayBe 71 = .ok (.iconst 0, 1) := by decide +kernel
theorem dX4_mayBe_72 : decode cX4_mayBe 72 = .ok (.ireturn, 1) := by decide +kernel
theorem dX4_readAct_0 : decode cX4_readAct 0 = .ok (.iconst 5, 1) := by decide +kernel
theorem dX4_readAct_1 : decode cX4_readAct 1 = .ok (.aload_n 0, 1) := by decide +kernel
theorem dX4_readAct_2 : decode cX4_readAct 2 = .ok (.getfield 26, 3) := by decide +kernel
theorem dX4_readAct_5 : decode cX4_readAct 5 = .ok (.iconst 1, 1) := by decide +kernel
theorem dX4_readAct_6 : decode cX4_readAct 6 = .ok (.iaload, 1) := by decide +kernel
theorem dX4_readAct_7 : decode cX4_readAct 7 = .ok (.iadd, 1) := by decide +kernel
theorem dX4_readAct_8 : decode cX4_readAct 8 = .ok (.istore_n 1, 1) := by decide +kernel
theorem dX4_readAct_9 : decode cX4_readAct 9 = .ok (.aload_n 0, 1) := by decide +kernel
theorem dX4_readAct_10 : decode cX4_readAct 10 = .ok (.getfield 29, 3) := by decide +kernel
theorem dX4_readAct_13 : decode cX4_readAct 13 = .ok (.iload_n 1, 1) := by decide +kernel
theorem dX4_readAct_14 : decode cX4_readAct 14 = .ok (.aload_n 0, 1) := by decide +kernel
theorem dX4_readAct_15 : decode cX4_readAct 15 = .ok (.iconst 0, 1) := by decide +kernel
theorem dX4_readAct_16 : decode cX4_readAct 16 = .ok (.bipush 99, 2) := by decide +kernel
theorem dX4_readAct_18 : decode cX4_readAct 18 = .ok (.invokevirtual 91, 3) := by decide +kernel
theorem dX4_readAct_21 : decode cX4_readAct 21 = .ok (.iastore, 1) := by decide +kernel
theorem dX4_readAct_22 : decode cX4_readAct 22 = .ok (.iconst 0, 1) := by decide +kernel
theorem dX4_readAct_23 : decode cX4_readAct 23 = .ok (.istore_n 2, 1) := by decide +kernel
theorem dX4_readAct_24 : decode cX4_readAct 24 = .ok (.iload_n 2, 1) := by decide +kernel
theorem dX4_readAct_25 : decode cX4_readAct 25 = .ok (.bipush 6, 2) := by decide +kernel
theorem dX4_readAct_27 : decode cX4_readAct 27 = .ok (.if_icmp .ge 21, 3) := by decide +kernel
theorem dX4_readAct_30 : decode cX4_readAct 30 = .ok (.aload_n 0, 1) := by decide +kernel
theorem dX4_readAct_31 : decode cX4_readAct 31 = .ok (.getfield 32, 3) := by decide +kernel
theorem dX4_readAct_34 : decode cX4_readAct 34 = .ok (.bipush 6, 2) := by decide +kernel
theorem dX4_readAct_36 : decode cX4_readAct 36 = .ok (.iload_n 1, 1) := by decide +kernel
theorem dX4_readAct_37 : decode cX4_readAct 37 = .ok (.imul, 1) := by decide +kernel
theorem dX4_readAct_38 : decode cX4_readAct 38 = .ok (.iload_n 2, 1) := by decide +kernel
theorem dX4_readAct_39 : decode cX4_readAct 39 = .ok (.iadd, 1) := by decide +kernel
theorem dX4_readAct_40 : decode cX4_readAct 40 = .ok (.iconst 0, 1) := by decide +kernel
theorem dX4_readAct_41 : decode cX4_readAct 41 = .ok (.iastore, 1) := by decide +kernel
theorem dX4_readAct_42 : decode cX4_readAct 42 = .ok (.iinc 2 1, 3) := by decide +kernel
theorem dX4_readAct_45 : decode cX4_readAct 45 = .ok (.goto (-21), 3) := by decide +kernel
theorem dX4_readAct_48 : decode cX4_readAct 48 = .ok (.iconst 0, 1) := by decide +kernel
theorem dX4_readAct_49 : decode cX4_readAct 49 = .ok (.istore_n 2, 1) := by decide +kernel
theorem dX4_readAct_50 : decode cX4_readAct 50 = .ok (.iload_n 2, 1) := by decide +kernel
theorem dX4_readAct_51 : decode cX4_readAct 51 = .ok (.bipush 6, 2) := by decide +kernel
theorem dX4_readAct_53 : decode cX4_readAct 53 = .ok (.if_icmp .ge 71, 3) := by decide +kernel
theorem dX4_readAct_56 : decode cX4_readAct 56 = .ok (.aload_n 0, 1) := by decide +kernel
theorem dX4_readAct_57 : decode cX4_readAct 57 = .ok (.getfield 78, 3) := by decide +kernel
theorem dX4_readAct_60 : decode cX4_readAct 60 = .ok (.iconst 1, 1) := by decide +kernel
theorem dX4_readAct_61 : decode cX4_readAct 61 = .ok (.if_icmp .ne 63, 3) := by decide +kernel
theorem dX4_readAct_64 : decode cX4_readAct 64 = .ok (.aload_n 0, 1) := by decide +kernel
theorem dX4_readAct_65 : decode cX4_readAct 65 = .ok (.getfield 81, 3) := by decide +kernel
theorem dX4_readAct_68 : decode cX4_readAct 68 = .ok (.bipush (-9), 2) := by decide +kernel
theorem dX4_readAct_70 : decode cX4_readAct 70 = .ok (.if_icmp .ne 54, 3) := by decide +kernel
theorem dX4_readAct_73 : decode cX4_readAct 73 = .ok (.aload_n 0, 1) := by decide +kernel
theorem dX4_readAct_74 : decode cX4_readAct 74 = .ok (.iconst 0, 1) := by decide +kernel
theorem dX4_readAct_75 : decode cX4_readAct 75 = .ok (.aload_n 0, 1) := by decide +kernel
theorem dX4_readAct_76 : decode cX4_readAct 76 = .ok (.getfield 13, 3) := by decide +kernel
theorem dX4_readAct_79 : decode cX4_readAct 79 = .ok (.iconst 1, 1) := by decide +kernel
theorem dX4_readAct_80 : decode cX4_readAct 80 = .ok (.iaload, 1) := by decide +kernel
theorem dX4_readAct_81 : decode cX4_readAct 81 = .ok (.iconst 1, 1) := by decide +kernel
theorem dX4_readAct_82 : decode cX4_readAct 82 = .ok (.isub, 1) := by decide +kernel
theorem dX4_readAct_83 : decode cX4_readAct 83 = .ok (.invokevirtual 91, 3) := by decide +kernel
theorem dX4_readAct_86 : decode cX4_readAct 86 = .ok (.istore_n 3, 1) := by decide +kernel
theorem dX4_readAct_87 : decode cX4_readAct 87 = .ok (.aload_n 0, 1) := by decide +kernel
theorem dX4_readAct_88 : decode cX4_readAct 88 = .ok (.iconst 0, 1) := by decide +kernel
theorem dX4_readAct_89 : decode cX4_readAct 89 = .ok (.bipush 9, 2) := by decide +kernel
theorem dX4_readAct_91 : decode cX4_readAct 91 = .ok (.invokevirtual 91, 3) := by decide +kernel
theorem dX4_readAct_94 : decode cX4_readAct 94 = .ok (.istore 4, 2) := by decide +kernel
theorem dX4_readAct_96 : decode cX4_readAct 96 = .ok (.aload_n 0, 1) := by decide +kernel
theorem dX4_readAct_97 : decode cX4_readAct 97 = .ok (.getfield 81, 3) := by decide +kernel
theorem dX4_readAct_100 : decode cX4_readAct 100 = .ok (.bipush (-9), 2) := by decide +kernel
theorem dX4_readAct_102 : decode cX4_readAct 102 = .ok (.if_icmp .ne 16, 3) := by decide +kernel
theorem dX4_readAct_105 : decode cX4_readAct 105 = .ok (.aload_n 0, 1) := by decide +kernel
theorem dX4_readAct_106 : decode cX4_readAct 106 = .ok (.getfield 32, 3) := by decide +kernel
theorem dX4_readAct_109 : decode cX4_readAct 109 = .ok (.bipush 6, 2) := by decide +kernel
theorem dX4_readAct_111 : decode cX4_readAct 111 = .ok (.iload_n 1, 1) := by decide +kernel
theorem dX4_readAct_112 : decode cX4_readAct 112 = .ok (.imul, 1) := by decide +kernel
theorem dX4_readAct_113 : decode cX4_readAct 113 = .ok (.iload_n 3, 1) := by decide +kernel
theorem dX4_readAct_114 : decode cX4_readAct 114 = .ok (.iadd, 1) := by decide +kernel
theorem dX4_readAct_115 : decode cX4_readAct 115 = .ok (.iload 4, 2) := by decide +kernel
theorem dX4_readAct_117 : decode cX4_readAct 117 = .ok (.iastore, 1) := by decide +kernel
theorem dX4_readAct_118 : decode cX4_readAct 118 = .ok (.iinc 2 1, 3) := by decide +kernel
theorem dX4_readAct_121 : decode cX4_readAct 121 = .ok (.goto (-71), 3) := by decide +kernel
theorem dX4_readAct_124 : decode cX4_readAct 124 = .ok (.aload_n 0, 1) := by decide +kernel
theorem dX4_readAct_125 : decode cX4_readAct 125 = .ok (.getfield 26, 3) := by decide +kernel
theorem dX4_readAct_128 : decode cX4_readAct 128 = .ok (.iconst 1, 1) := by decide +kernel
theorem dX4_readAct_129 : decode cX4_readAct 129 = .ok (.dup2, 1) := by decide +kernel
theorem dX4_readAct_130 : decode cX4_readAct 130 = .ok (.iaload, 1) := by decide +kernel
theorem dX4_readAct_131 : decode cX4_readAct 131 = .ok (.iconst 1, 1) := by decide +kernel
theorem dX4_readAct_132 : decode cX4_readAct 132 = .ok (.iadd, 1) := by decide +kernel
theorem dX4_readAct_133 : decode cX4_readAct 133 = .ok (.iastore, 1) := by decide +kernel
theorem dX4_readAct_134 : decode cX4_readAct 134 = .ok (.return_, 1) := by decide +kernel
theorem dX4_readRow_0 : decode cX4_readRow 0 = .ok (.iload_n 1, 1) := by decide +kernel
theorem dX4_readRow_1 : decode cX4_readRow 1 = .ok (.lookupswitch 102 #[(97, 95), (100, 27)], 27) := by decide +kernel
theorem dX4_readRow_28 : decode cX4_readRow 28 = .ok (.aload_n 0, 1) := by decide +kernel
theorem dX4_readRow_29 : decode cX4_readRow 29 = .ok (.getfield 17, 3) := by decide +kernel
theorem dX4_readRow_32 : decode cX4_readRow 32 = .ok (.aload_n 0, 1) := by decide +kernel
theorem dX4_readRow_33 : decode cX4_readRow 33 = .ok (.getfield 13, 3) := by decide +kernel
theorem dX4_readRow_36 : decode cX4_readRow 36 = .ok (.iconst 1, 1) := by decide +kernel
theorem dX4_readRow_37 : decode cX4_readRow 37 = .ok (.iaload, 1) := by decide +kernel
theorem dX4_readRow_38 : decode cX4_readRow 38 = .ok (.aload_n 0, 1) := by decide +kernel
theorem dX4_readRow_39 : decode cX4_readRow 39 = .ok (.iconst 0, 1) := by decide +kernel
theorem dX4_readRow_40 : decode cX4_readRow 40 = .ok (.bipush 40, 2) := by decide +kernel
theorem dX4_readRow_42 : decode cX4_readRow 42 = .ok (.invokevirtual 91, 3) := by decide +kernel
theorem dX4_readRow_45 : decode cX4_readRow 45 = .ok (.iastore, 1) := by decide +kernel
theorem dX4_readRow_46 : decode cX4_readRow 46 = .ok (.aload_n 0, 1) := by decide +kernel
theorem dX4_readRow_47 : decode cX4_readRow 47 = .ok (.getfield 23, 3) := by decide +kernel
theorem dX4_readRow_50 : decode cX4_readRow 50 = .ok (.bipush 6, 2) := by decide +kernel
theorem dX4_readRow_52 : decode cX4_readRow 52 = .ok (.aload_n 0, 1) := by decide +kernel
theorem dX4_readRow_53 : decode cX4_readRow 53 = .ok (.getfield 13, 3) := by decide +kernel
theorem dX4_readRow_56 : decode cX4_readRow 56 = .ok (.iconst 1, 1) := by decide +kernel
theorem dX4_readRow_57 : decode cX4_readRow 57 = .ok (.iaload, 1) := by decide +kernel
theorem dX4_readRow_58 : decode cX4_readRow 58 = .ok (.iadd, 1) := by decide +kernel
theorem dX4_readRow_59 : decode cX4_readRow 59 = .ok (.aload_n 0, 1) := by decide +kernel
theorem dX4_readRow_60 : decode cX4_readRow 60 = .ok (.iconst 0, 1) := by decide +kernel
theorem dX4_readRow_61 : decode cX4_readRow 61 = .ok (.iconst 5, 1) := by decide +kernel
theorem dX4_readRow_62 : decode cX4_readRow 62 = .ok (.invokevirtual 91, 3) := by decide +kernel
theorem dX4_readRow_65 : decode cX4_readRow 65 = .ok (.iastore, 1) := by decide +kernel
theorem dX4_readRow_66 : decode cX4_readRow 66 = .ok (.aload_n 0, 1) := by decide +kernel
theorem dX4_readRow_67 : decode cX4_readRow 67 = .ok (.getfield 20, 3) := by decide +kernel
theorem dX4_readRow_70 : decode cX4_readRow 70 = .ok (.aload_n 0, 1) := by decide +kernel
theorem dX4_readRow_71 : decode cX4_readRow 71 = .ok (.getfield 13, 3) := by decide +kernel
theorem dX4_readRow_74 : decode cX4_readRow 74 = .ok (.iconst 1, 1) := by decide +kernel
theorem dX4_readRow_75 : decode cX4_readRow 75 = .ok (.iaload, 1) := by decide +kernel
theorem dX4_readRow_76 : decode cX4_readRow 76 = .ok (.aload_n 0, 1) := by decide +kernel
theorem dX4_readRow_77 : decode cX4_readRow 77 = .ok (.getfield 13, 3) := by decide +kernel
theorem dX4_readRow_80 : decode cX4_readRow 80 = .ok (.iconst 1, 1) := by decide +kernel
theorem dX4_readRow_81 : decode cX4_readRow 81 = .ok (.iaload, 1) := by decide +kernel
theorem dX4_readRow_82 : decode cX4_readRow 82 = .ok (.iastore, 1) := by decide +kernel
theorem dX4_readRow_83 : decode cX4_readRow 83 = .ok (.aload_n 0, 1) := by decide +kernel
theorem dX4_readRow_84 : decode cX4_readRow 84 = .ok (.getfield 13, 3) := by decide +kernel
theorem dX4_readRow_87 : decode cX4_readRow 87 = .ok (.iconst 1, 1) := by decide +kernel
theorem dX4_readRow_88 : decode cX4_readRow 88 = .ok (.dup2, 1) := by decide +kernel
theorem dX4_readRow_89 : decode cX4_readRow 89 = .ok (.iaload, 1) := by decide +kernel
theorem dX4_readRow_90 : decode cX4_readRow 90 = .ok (.iconst 1, 1) := by decide +kernel
theorem dX4_readRow_91 : decode cX4_readRow 91 = .ok (.iadd, 1) := by decide +kernel
theorem dX4_readRow_92 : decode cX4_readRow 92 = .ok (.iastore, 1) := by decide +kernel
theorem dX4_readRow_93 : decode cX4_readRow 93 = .ok (.goto 100, 3) := by decide +kernel
theorem dX4_readRow_96 : decode cX4_readRow 96 = .ok (.aload_n 0, 1) := by decide +kernel
theorem dX4_readRow_97 : decode cX4_readRow 97 = .ok (.invokevirtual 95, 3) := by decide +kernel
theorem dX4_readRow_100 : decode cX4_readRow 100 = .ok (.goto 93, 3) := by decide +kernel
theorem dX4_readRow_103 : decode cX4_readRow 103 = .ok (.aload_n 0, 1) := by decide +kernel
theorem dX4_readRow_104 : decode cX4_readRow 104 = .ok (.iconst 0, 1) := by decide +kernel
theorem dX4_readRow_105 : decode cX4_readRow 105 = .ok (.aload_n 0, 1) := by decide +kernel
theorem dX4_readRow_106 : decode cX4_readRow 106 = .ok (.getfield 13, 3) := by decide +kernel
theorem dX4_readRow_109 : decode cX4_readRow 109 = .ok (.iconst 1, 1) := by decide +kernel
theorem dX4_readRow_110 : decode cX4_readRow 110 = .ok (.iaload, 1) := by decide +kernel
theorem dX4_readRow_111 : decode cX4_readRow 111 = .ok (.iconst 1, 1) := by decide +kernel
theorem dX4_readRow_112 : decode cX4_readRow 112 = .ok (.isub, 1) := by decide +kernel
theorem dX4_readRow_113 : decode cX4_readRow 113 = .ok (.invokevirtual 91, 3) := by decide +kernel
theorem dX4_readRow_116 : decode cX4_readRow 116 = .ok (.istore_n 2, 1) := by decide +kernel
theorem dX4_readRow_117 : decode cX4_readRow 117 = .ok (.aload_n 0, 1) := by decide +kernel
theorem dX4_readRow_118 : decode cX4_readRow 118 = .ok (.aload_n 0, 1) := by decide +kernel
theorem dX4_readRow_119 : decode cX4_readRow 119 = .ok (.getfield 78, 3) := by decide +kernel
theorem dX4_readRow_122 : decode cX4_readRow 122 = .ok (.iconst 1, 1) := by decide +kernel
theorem dX4_readRow_123 : decode cX4_readRow 123 = .ok (.if_icmp .ne 28, 3) := by decide +kernel
theorem dX4_readRow_126 : decode cX4_readRow 126 = .ok (.aload_n 0, 1) := by decide +kernel
theorem dX4_readRow_127 : decode cX4_readRow 127 = .ok (.getfield 75, 3) := by decide +kernel
theorem dX4_readRow_130 : decode cX4_readRow 130 = .ok (.aload_n 0, 1) := by decide +kernel
theorem dX4_readRow_131 : decode cX4_readRow 131 = .ok (.getfield 13, 3) := by decide +kernel
theorem dX4_readRow_134 : decode cX4_readRow 134 = .ok (.iconst 1, 1) := by decide +kernel
theorem dX4_readRow_135 : decode cX4_readRow 135 = .ok (.iaload, 1) := by decide +kernel
theorem dX4_readRow_136 : decode cX4_readRow 136 = .ok (.if_icmp .ge 15, 3) := by decide +kernel
theorem dX4_readRow_139 : decode cX4_readRow 139 = .ok (.aload_n 0, 1) := by decide +kernel
theorem dX4_readRow_140 : decode cX4_readRow 140 = .ok (.getfield 75, 3) := by decide +kernel
theorem dX4_readRow_143 : decode cX4_readRow 143 = .ok (.iload_n 2, 1) := by decide +kernel
theorem dX4_readRow_144 : decode cX4_readRow 144 = .ok (.if_icmp .eq 7, 3) := by decide +kernel
theorem dX4_readRow_147 : decode cX4_readRow 147 = .ok (.iconst 1, 1) := by decide +kernel
theorem dX4_readRow_148 : decode cX4_readRow 148 = .ok (.goto 4, 3) := by decide +kernel
theorem dX4_readRow_151 : decode cX4_readRow 151 = .ok (.iconst 0, 1) := by decide +kernel
theorem dX4_readRow_152 : decode cX4_readRow 152 = .ok (.invokevirtual 87, 3) := by decide +kernel
theorem dX4_readRow_155 : decode cX4_readRow 155 = .ok (.istore_n 3, 1) := by decide +kernel
theorem dX4_readRow_156 : decode cX4_readRow 156 = .ok (.aload_n 0, 1) := by decide +kernel
theorem dX4_readRow_157 : decode cX4_readRow 157 = .ok (.getfield 81, 3) := by decide +kernel
theorem dX4_readRow_160 : decode cX4_readRow 160 = .ok (.bipush (-9), 2) := by decide +kernel
theorem dX4_readRow_162 : decode cX4_readRow 162 = .ok (.if_icmp .ne 31, 3) := by decide +kernel
theorem dX4_readRow_165 : decode cX4_readRow 165 = .ok (.aload_n 0, 1) := by decide +kernel
theorem dX4_readRow_166 : decode cX4_readRow 166 = .ok (.getfield 20, 3) := by decide +kernel
theorem dX4_readRow_169 : decode cX4_readRow 169 = .ok (.iload_n 2, 1) := by decide +kernel
theorem dX4_readRow_170 : decode cX4_readRow 170 = .ok (.iaload, 1) := by decide +kernel
theorem dX4_readRow_171 : decode cX4_readRow 171 = .ok (.istore 4, 2) := by decide +kernel
theorem dX4_readRow_173 : decode cX4_readRow 173 = .ok (.aload_n 0, 1) := by decide +kernel
theorem dX4_readRow_174 : decode cX4_readRow 174 = .ok (.getfield 20, 3) := by decide +kernel
theorem dX4_readRow_177 : decode cX4_readRow 177 = .ok (.iload_n 2, 1) := by decide +kernel
theorem dX4_readRow_178 : decode cX4_readRow 178 = .ok (.aload_n 0, 1) := by decide +kernel
theorem dX4_readRow_179 : decode cX4_readRow 179 = .ok (.getfield 20, 3) := by decide +kernel
theorem dX4_readRow_182 : decode cX4_readRow 182 = .ok (.iload_n 3, 1) := by decide +kernel
theorem dX4_readRow_183 : decode cX4_readRow 183 = .ok (.iaload, 1) := by decide +kernel
theorem dX4_readRow_184 : decode cX4_readRow 184 = .ok (.iastore, 1) := by decide +kernel
theorem dX4_readRow_185 : decode cX4_readRow 185 = .ok (.aload_n 0, 1) := by decide +kernel
theorem dX4_readRow_186 : decode cX4_readRow 186 = .ok (.getfield 20, 3) := by decide +kernel
theorem dX4_readRow_189 : decode cX4_readRow 189 = .ok (.iload_n 3, 1) := by decide +kernel
theorem dX4_readRow_190 : decode cX4_readRow 190 = .ok (.iload 4, 2) := by decide +kernel
theorem dX4_readRow_192 : decode cX4_readRow 192 = .ok (.iastore, 1) := by decide +kernel
theorem dX4_readRow_193 : decode cX4_readRow 193 = .ok (.return_, 1) := by decide +kernel
theorem dX4_plain_0 : decode cX4_plain 0 = .ok (.aload_n 0, 1) := by decide +kernel
theorem dX4_plain_1 : decode cX4_plain 1 = .ok (.getfield 13, 3) := by decide +kernel
theorem dX4_plain_4 : decode cX4_plain 4 = .ok (.iconst 1, 1) := by decide +kernel
theorem dX4_plain_5 : decode cX4_plain 5 = .ok (.iconst 0, 1) := by decide +kernel
theorem dX4_plain_6 : decode cX4_plain 6 = .ok (.iastore, 1) := by decide +kernel
theorem dX4_plain_7 : decode cX4_plain 7 = .ok (.aload_n 0, 1) := by decide +kernel
theorem dX4_plain_8 : decode cX4_plain 8 = .ok (.getfield 26, 3) := by decide +kernel
theorem dX4_plain_11 : decode cX4_plain 11 = .ok (.iconst 1, 1) := by decide +kernel
theorem dX4_plain_12 : decode cX4_plain 12 = .ok (.iconst 0, 1) := by decide +kernel
theorem dX4_plain_13 : decode cX4_plain 13 = .ok (.iastore, 1) := by decide +kernel
theorem dX4_plain_14 : decode cX4_plain 14 = .ok (.return_, 1) := by decide +kernel
theorem dX4_takeDraft_0 : decode cX4_takeDraft 0 = .ok (.aload_n 0, 1) := by decide +kernel
theorem dX4_takeDraft_1 : decode cX4_takeDraft 1 = .ok (.getfield 13, 3) := by decide +kernel
theorem dX4_takeDraft_4 : decode cX4_takeDraft 4 = .ok (.iconst 0, 1) := by decide +kernel
theorem dX4_takeDraft_5 : decode cX4_takeDraft 5 = .ok (.aload_n 0, 1) := by decide +kernel
theorem dX4_takeDraft_6 : decode cX4_takeDraft 6 = .ok (.getfield 13, 3) := by decide +kernel
theorem dX4_takeDraft_9 : decode cX4_takeDraft 9 = .ok (.iconst 1, 1) := by decide +kernel
theorem dX4_takeDraft_10 : decode cX4_takeDraft 10 = .ok (.iaload, 1) := by decide +kernel
theorem dX4_takeDraft_11 : decode cX4_takeDraft 11 = .ok (.iastore, 1) := by decide +kernel
theorem dX4_takeDraft_12 : decode cX4_takeDraft 12 = .ok (.aload_n 0, 1) := by decide +kernel
theorem dX4_takeDraft_13 : decode cX4_takeDraft 13 = .ok (.getfield 26, 3) := by decide +kernel
theorem dX4_takeDraft_16 : decode cX4_takeDraft 16 = .ok (.iconst 0, 1) := by decide +kernel
theorem dX4_takeDraft_17 : decode cX4_takeDraft 17 = .ok (.aload_n 0, 1) := by decide +kernel
theorem dX4_takeDraft_18 : decode cX4_takeDraft 18 = .ok (.getfield 26, 3) := by decide +kernel
theorem dX4_takeDraft_21 : decode cX4_takeDraft 21 = .ok (.iconst 1, 1) := by decide +kernel
theorem dX4_takeDraft_22 : decode cX4_takeDraft 22 = .ok (.iaload, 1) := by decide +kernel
theorem dX4_takeDraft_23 : decode cX4_takeDraft 23 = .ok (.iastore, 1) := by decide +kernel
theorem dX4_takeDraft_24 : decode cX4_takeDraft 24 = .ok (.iconst 0, 1) := by decide +kernel
theorem dX4_takeDraft_25 : decode cX4_takeDraft 25 = .ok (.istore_n 1, 1) := by decide +kernel
theorem dX4_takeDraft_26 : decode cX4_takeDraft 26 = .ok (.iload_n 1, 1) := by decide +kernel
theorem dX4_takeDraft_27 : decode cX4_takeDraft 27 = .ok (.bipush 22, 2) := by decide +kernel
theorem dX4_takeDraft_29 : decode cX4_takeDraft 29 = .ok (.if_icmp .ge 16, 3) := by decide +kernel
theorem dX4_takeDraft_32 : decode cX4_takeDraft 32 = .ok (.aload_n 0, 1) := by decide +kernel
theorem dX4_takeDraft_33 : decode cX4_takeDraft 33 = .ok (.getfield 35, 3) := by decide +kernel
theorem dX4_takeDraft_36 : decode cX4_takeDraft 36 = .ok (.iload_n 1, 1) := by decide +kernel
theorem dX4_takeDraft_37 : decode cX4_takeDraft 37 = .ok (.iconst 0, 1) := by decide +kernel
theorem dX4_takeDraft_38 : decode cX4_takeDraft 38 = .ok (.iastore, 1) := by decide +kernel
theorem dX4_takeDraft_39 : decode cX4_takeDraft 39 = .ok (.iinc 1 1, 3) := by decide +kernel
theorem dX4_takeDraft_42 : decode cX4_takeDraft 42 = .ok (.goto (-16), 3) := by decide +kernel
theorem dX4_takeDraft_45 : decode cX4_takeDraft 45 = .ok (.iconst 0, 1) := by decide +kernel
theorem dX4_takeDraft_46 : decode cX4_takeDraft 46 = .ok (.istore_n 1, 1) := by decide +kernel
theorem dX4_takeDraft_47 : decode cX4_takeDraft 47 = .ok (.iload_n 1, 1) := by decide +kernel
theorem dX4_takeDraft_48 : decode cX4_takeDraft 48 = .ok (.aload_n 0, 1) := by decide +kernel
theorem dX4_takeDraft_49 : decode cX4_takeDraft 49 = .ok (.getfield 13, 3) := by decide +kernel
theorem dX4_takeDraft_52 : decode cX4_takeDraft 52 = .ok (.iconst 0, 1) := by decide +kernel
theorem dX4_takeDraft_53 : decode cX4_takeDraft 53 = .ok (.iaload, 1) := by decide +kernel
theorem dX4_takeDraft_54 : decode cX4_takeDraft 54 = .ok (.if_icmp .ge 51, 3) := by decide +kernel
theorem dX4_takeDraft_57 : decode cX4_takeDraft 57 = .ok (.aload_n 0, 1) := by decide +kernel
theorem dX4_takeDraft_58 : decode cX4_takeDraft 58 = .ok (.getfield 35, 3) := by decide +kernel
theorem dX4_takeDraft_61 : decode cX4_takeDraft 61 = .ok (.iload_n 1, 1) := by decide +kernel
theorem dX4_takeDraft_62 : decode cX4_takeDraft 62 = .ok (.aload_n 0, 1) := by decide +kernel
theorem dX4_takeDraft_63 : decode cX4_takeDraft 63 = .ok (.getfield 17, 3) := by decide +kernel
theorem dX4_takeDraft_66 : decode cX4_takeDraft 66 = .ok (.iload_n 1, 1) := by decide +kernel
theorem dX4_takeDraft_67 : decode cX4_takeDraft 67 = .ok (.iaload, 1) := by decide +kernel
theorem dX4_takeDraft_68 : decode cX4_takeDraft 68 = .ok (.iastore, 1) := by decide +kernel
theorem dX4_takeDraft_69 : decode cX4_takeDraft 69 = .ok (.aload_n 0, 1) := by decide +kernel
theorem dX4_takeDraft_70 : decode cX4_takeDraft 70 = .ok (.getfield 35, 3) := by decide +kernel
theorem dX4_takeDraft_73 : decode cX4_takeDraft 73 = .ok (.bipush 12, 2) := by decide +kernel
theorem dX4_takeDraft_75 : decode cX4_takeDraft 75 = .ok (.iload_n 1, 1) := by decide +kernel
theorem dX4_takeDraft_76 : decode cX4_takeDraft 76 = .ok (.iadd, 1) := by decide +kernel
theorem dX4_takeDraft_77 : decode cX4_takeDraft 77 = .ok (.aload_n 0, 1) := by decide +kernel
theorem dX4_takeDraft_78 : decode cX4_takeDraft 78 = .ok (.getfield 20, 3) := by decide +kernel
theorem dX4_takeDraft_81 : decode cX4_takeDraft 81 = .ok (.iload_n 1, 1) := by decide +kernel
theorem dX4_takeDraft_82 : decode cX4_takeDraft 82 = .ok (.iaload, 1) := by decide +kernel
theorem dX4_takeDraft_83 : decode cX4_takeDraft 83 = .ok (.iastore, 1) := by decide +kernel
theorem dX4_takeDraft_84 : decode cX4_takeDraft 84 = .ok (.aload_n 0, 1) := by decide +kernel
theorem dX4_takeDraft_85 : decode cX4_takeDraft 85 = .ok (.getfield 23, 3) := by decide +kernel
theorem dX4_takeDraft_88 : decode cX4_takeDraft 88 = .ok (.iload_n 1, 1) := by decide +kernel
theorem dX4_takeDraft_89 : decode cX4_takeDraft 89 = .ok (.aload_n 0, 1) := by decide +kernel
theorem dX4_takeDraft_90 : decode cX4_takeDraft 90 = .ok (.getfield 23, 3) := by decide +kernel
theorem dX4_takeDraft_93 : decode cX4_takeDraft 93 = .ok (.bipush 6, 2) := by decide +kernel
theorem dX4_takeDraft_95 : decode cX4_takeDraft 95 = .ok (.iload_n 1, 1) := by decide +kernel
theorem dX4_takeDraft_96 : decode cX4_takeDraft 96 = .ok (.iadd, 1) := by decide +kernel
theorem dX4_takeDraft_97 : decode cX4_takeDraft 97 = .ok (.iaload, 1) := by decide +kernel
theorem dX4_takeDraft_98 : decode cX4_takeDraft 98 = .ok (.iastore, 1) := by decide +kernel
theorem dX4_takeDraft_99 : decode cX4_takeDraft 99 = .ok (.iinc 1 1, 3) := by decide +kernel
theorem dX4_takeDraft_102 : decode cX4_takeDraft 102 = .ok (.goto (-55), 3) := by decide +kernel
theorem dX4_takeDraft_105 : decode cX4_takeDraft 105 = .ok (.iconst 0, 1) := by decide +kernel
theorem dX4_takeDraft_106 : decode cX4_takeDraft 106 = .ok (.istore_n 1, 1) := by decide +kernel
theorem dX4_takeDraft_107 : decode cX4_takeDraft 107 = .ok (.iload_n 1, 1) := by decide +kernel
theorem dX4_takeDraft_108 : decode cX4_takeDraft 108 = .ok (.aload_n 0, 1) := by decide +kernel
theorem dX4_takeDraft_109 : decode cX4_takeDraft 109 = .ok (.getfield 26, 3) := by decide +kernel
theorem dX4_takeDraft_112 : decode cX4_takeDraft 112 = .ok (.iconst 0, 1) := by decide +kernel
theorem dX4_takeDraft_113 : decode cX4_takeDraft 113 = .ok (.iaload, 1) := by decide +kernel
theorem dX4_takeDraft_114 : decode cX4_takeDraft 114 = .ok (.if_icmp .ge 61, 3) := by decide +kernel
theorem dX4_takeDraft_117 : decode cX4_takeDraft 117 = .ok (.aload_n 0, 1) := by decide +kernel
theorem dX4_takeDraft_118 : decode cX4_takeDraft 118 = .ok (.getfield 29, 3) := by decide +kernel
theorem dX4_takeDraft_121 : decode cX4_takeDraft 121 = .ok (.iload_n 1, 1) := by decide +kernel
theorem dX4_takeDraft_122 : decode cX4_takeDraft 122 = .ok (.aload_n 0, 1) := by decide +kernel
theorem dX4_takeDraft_123 : decode cX4_takeDraft 123 = .ok (.getfield 29, 3) := by decide +kernel
theorem dX4_takeDraft_126 : decode cX4_takeDraft 126 = .ok (.iconst 5, 1) := by decide +kernel
theorem dX4_takeDraft_127 : decode cX4_takeDraft 127 = .ok (.iload_n 1, 1) := by decide +kernel
theorem dX4_takeDraft_128 : decode cX4_takeDraft 128 = .ok (.iadd, 1) := by decide +kernel
theorem dX4_takeDraft_129 : decode cX4_takeDraft 129 = .ok (.iaload, 1) := by decide +kernel
theorem dX4_takeDraft_130 : decode cX4_takeDraft 130 = .ok (.iastore, 1) := by decide +kernel
theorem dX4_takeDraft_131 : decode cX4_takeDraft 131 = .ok (.iconst 0, 1) := by decide +kernel
theorem dX4_takeDraft_132 : decode cX4_takeDraft 132 = .ok (.istore_n 2, 1) := by decide +kernel
theorem dX4_takeDraft_133 : decode cX4_takeDraft 133 = .ok (.iload_n 2, 1) := by decide +kernel
theorem dX4_takeDraft_134 : decode cX4_takeDraft 134 = .ok (.bipush 6, 2) := by decide +kernel
theorem dX4_takeDraft_136 : decode cX4_takeDraft 136 = .ok (.if_icmp .ge 33, 3) := by decide +kernel
theorem dX4_takeDraft_139 : decode cX4_takeDraft 139 = .ok (.aload_n 0, 1) := by decide +kernel
theorem dX4_takeDraft_140 : decode cX4_takeDraft 140 = .ok (.getfield 32, 3) := by decide +kernel
theorem dX4_takeDraft_143 : decode cX4_takeDraft 143 = .ok (.bipush 6, 2) := by decide +kernel
theorem dX4_takeDraft_145 : decode cX4_takeDraft 145 = .ok (.iload_n 1, 1) := by decide +kernel
theorem dX4_takeDraft_146 : decode cX4_takeDraft 146 = .ok (.imul, 1) := by decide +kernel
theorem dX4_takeDraft_147 : decode cX4_takeDraft 147 = .ok (.iload_n 2, 1) := by decide +kernel
theorem dX4_takeDraft_148 : decode cX4_takeDraft 148 = .ok (.iadd, 1) := by decide +kernel
theorem dX4_takeDraft_149 : decode cX4_takeDraft 149 = .ok (.aload_n 0, 1) := by decide +kernel
theorem dX4_takeDraft_150 : decode cX4_takeDraft 150 = .ok (.getfield 32, 3) := by decide +kernel
theorem dX4_takeDraft_153 : decode cX4_takeDraft 153 = .ok (.bipush 6, 2) := by decide +kernel
theorem dX4_takeDraft_155 : decode cX4_takeDraft 155 = .ok (.iconst 5, 1) := by decide +kernel
theorem dX4_takeDraft_156 : decode cX4_takeDraft 156 = .ok (.iload_n 1, 1) := by decide +kernel
theorem dX4_takeDraft_157 : decode cX4_takeDraft 157 = .ok (.iadd, 1) := by decide +kernel
theorem dX4_takeDraft_158 : decode cX4_takeDraft 158 = .ok (.imul, 1) := by decide +kernel
theorem dX4_takeDraft_159 : decode cX4_takeDraft 159 = .ok (.iload_n 2, 1) := by decide +kernel
theorem dX4_takeDraft_160 : decode cX4_takeDraft 160 = .ok (.iadd, 1) := by decide +kernel
theorem dX4_takeDraft_161 : decode cX4_takeDraft 161 = .ok (.iaload, 1) := by decide +kernel
theorem dX4_takeDraft_162 : decode cX4_takeDraft 162 = .ok (.iastore, 1) := by decide +kernel
theorem dX4_takeDraft_163 : decode cX4_takeDraft 163 = .ok (.iinc 2 1, 3) := by decide +kernel
theorem dX4_takeDraft_166 : decode cX4_takeDraft 166 = .ok (.goto (-33), 3) := by decide +kernel
theorem dX4_takeDraft_169 : decode cX4_takeDraft 169 = .ok (.iinc 1 1, 3) := by decide +kernel
theorem dX4_takeDraft_172 : decode cX4_takeDraft 172 = .ok (.goto (-65), 3) := by decide +kernel
theorem dX4_takeDraft_175 : decode cX4_takeDraft 175 = .ok (.aload_n 0, 1) := by decide +kernel
theorem dX4_takeDraft_176 : decode cX4_takeDraft 176 = .ok (.getfield 35, 3) := by decide +kernel
theorem dX4_takeDraft_179 : decode cX4_takeDraft 179 = .ok (.bipush 22, 2) := by decide +kernel
theorem dX4_takeDraft_181 : decode cX4_takeDraft 181 = .ok (.iconst 0, 1) := by decide +kernel
theorem dX4_takeDraft_182 : decode cX4_takeDraft 182 = .ok (.iastore, 1) := by decide +kernel
theorem dX4_takeDraft_183 : decode cX4_takeDraft 183 = .ok (.aload_n 0, 1) := by decide +kernel
theorem dX4_takeDraft_184 : decode cX4_takeDraft 184 = .ok (.iconst 0, 1) := by decide +kernel
theorem dX4_takeDraft_185 : decode cX4_takeDraft 185 = .ok (.putfield 98, 3) := by decide +kernel
theorem dX4_takeDraft_188 : decode cX4_takeDraft 188 = .ok (.aload_n 0, 1) := by decide +kernel
theorem dX4_takeDraft_189 : decode cX4_takeDraft 189 = .ok (.getfield 38, 3) := by decide +kernel
theorem dX4_takeDraft_192 : decode cX4_takeDraft 192 = .ok (.iconst 0, 1) := by decide +kernel
theorem dX4_takeDraft_193 : decode cX4_takeDraft 193 = .ok (.iconst 0, 1) := by decide +kernel
theorem dX4_takeDraft_194 : decode cX4_takeDraft 194 = .ok (.bastore, 1) := by decide +kernel
theorem dX4_takeDraft_195 : decode cX4_takeDraft 195 = .ok (.aload_n 0, 1) := by decide +kernel
theorem dX4_takeDraft_196 : decode cX4_takeDraft 196 = .ok (.getfield 38, 3) := by decide +kernel
theorem dX4_takeDraft_199 : decode cX4_takeDraft 199 = .ok (.iconst 1, 1) := by decide +kernel
theorem dX4_takeDraft_200 : decode cX4_takeDraft 200 = .ok (.iconst 0, 1) := by decide +kernel
theorem dX4_takeDraft_201 : decode cX4_takeDraft 201 = .ok (.bastore, 1) := by decide +kernel
theorem dX4_takeDraft_202 : decode cX4_takeDraft 202 = .ok (.return_, 1) := by decide +kernel
theorem dX4_sideboard_0 : decode cX4_sideboard 0 = .ok (.aload_n 0, 1) := by decide +kernel
theorem dX4_sideboard_1 : decode cX4_sideboard 1 = .ok (.iconst 0, 1) := by decide +kernel
theorem dX4_sideboard_2 : decode cX4_sideboard 2 = .ok (.putfield 65, 3) := by decide +kernel
theorem dX4_sideboard_5 : decode cX4_sideboard 5 = .ok (.aload_n 0, 1) := by decide +kernel
theorem dX4_sideboard_6 : decode cX4_sideboard 6 = .ok (.bipush (-9), 2) := by decide +kernel
theorem dX4_sideboard_8 : decode cX4_sideboard 8 = .ok (.putfield 81, 3) := by decide +kernel
theorem dX4_sideboard_11 : decode cX4_sideboard 11 = .ok (.aload_n 0, 1) := by decide +kernel
theorem dX4_sideboard_12 : decode cX4_sideboard 12 = .ok (.invokevirtual 51, 3) := by decide +kernel
theorem dX4_sideboard_15 : decode cX4_sideboard 15 = .ok (.iconst 0, 1) := by decide +kernel
theorem dX4_sideboard_16 : decode cX4_sideboard 16 = .ok (.istore_n 1, 1) := by decide +kernel
theorem dX4_sideboard_17 : decode cX4_sideboard 17 = .ok (.aload_n 0, 1) := by decide +kernel
theorem dX4_sideboard_18 : decode cX4_sideboard 18 = .ok (.invokevirtual 84, 3) := by decide +kernel
theorem dX4_sideboard_21 : decode cX4_sideboard 21 = .ok (.aload_n 0, 1) := by decide +kernel
theorem dX4_sideboard_22 : decode cX4_sideboard 22 = .ok (.getfield 81, 3) := by decide +kernel
theorem dX4_sideboard_25 : decode cX4_sideboard 25 = .ok (.bipush (-9), 2) := by decide +kernel
theorem dX4_sideboard_27 : decode cX4_sideboard 27 = .ok (.if_icmp .ne 64, 3) := by decide +kernel
theorem dX4_sideboard_30 : decode cX4_sideboard 30 = .ok (.aload_n 0, 1) := by decide +kernel
theorem dX4_sideboard_31 : decode cX4_sideboard 31 = .ok (.getfield 78, 3) := by decide +kernel
theorem dX4_sideboard_34 : decode cX4_sideboard 34 = .ok (.iconst 3, 1) := by decide +kernel
theorem dX4_sideboard_35 : decode cX4_sideboard 35 = .ok (.if_icmp .eq 56, 3) := by decide +kernel
theorem dX4_sideboard_38 : decode cX4_sideboard 38 = .ok (.aload_n 0, 1) := by decide +kernel
theorem dX4_sideboard_39 : decode cX4_sideboard 39 = .ok (.getfield 78, 3) := by decide +kernel
theorem dX4_sideboard_42 : decode cX4_sideboard 42 = .ok (.istore_n 2, 1) := by decide +kernel
theorem dX4_sideboard_43 : decode cX4_sideboard 43 = .ok (.aload_n 0, 1) := by decide +kernel
theorem dX4_sideboard_44 : decode cX4_sideboard 44 = .ok (.aload_n 0, 1) := by decide +kernel
theorem dX4_sideboard_45 : decode cX4_sideboard 45 = .ok (.iload_n 2, 1) := by decide +kernel
theorem dX4_sideboard_46 : decode cX4_sideboard 46 = .ok (.invokevirtual 101, 3) := by decide +kernel
theorem dX4_sideboard_49 : decode cX4_sideboard 49 = .ok (.invokevirtual 87, 3) := by decide +kernel
theorem dX4_sideboard_52 : decode cX4_sideboard 52 = .ok (.pop, 1) := by decide +kernel
theorem dX4_sideboard_53 : decode cX4_sideboard 53 = .ok (.aload_n 0, 1) := by decide +kernel
theorem dX4_sideboard_54 : decode cX4_sideboard 54 = .ok (.getfield 81, 3) := by decide +kernel
theorem dX4_sideboard_57 : decode cX4_sideboard 57 = .ok (.bipush (-9), 2) := by decide +kernel
theorem dX4_sideboard_59 : decode cX4_sideboard 59 = .ok (.if_icmp .ne 29, 3) := by decide +kernel
theorem dX4_sideboard_62 : decode cX4_sideboard 62 = .ok (.aload_n 0, 1) := by decide +kernel
theorem dX4_sideboard_63 : decode cX4_sideboard 63 = .ok (.iload_n 2, 1) := by decide +kernel
theorem dX4_sideboard_64 : decode cX4_sideboard 64 = .ok (.invokevirtual 105, 3) := by decide +kernel
theorem dX4_sideboard_67 : decode cX4_sideboard 67 = .ok (.aload_n 0, 1) := by decide +kernel
theorem dX4_sideboard_68 : decode cX4_sideboard 68 = .ok (.aload_n 0, 1) := by decide +kernel
theorem dX4_sideboard_69 : decode cX4_sideboard 69 = .ok (.getfield 78, 3) := by decide +kernel
theorem dX4_sideboard_72 : decode cX4_sideboard 72 = .ok (.iconst 2, 1) := by decide +kernel
theorem dX4_sideboard_73 : decode cX4_sideboard 73 = .ok (.if_icmp .ne 7, 3) := by decide +kernel
theorem dX4_sideboard_76 : decode cX4_sideboard 76 = .ok (.iconst 1, 1) := by decide +kernel
theorem dX4_sideboard_77 : decode cX4_sideboard 77 = .ok (.goto 4, 3) := by decide +kernel
theorem dX4_sideboard_80 : decode cX4_sideboard 80 = .ok (.iconst 0, 1) := by decide +kernel
theorem dX4_sideboard_81 : decode cX4_sideboard 81 = .ok (.invokevirtual 87, 3) := by decide +kernel
theorem dX4_sideboard_84 : decode cX4_sideboard 84 = .ok (.pop, 1) := by decide +kernel
theorem dX4_sideboard_85 : decode cX4_sideboard 85 = .ok (.iinc 1 1, 3) := by decide +kernel
theorem dX4_sideboard_88 : decode cX4_sideboard 88 = .ok (.goto (-67), 3) := by decide +kernel
theorem dX4_sideboard_91 : decode cX4_sideboard 91 = .ok (.aload_n 0, 1) := by decide +kernel
theorem dX4_sideboard_92 : decode cX4_sideboard 92 = .ok (.getfield 81, 3) := by decide +kernel
theorem dX4_sideboard_95 : decode cX4_sideboard 95 = .ok (.bipush (-9), 2) := by decide +kernel
theorem dX4_sideboard_97 : decode cX4_sideboard 97 = .ok (.if_icmp .eq 11, 3) := by decide +kernel
theorem dX4_sideboard_100 : decode cX4_sideboard 100 = .ok (.bipush (-10), 2) := by decide +kernel
theorem dX4_sideboard_102 : decode cX4_sideboard 102 = .ok (.aload_n 0, 1) := by decide +kernel
theorem dX4_sideboard_103 : decode cX4_sideboard 103 = .ok (.getfield 81, 3) := by decide +kernel
theorem dX4_sideboard_106 : decode cX4_sideboard 106 = .ok (.isub, 1) := by decide +kernel
theorem dX4_sideboard_107 : decode cX4_sideboard 107 = .ok (.ireturn, 1) := by decide +kernel
theorem dX4_sideboard_108 : decode cX4_sideboard 108 = .ok (.aload_n 0, 1) := by decide +kernel
theorem dX4_sideboard_109 : decode cX4_sideboard 109 = .ok (.invokevirtual 54, 3) := by decide +kernel
theorem dX4_sideboard_112 : decode cX4_sideboard 112 = .ok (.aload_n 0, 1) := by decide +kernel
theorem dX4_sideboard_113 : decode cX4_sideboard 113 = .ok (.iconst 0, 1) := by decide +kernel
theorem dX4_sideboard_114 : decode cX4_sideboard 114 = .ok (.putfield 61, 3) := by decide +kernel
theorem dX4_sideboard_117 : decode cX4_sideboard 117 = .ok (.iload_n 1, 1) := by decide +kernel
theorem dX4_sideboard_118 : decode cX4_sideboard 118 = .ok (.ireturn, 1) := by decide +kernel
theorem dX4_isDecanter_0 : decode cX4_isDecanter 0 = .ok (.iload_n 1, 1) := by decide +kernel
theorem dX4_isDecanter_1 : decode cX4_isDecanter 1 = .ok (.iconst 0, 1) := by decide +kernel
theorem dX4_isDecanter_2 : decode cX4_isDecanter 2 = .ok (.aload_n 0, 1) := by decide +kernel
theorem dX4_isDecanter_3 : decode cX4_isDecanter 3 = .ok (.getfield 13, 3) := by decide +kernel
theorem dX4_isDecanter_6 : decode cX4_isDecanter 6 = .ok (.iconst 0, 1) := by decide +kernel
theorem dX4_isDecanter_7 : decode cX4_isDecanter 7 = .ok (.iaload, 1) := by decide +kernel
theorem dX4_isDecanter_8 : decode cX4_isDecanter 8 = .ok (.iconst 1, 1) := by decide +kernel
theorem dX4_isDecanter_9 : decode cX4_isDecanter 9 = .ok (.isub, 1) := by decide +kernel
theorem dX4_isDecanter_10 : decode cX4_isDecanter 10 = .ok (.invokestatic 57, 3) := by decide +kernel
theorem dX4_isDecanter_13 : decode cX4_isDecanter 13 = .ok (.ireturn, 1) := by decide +kernel
theorem dX4_isAct_0 : decode cX4_isAct 0 = .ok (.iload_n 1, 1) := by decide +kernel
theorem dX4_isAct_1 : decode cX4_isAct 1 = .ok (.iconst 0, 1) := by decide +kernel
theorem dX4_isAct_2 : decode cX4_isAct 2 = .ok (.aload_n 0, 1) := by decide +kernel
theorem dX4_isAct_3 : decode cX4_isAct 3 = .ok (.getfield 26, 3) := by decide +kernel
theorem dX4_isAct_6 : decode cX4_isAct 6 = .ok (.iconst 0, 1) := by decide +kernel
theorem dX4_isAct_7 : decode cX4_isAct 7 = .ok (.iaload, 1) := by decide +kernel
theorem dX4_isAct_8 : decode cX4_isAct 8 = .ok (.iconst 1, 1) := by decide +kernel
theorem dX4_isAct_9 : decode cX4_isAct 9 = .ok (.isub, 1) := by decide +kernel
theorem dX4_isAct_10 : decode cX4_isAct 10 = .ok (.invokestatic 57, 3) := by decide +kernel
theorem dX4_isAct_13 : decode cX4_isAct 13 = .ok (.ireturn, 1) := by decide +kernel
theorem dX4_isDone_0 : decode cX4_isDone 0 = .ok (.aload_n 0, 1) := by decide +kernel
theorem dX4_isDone_1 : decode cX4_isDone 1 = .ok (.getfield 35, 3) := by decide +kernel
theorem dX4_isDone_4 : decode cX4_isDone 4 = .ok (.bipush 19, 2) := by decide +kernel
theorem dX4_isDone_6 : decode cX4_isDone 6 = .ok (.iaload, 1) := by decide +kernel
theorem dX4_isDone_7 : decode cX4_isDone 7 = .ok (.iload_n 1, 1) := by decide +kernel
theorem dX4_isDone_8 : decode cX4_isDone 8 = .ok (.ishr, 1) := by decide +kernel
theorem dX4_isDone_9 : decode cX4_isDone 9 = .ok (.iconst 1, 1) := by decide +kernel
theorem dX4_isDone_10 : decode cX4_isDone 10 = .ok (.iand, 1) := by decide +kernel
theorem dX4_isDone_11 : decode cX4_isDone 11 = .ok (.iconst 1, 1) := by decide +kernel
theorem dX4_isDone_12 : decode cX4_isDone 12 = .ok (.if_icmp .ne 7, 3) := by decide +kernel
theorem dX4_isDone_15 : decode cX4_isDone 15 = .ok (.iconst 1, 1) := by decide +kernel
theorem dX4_isDone_16 : decode cX4_isDone 16 = .ok (.goto 4, 3) := by decide +kernel
theorem dX4_isDone_19 : decode cX4_isDone 19 = .ok (.iconst 0, 1) := by decide +kernel
theorem dX4_isDone_20 : decode cX4_isDone 20 = .ok (.ireturn, 1) := by decide +kernel
theorem dX4_needOf_0 : decode cX4_needOf 0 = .ok (.aload_n 0, 1) := by decide +kernel
theorem dX4_needOf_1 : decode cX4_needOf 1 = .ok (.getfield 32, 3) := by decide +kernel
theorem dX4_needOf_4 : decode cX4_needOf 4 = .ok (.bipush 6, 2) := by decide +kernel
theorem dX4_needOf_6 : decode cX4_needOf 6 = .ok (.iload_n 1, 1) := by decide +kernel
theorem dX4_needOf_7 : decode cX4_needOf 7 = .ok (.imul, 1) := by decide +kernel
theorem dX4_needOf_8 : decode cX4_needOf 8 = .ok (.iload_n 2, 1) := by decide +kernel
theorem dX4_needOf_9 : decode cX4_needOf 9 = .ok (.iadd, 1) := by decide +kernel
theorem dX4_needOf_10 : decode cX4_needOf 10 = .ok (.iaload, 1) := by decide +kernel
theorem dX4_needOf_11 : decode cX4_needOf 11 = .ok (.ireturn, 1) := by decide +kernel
theorem dX4_with_0 : decode cX4_with 0 = .ok (.iconst 0, 1) := by decide +kernel
theorem dX4_with_1 : decode cX4_with 1 = .ok (.istore_n 2, 1) := by decide +kernel
theorem dX4_with_2 : decode cX4_with 2 = .ok (.aload_n 0, 1) := by decide +kernel
theorem dX4_with_3 : decode cX4_with 3 = .ok (.getfield 35, 3) := by decide +kernel
theorem dX4_with_6 : decode cX4_with 6 = .ok (.bipush 12, 2) := by decide +kernel
theorem dX4_with_8 : decode cX4_with 8 = .ok (.iload_n 2, 1) := by decide +kernel
theorem dX4_with_9 : decode cX4_with 9 = .ok (.iadd, 1) := by decide +kernel
theorem dX4_with_10 : decode cX4_with 10 = .ok (.iaload, 1) := by decide +kernel
theorem dX4_with_11 : decode cX4_with 11 = .ok (.iload_n 1, 1) := by decide +kernel
theorem dX4_with_12 : decode cX4_with 12 = .ok (.if_icmp .eq 9, 3) := by decide +kernel
theorem dX4_with_15 : decode cX4_with 15 = .ok (.iinc 2 1, 3) := by decide +kernel
theorem dX4_with_18 : decode cX4_with 18 = .ok (.goto (-16), 3) := by decide +kernel
theorem dX4_with_21 : decode cX4_with 21 = .ok (.iload_n 2, 1) := by decide +kernel
theorem dX4_with_22 : decode cX4_with 22 = .ok (.ireturn, 1) := by decide +kernel
theorem dX4_levelIn_0 : decode cX4_levelIn 0 = .ok (.aload_n 0, 1) := by decide +kernel
theorem dX4_levelIn_1 : decode cX4_levelIn 1 = .ok (.getfield 35, 3) := by decide +kernel
theorem dX4_levelIn_4 : decode cX4_levelIn 4 = .ok (.iload_n 1, 1) := by decide +kernel
theorem dX4_levelIn_5 : decode cX4_levelIn 5 = .ok (.iaload, 1) := by decide +kernel
theorem dX4_levelIn_6 : decode cX4_levelIn 6 = .ok (.iload_n 2, 1) := by decide +kernel
theorem dX4_levelIn_7 : decode cX4_levelIn 7 = .ok (.aload_n 0, 1) := by decide +kernel
theorem dX4_levelIn_8 : decode cX4_levelIn 8 = .ok (.getfield 23, 3) := by decide +kernel
theorem dX4_levelIn_11 : decode cX4_levelIn 11 = .ok (.iload_n 1, 1) := by decide +kernel
theorem dX4_levelIn_12 : decode cX4_levelIn 12 = .ok (.iaload, 1) := by decide +kernel
theorem dX4_levelIn_13 : decode cX4_levelIn 13 = .ok (.imul, 1) := by decide +kernel
theorem dX4_levelIn_14 : decode cX4_levelIn 14 = .ok (.isub, 1) := by decide +kernel
theorem dX4_levelIn_15 : decode cX4_levelIn 15 = .ok (.istore_n 3, 1) := by decide +kernel
theorem dX4_levelIn_16 : decode cX4_levelIn 16 = .ok (.iload_n 3, 1) := by decide +kernel
theorem dX4_levelIn_17 : decode cX4_levelIn 17 = .ok (.ifCond .ge 7, 3) := by decide +kernel
theorem dX4_levelIn_20 : decode cX4_levelIn 20 = .ok (.iconst 0, 1) := by decide +kernel
theorem dX4_levelIn_21 : decode cX4_levelIn 21 = .ok (.goto 4, 3) := by decide +kernel
theorem dX4_levelIn_24 : decode cX4_levelIn 24 = .ok (.iload_n 3, 1) := by decide +kernel
theorem dX4_levelIn_25 : decode cX4_levelIn 25 = .ok (.ireturn, 1) := by decide +kernel
theorem dX4_can_0 : decode cX4_can 0 = .ok (.iconst 1, 1) := by decide +kernel
theorem dX4_can_1 : decode cX4_can 1 = .ok (.istore_n 3, 1) := by decide +kernel
theorem dX4_can_2 : decode cX4_can 2 = .ok (.iconst 0, 1) := by decide +kernel
theorem dX4_can_3 : decode cX4_can 3 = .ok (.istore 4, 2) := by decide +kernel
theorem dX4_can_5 : decode cX4_can 5 = .ok (.iload 4, 2) := by decide +kernel
theorem dX4_can_7 : decode cX4_can 7 = .ok (.aload_n 0, 1) := by decide +kernel
theorem dX4_can_8 : decode cX4_can 8 = .ok (.getfield 13, 3) := by decide +kernel
theorem dX4_can_11 : decode cX4_can 11 = .ok (.iconst 0, 1) := by decide +kernel
theorem dX4_can_12 : decode cX4_can 12 = .ok (.iaload, 1) := by decide +kernel
theorem dX4_can_13 : decode cX4_can 13 = .ok (.if_icmp .ge 40, 3) := by decide +kernel
theorem dX4_can_16 : decode cX4_can 16 = .ok (.iload_n 3, 1) := by decide +kernel
theorem dX4_can_17 : decode cX4_can 17 = .ok (.ifCond .eq 28, 3) := by decide +kernel
theorem dX4_can_20 : decode cX4_can 20 = .ok (.aload_n 0, 1) := by decide +kernel
theorem dX4_can_21 : decode cX4_can 21 = .ok (.aload_n 0, 1) := by decide +kernel
theorem dX4_can_22 : decode cX4_can 22 = .ok (.iload 4, 2) := by decide +kernel
theorem dX4_can_24 : decode cX4_can 24 = .ok (.invokevirtual 109, 3) := by decide +kernel
theorem dX4_can_27 : decode cX4_can 27 = .ok (.iload_n 2, 1) := by decide +kernel
theorem dX4_can_28 : decode cX4_can 28 = .ok (.invokevirtual 113, 3) := by decide +kernel
theorem dX4_can_31 : decode cX4_can 31 = .ok (.aload_n 0, 1) := by decide +kernel
theorem dX4_can_32 : decode cX4_can 32 = .ok (.iload_n 1, 1) := by decide +kernel
theorem dX4_can_33 : decode cX4_can 33 = .ok (.iload 4, 2) := by decide +kernel
theorem dX4_can_35 : decode cX4_can 35 = .ok (.invokevirtual 116, 3) := by decide +kernel
theorem dX4_can_38 : decode cX4_can 38 = .ok (.if_icmp .lt 7, 3) := by decide +kernel
theorem dX4_can_41 : decode cX4_can 41 = .ok (.iconst 1, 1) := by decide +kernel
theorem dX4_can_42 : decode cX4_can 42 = .ok (.goto 4, 3) := by decide +kernel
theorem dX4_can_45 : decode cX4_can 45 = .ok (.iconst 0, 1) := by decide +kernel
theorem dX4_can_46 : decode cX4_can 46 = .ok (.istore_n 3, 1) := by decide +kernel
theorem dX4_can_47 : decode cX4_can 47 = .ok (.iinc 4 1, 3) := by decide +kernel
theorem dX4_can_50 : decode cX4_can 50 = .ok (.goto (-45), 3) := by decide +kernel
theorem dX4_can_53 : decode cX4_can 53 = .ok (.iload_n 3, 1) := by decide +kernel
theorem dX4_can_54 : decode cX4_can 54 = .ok (.ireturn, 1) := by decide +kernel
theorem dX4_span_0 : decode cX4_span 0 = .ok (.aload_n 0, 1) := by decide +kernel
theorem dX4_span_1 : decode cX4_span 1 = .ok (.getfield 35, 3) := by decide +kernel
theorem dX4_span_4 : decode cX4_span 4 = .ok (.iload_n 1, 1) := by decide +kernel
theorem dX4_span_5 : decode cX4_span 5 = .ok (.iaload, 1) := by decide +kernel
theorem dX4_span_6 : decode cX4_span 6 = .ok (.ifCond .ne 5, 3) := by decide +kernel
theorem dX4_span_9 : decode cX4_span 9 = .ok (.iconst 0, 1) := by decide +kernel
theorem dX4_span_10 : decode cX4_span 10 = .ok (.ireturn, 1) := by decide +kernel
theorem dX4_span_11 : decode cX4_span 11 = .ok (.aload_n 0, 1) := by decide +kernel
theorem dX4_span_12 : decode cX4_span 12 = .ok (.getfield 23, 3) := by decide +kernel
theorem dX4_span_15 : decode cX4_span 15 = .ok (.iload_n 1, 1) := by decide +kernel
theorem dX4_span_16 : decode cX4_span 16 = .ok (.iaload, 1) := by decide +kernel
theorem dX4_span_17 : decode cX4_span 17 = .ok (.ifCond .ne 8, 3) := by decide +kernel
theorem dX4_span_20 : decode cX4_span 20 = .ok (.bipush (-9), 2) := by decide +kernel
theorem dX4_span_22 : decode cX4_span 22 = .ok (.goto 25, 3) := by decide +kernel
theorem dX4_span_25 : decode cX4_span 25 = .ok (.aload_n 0, 1) := by decide +kernel
theorem dX4_span_26 : decode cX4_span 26 = .ok (.getfield 35, 3) := by decide +kernel
theorem dX4_span_29 : decode cX4_span 29 = .ok (.iload_n 1, 1) := by decide +kernel
theorem dX4_span_30 : decode cX4_span 30 = .ok (.iaload, 1) := by decide +kernel
theorem dX4_span_31 : decode cX4_span 31 = .ok (.aload_n 0, 1) := by decide +kernel
theorem dX4_span_32 : decode cX4_span 32 = .ok (.getfield 23, 3) := by decide +kernel
theorem dX4_span_35 : decode cX4_span 35 = .ok (.iload_n 1, 1) := by decide +kernel
theorem dX4_span_36 : decode cX4_span 36 = .ok (.iaload, 1) := by decide +kernel
theorem dX4_span_37 : decode cX4_span 37 = .ok (.iadd, 1) := by decide +kernel
theorem dX4_span_38 : decode cX4_span 38 = .ok (.iconst 1, 1) := by decide +kernel
theorem dX4_span_39 : decode cX4_span 39 = .ok (.isub, 1) := by decide +kernel
theorem dX4_span_40 : decode cX4_span 40 = .ok (.aload_n 0, 1) := by decide +kernel
theorem dX4_span_41 : decode cX4_span 41 = .ok (.getfield 23, 3) := by decide +kernel
theorem dX4_span_44 : decode cX4_span 44 = .ok (.iload_n 1, 1) := by decide +kernel
theorem dX4_span_45 : decode cX4_span 45 = .ok (.iaload, 1) := by decide +kernel
theorem dX4_span_46 : decode cX4_span 46 = .ok (.idiv, 1) := by decide +kernel
theorem dX4_span_47 : decode cX4_span 47 = .ok (.ireturn, 1) := by decide +kernel
theorem dX4_lastOf_0 : decode cX4_lastOf 0 = .ok (.aload_n 0, 1) := by decide +kernel
theorem dX4_lastOf_1 : decode cX4_lastOf 1 = .ok (.iload_n 1, 1) := by decide +kernel
theorem dX4_lastOf_2 : decode cX4_lastOf 2 = .ok (.invokevirtual 119, 3) := by decide +kernel
theorem dX4_lastOf_5 : decode cX4_lastOf 5 = .ok (.ifCond .ne 12, 3) := by decide +kernel
theorem dX4_lastOf_8 : decode cX4_lastOf 8 = .ok (.aload_n 0, 1) := by decide +kernel
theorem dX4_lastOf_9 : decode cX4_lastOf 9 = .ok (.iload_n 1, 1) := by decide +kernel
theorem dX4_lastOf_10 : decode cX4_lastOf 10 = .ok (.iconst 0, 1) := by decide +kernel
theorem dX4_lastOf_11 : decode cX4_lastOf 11 = .ok (.invokevirtual 122, 3) := by decide +kernel
theorem dX4_lastOf_14 : decode cX4_lastOf 14 = .ok (.ifCond .ne 6, 3) := by decide +kernel
theorem dX4_lastOf_17 : decode cX4_lastOf 17 = .ok (.bipush (-9), 2) := by decide +kernel
theorem dX4_lastOf_19 : decode cX4_lastOf 19 = .ok (.ireturn, 1) := by decide +kernel
theorem dX4_lastOf_20 : decode cX4_lastOf 20 = .ok (.iconst 0, 1) := by decide +kernel
theorem dX4_lastOf_21 : decode cX4_lastOf 21 = .ok (.istore_n 2, 1) := by decide +kernel
theorem dX4_lastOf_22 : decode cX4_lastOf 22 = .ok (.iload_n 2, 1) := by decide +kernel
theorem dX4_lastOf_23 : decode cX4_lastOf 23 = .ok (.bipush 60, 2) := by decide +kernel
theorem dX4_lastOf_25 : decode cX4_lastOf 25 = .ok (.if_icmp .ge 20, 3) := by decide +kernel
theorem dX4_lastOf_28 : decode cX4_lastOf 28 = .ok (.aload_n 0, 1) := by decide +kernel
theorem dX4_lastOf_29 : decode cX4_lastOf 29 = .ok (.iload_n 1, 1) := by decide +kernel
theorem dX4_lastOf_30 : decode cX4_lastOf 30 = .ok (.iload_n 2, 1) := by decide +kernel
theorem dX4_lastOf_31 : decode cX4_lastOf 31 = .ok (.iconst 1, 1) := by decide +kernel
theorem dX4_lastOf_32 : decode cX4_lastOf 32 = .ok (.iadd, 1) := by decide +kernel
theorem dX4_lastOf_33 : decode cX4_lastOf 33 = .ok (.invokevirtual 122, 3) := by decide +kernel
theorem dX4_lastOf_36 : decode cX4_lastOf 36 = .ok (.ifCond .eq 9, 3) := by decide +kernel
theorem dX4_lastOf_39 : decode cX4_lastOf 39 = .ok (.iinc 2 1, 3) := by decide +kernel
theorem dX4_lastOf_42 : decode cX4_lastOf 42 = .ok (.goto (-20), 3) := by decide +kernel
theorem dX4_lastOf_45 : decode cX4_lastOf 45 = .ok (.iload_n 2, 1) := by decide +kernel
theorem dX4_lastOf_46 : decode cX4_lastOf 46 = .ok (.ireturn, 1) := by decide +kernel
theorem dX4_qualities_0 : decode cX4_qualities 0 = .ok (.iconst 0, 1) := by decide +kernel
theorem dX4_qualities_1 : decode cX4_qualities 1 = .ok (.istore_n 2, 1) := by decide +kernel
theorem dX4_qualities_2 : decode cX4_qualities 2 = .ok (.iconst 0, 1) := by decide +kernel
theorem dX4_qualities_3 : decode cX4_qualities 3 = .ok (.istore_n 3, 1) := by decide +kernel
theorem dX4_qualities_4 : decode cX4_qualities 4 = .ok (.iload_n 3, 1) := by decide +kernel
theorem dX4_qualities_5 : decode cX4_qualities 5 = .ok (.aload_n 0, 1) := by decide +kernel
theorem dX4_qualities_6 : decode cX4_qualities 6 = .ok (.getfield 13, 3) := by decide +kernel
theorem dX4_qualities_9 : decode cX4_qualities 9 = .ok (.iconst 0, 1) := by decide +kernel
theorem dX4_qualities_10 : decode cX4_qualities 10 = .ok (.iaload, 1) := by decide +kernel
theorem dX4_qualities_11 : decode cX4_qualities 11 = .ok (.if_icmp .ge 28, 3) := by decide +kernel
theorem dX4_qualities_14 : decode cX4_qualities 14 = .ok (.iload_n 2, 1) := by decide +kernel
theorem dX4_qualities_15 : decode cX4_qualities 15 = .ok (.aload_n 0, 1) := by decide +kernel
theorem dX4_qualities_16 : decode cX4_qualities 16 = .ok (.iload_n 1, 1) := by decide +kernel
theorem dX4_qualities_17 : decode cX4_qualities 17 = .ok (.iload_n 3, 1) := by decide +kernel
theorem dX4_qualities_18 : decode cX4_qualities 18 = .ok (.invokevirtual 116, 3) := by decide +kernel
theorem dX4_qualities_21 : decode cX4_qualities 21 = .ok (.ifCond .le 9, 3) := by decide +kernel
theorem dX4_qualities_24 : decode cX4_qualities 24 = .ok (.iconst 1, 1) := by decide +kernel
theorem dX4_qualities_25 : decode cX4_qualities 25 = .ok (.iload_n 3, 1) := by decide +kernel
theorem dX4_qualities_26 : decode cX4_qualities 26 = .ok (.ishl, 1) := by decide +kernel
theorem dX4_qualities_27 : decode cX4_qualities 27 = .ok (.goto 4, 3) := by decide +kernel
theorem dX4_qualities_30 : decode cX4_qualities 30 = .ok (.iconst 0, 1) := by decide +kernel
theorem dX4_qualities_31 : decode cX4_qualities 31 = .ok (.ior, 1) := by decide +kernel
theorem dX4_qualities_32 : decode cX4_qualities 32 = .ok (.istore_n 2, 1) := by decide +kernel
theorem dX4_qualities_33 : decode cX4_qualities 33 = .ok (.iinc 3 1, 3) := by decide +kernel
theorem dX4_qualities_36 : decode cX4_qualities 36 = .ok (.goto (-32), 3) := by decide +kernel
theorem dX4_qualities_39 : decode cX4_qualities 39 = .ok (.iload_n 2, 1) := by decide +kernel
theorem dX4_qualities_40 : decode cX4_qualities 40 = .ok (.ireturn, 1) := by decide +kernel
theorem dX4_manyOf_0 : decode cX4_manyOf 0 = .ok (.iconst 0, 1) := by decide +kernel
theorem dX4_manyOf_1 : decode cX4_manyOf 1 = .ok (.istore_n 1, 1) := by decide +kernel
theorem dX4_manyOf_2 : decode cX4_manyOf 2 = .ok (.iconst 0, 1) := by decide +kernel
theorem dX4_manyOf_3 : decode cX4_manyOf 3 = .ok (.istore_n 2, 1) := by decide +kernel
theorem dX4_manyOf_4 : decode cX4_manyOf 4 = .ok (.iload_n 2, 1) := by decide +kernel
theorem dX4_manyOf_5 : decode cX4_manyOf 5 = .ok (.bipush 6, 2) := by decide +kernel
theorem dX4_manyOf_7 : decode cX4_manyOf 7 = .ok (.if_icmp .ge 17, 3) := by decide +kernel
theorem dX4_manyOf_10 : decode cX4_manyOf 10 = .ok (.iload_n 1, 1) := by decide +kernel
theorem dX4_manyOf_11 : decode cX4_manyOf 11 = .ok (.iload_n 0, 1) := by decide +kernel
theorem dX4_manyOf_12 : decode cX4_manyOf 12 = .ok (.iload_n 2, 1) := by decide +kernel
theorem dX4_manyOf_13 : decode cX4_manyOf 13 = .ok (.ishr, 1) := by decide +kernel
theorem dX4_manyOf_14 : decode cX4_manyOf 14 = .ok (.iconst 1, 1) := by decide +kernel
theorem dX4_manyOf_15 : decode cX4_manyOf 15 = .ok (.iand, 1) := by decide +kernel
theorem dX4_manyOf_16 : decode cX4_manyOf 16 = .ok (.iadd, 1) := by decide +kernel
theorem dX4_manyOf_17 : decode cX4_manyOf 17 = .ok (.istore_n 1, 1) := by decide +kernel
theorem dX4_manyOf_18 : decode cX4_manyOf 18 = .ok (.iinc 2 1, 3) := by decide +kernel
theorem dX4_manyOf_21 : decode cX4_manyOf 21 = .ok (.goto (-17), 3) := by decide +kernel
theorem dX4_manyOf_24 : decode cX4_manyOf 24 = .ok (.iload_n 1, 1) := by decide +kernel
theorem dX4_manyOf_25 : decode cX4_manyOf 25 = .ok (.ireturn, 1) := by decide +kernel
theorem dX4_decanter_0 : decode cX4_decanter 0 = .ok (.aload_n 0, 1) := by decide +kernel
theorem dX4_decanter_1 : decode cX4_decanter 1 = .ok (.iload_n 1, 1) := by decide +kernel
theorem dX4_decanter_2 : decode cX4_decanter 2 = .ok (.invokevirtual 126, 3) := by decide +kernel
theorem dX4_decanter_5 : decode cX4_decanter 5 = .ok (.ifCond .ne 5, 3) := by decide +kernel
theorem dX4_decanter_8 : decode cX4_decanter 8 = .ok (.iconst (-1), 1) := by decide +kernel
theorem dX4_decanter_9 : decode cX4_decanter 9 = .ok (.ireturn, 1) := by decide +kernel
theorem dX4_decanter_10 : decode cX4_decanter 10 = .ok (.iload_n 2, 1) := by decide +kernel
theorem dX4_decanter_11 : decode cX4_decanter 11 = .ok (.tableswitch 73 0 4 #[33, 40, 47, 57, 67], 33) := by decide +kernel
theorem dX4_decanter_44 : decode cX4_decanter 44 = .ok (.aload_n 0, 1) := by decide +kernel
theorem dX4_decanter_45 : decode cX4_decanter 45 = .ok (.getfield 35, 3) := by decide +kernel
theorem dX4_decanter_48 : decode cX4_decanter 48 = .ok (.iload_n 1, 1) := by decide +kernel
theorem dX4_decanter_49 : decode cX4_decanter 49 = .ok (.iaload, 1) := by decide +kernel
theorem dX4_decanter_50 : decode cX4_decanter 50 = .ok (.ireturn, 1) := by decide +kernel
theorem dX4_decanter_51 : decode cX4_decanter 51 = .ok (.aload_n 0, 1) := by decide +kernel
theorem dX4_decanter_52 : decode cX4_decanter 52 = .ok (.getfield 23, 3) := by decide +kernel
theorem dX4_decanter_55 : decode cX4_decanter 55 = .ok (.iload_n 1, 1) := by decide +kernel
theorem dX4_decanter_56 : decode cX4_decanter 56 = .ok (.iaload, 1) := by decide +kernel
theorem dX4_decanter_57 : decode cX4_decanter 57 = .ok (.ireturn, 1) := by decide +kernel
theorem dX4_decanter_58 : decode cX4_decanter 58 = .ok (.aload_n 0, 1) := by decide +kernel
theorem dX4_decanter_59 : decode cX4_decanter 59 = .ok (.getfield 35, 3) := by decide +kernel
theorem dX4_decanter_62 : decode cX4_decanter 62 = .ok (.bipush 6, 2) := by decide +kernel
theorem dX4_decanter_64 : decode cX4_decanter 64 = .ok (.iload_n 1, 1) := by decide +kernel
theorem dX4_decanter_65 : decode cX4_decanter 65 = .ok (.iadd, 1) := by decide +kernel
theorem dX4_decanter_66 : decode cX4_decanter 66 = .ok (.iaload, 1) := by decide +kernel
theorem dX4_decanter_67 : decode cX4_decanter 67 = .ok (.ireturn, 1) := by decide +kernel
theorem dX4_decanter_68 : decode cX4_decanter 68 = .ok (.aload_n 0, 1) := by decide +kernel
theorem dX4_decanter_69 : decode cX4_decanter 69 = .ok (.getfield 35, 3) := by decide +kernel
theorem dX4_decanter_72 : decode cX4_decanter 72 = .ok (.bipush 12, 2) := by decide +kernel
theorem dX4_decanter_74 : decode cX4_decanter 74 = .ok (.iload_n 1, 1) := by decide +kernel
theorem dX4_decanter_75 : decode cX4_decanter 75 = .ok (.iadd, 1) := by decide +kernel
theorem dX4_decanter_76 : decode cX4_decanter 76 = .ok (.iaload, 1) := by decide +kernel
theorem dX4_decanter_77 : decode cX4_decanter 77 = .ok (.ireturn, 1) := by decide +kernel
theorem dX4_decanter_78 : decode cX4_decanter 78 = .ok (.aload_n 0, 1) := by decide +kernel
theorem dX4_decanter_79 : decode cX4_decanter 79 = .ok (.iload_n 1, 1) := by decide +kernel
theorem dX4_decanter_80 : decode cX4_decanter 80 = .ok (.invokevirtual 129, 3) := by decide +kernel
theorem dX4_decanter_83 : decode cX4_decanter 83 = .ok (.ireturn, 1) := by decide +kernel
theorem dX4_decanter_84 : decode cX4_decanter 84 = .ok (.iconst (-1), 1) := by decide +kernel
theorem dX4_decanter_85 : decode cX4_decanter 85 = .ok (.ireturn, 1) := by decide +kernel
theorem dX4_act_0 : decode cX4_act 0 = .ok (.aload_n 0, 1) := by decide +kernel
theorem dX4_act_1 : decode cX4_act 1 = .ok (.iload_n 1, 1) := by decide +kernel
theorem dX4_act_2 : decode cX4_act 2 = .ok (.invokevirtual 132, 3) := by decide +kernel
theorem dX4_act_5 : decode cX4_act 5 = .ok (.ifCond .ne 5, 3) := by decide +kernel
theorem dX4_act_8 : decode cX4_act 8 = .ok (.iconst (-1), 1) := by decide +kernel
theorem dX4_act_9 : decode cX4_act 9 = .ok (.ireturn, 1) := by decide +kernel
theorem dX4_act_10 : decode cX4_act 10 = .ok (.iload_n 2, 1) := by decide +kernel
theorem dX4_act_11 : decode cX4_act 11 = .ok (.tableswitch 62 0 3 #[29, 36, 42, 56], 29) := by decide +kernel
theorem dX4_act_40 : decode cX4_act 40 = .ok (.aload_n 0, 1) := by decide +kernel
theorem dX4_act_41 : decode cX4_act 41 = .ok (.getfield 29, 3) := by decide +kernel
theorem dX4_act_44 : decode cX4_act 44 = .ok (.iload_n 1, 1) := by decide +kernel
theorem dX4_act_45 : decode cX4_act 45 = .ok (.iaload, 1) := by decide +kernel
theorem dX4_act_46 : decode cX4_act 46 = .ok (.ireturn, 1) := by decide +kernel
theorem dX4_act_47 : decode cX4_act 47 = .ok (.aload_n 0, 1) := by decide +kernel
theorem dX4_act_48 : decode cX4_act 48 = .ok (.iload_n 1, 1) := by decide +kernel
theorem dX4_act_49 : decode cX4_act 49 = .ok (.invokevirtual 135, 3) := by decide +kernel
theorem dX4_act_52 : decode cX4_act 52 = .ok (.ireturn, 1) := by decide +kernel
theorem dX4_act_53 : decode cX4_act 53 = .ok (.aload_n 0, 1) := by decide +kernel
theorem dX4_act_54 : decode cX4_act 54 = .ok (.iload_n 1, 1) := by decide +kernel
theorem dX4_act_55 : decode cX4_act 55 = .ok (.invokevirtual 119, 3) := by decide +kernel
theorem dX4_act_58 : decode cX4_act 58 = .ok (.ifCond .eq 7, 3) := by decide +kernel
theorem dX4_act_61 : decode cX4_act 61 = .ok (.iconst 1, 1) := by decide +kernel
theorem dX4_act_62 : decode cX4_act 62 = .ok (.goto 4, 3) := by decide +kernel
theorem dX4_act_65 : decode cX4_act 65 = .ok (.iconst 0, 1) := by decide +kernel
theorem dX4_act_66 : decode cX4_act 66 = .ok (.ireturn, 1) := by decide +kernel
theorem dX4_act_67 : decode cX4_act 67 = .ok (.aload_n 0, 1) := by decide +kernel
theorem dX4_act_68 : decode cX4_act 68 = .ok (.iload_n 1, 1) := by decide +kernel
theorem dX4_act_69 : decode cX4_act 69 = .ok (.invokevirtual 138, 3) := by decide +kernel
theorem dX4_act_72 : decode cX4_act 72 = .ok (.ireturn, 1) := by decide +kernel
theorem dX4_act_73 : decode cX4_act 73 = .ok (.iconst (-1), 1) := by decide +kernel
theorem dX4_act_74 : decode cX4_act 74 = .ok (.ireturn, 1) := by decide +kernel
theorem dX4_needs_0 : decode cX4_needs 0 = .ok (.aload_n 0, 1) := by decide +kernel
theorem dX4_needs_1 : decode cX4_needs 1 = .ok (.iload_n 1, 1) := by decide +kernel
theorem dX4_needs_2 : decode cX4_needs 2 = .ok (.invokevirtual 132, 3) := by decide +kernel
theorem dX4_needs_5 : decode cX4_needs 5 = .ok (.ifCond .eq 20, 3) := by decide +kernel
theorem dX4_needs_8 : decode cX4_needs 8 = .ok (.aload_n 0, 1) := by decide +kernel
theorem dX4_needs_9 : decode cX4_needs 9 = .ok (.iload_n 2, 1) := by decide +kernel
theorem dX4_needs_10 : decode cX4_needs 10 = .ok (.invokevirtual 126, 3) := by decide +kernel
theorem dX4_needs_13 : decode cX4_needs 13 = .ok (.ifCond .eq 12, 3) := by decide +kernel
theorem dX4_needs_16 : decode cX4_needs 16 = .ok (.aload_n 0, 1) := by decide +kernel
theorem dX4_needs_17 : decode cX4_needs 17 = .ok (.iload_n 1, 1) := by decide +kernel
theorem dX4_needs_18 : decode cX4_needs 18 = .ok (.iload_n 2, 1) := by decide +kernel
theorem dX4_needs_19 : decode cX4_needs 19 = .ok (.invokevirtual 116, 3) := by decide +kernel
theorem dX4_needs_22 : decode cX4_needs 22 = .ok (.goto 4, 3) := by decide +kernel
theorem dX4_needs_25 : decode cX4_needs 25 = .ok (.iconst (-1), 1) := by decide +kernel
theorem dX4_needs_26 : decode cX4_needs 26 = .ok (.ireturn, 1) := by decide +kernel
theorem dX4_know_0 : decode cX4_know 0 = .ok (.aload_n 0, 1) := by decide +kernel
theorem dX4_know_1 : decode cX4_know 1 = .ok (.getfield 35, 3) := by decide +kernel
theorem dX4_know_4 : decode cX4_know 4 = .ok (.bipush 22, 2) := by decide +kernel
theorem dX4_know_6 : decode cX4_know 6 = .ok (.iaload, 1) := by decide +kernel
theorem dX4_know_7 : decode cX4_know 7 = .ok (.bipush 10, 2) := by decide +kernel
theorem dX4_know_9 : decode cX4_know 9 = .ok (.if_icmp .ne 47, 3) := by decide +kernel
theorem dX4_know_12 : decode cX4_know 12 = .ok (.iconst 0, 1) := by decide +kernel
theorem dX4_know_13 : decode cX4_know 13 = .ok (.istore_n 1, 1) := by decide +kernel
theorem dX4_know_14 : decode cX4_know 14 = .ok (.iload_n 1, 1) := by decide +kernel
theorem dX4_know_15 : decode cX4_know 15 = .ok (.sipush 198, 3) := by decide +kernel
theorem dX4_know_18 : decode cX4_know 18 = .ok (.if_icmp .ge 27, 3) := by decide +kernel
theorem dX4_know_21 : decode cX4_know 21 = .ok (.aload_n 0, 1) := by decide +kernel
theorem dX4_know_22 : decode cX4_know 22 = .ok (.getfield 35, 3) := by decide +kernel
theorem dX4_know_25 : decode cX4_know 25 = .ok (.bipush 23, 2) := by decide +kernel
theorem dX4_know_27 : decode cX4_know 27 = .ok (.iload_n 1, 1) := by decide +kernel
theorem dX4_know_28 : decode cX4_know 28 = .ok (.iadd, 1) := by decide +kernel
theorem dX4_know_29 : decode cX4_know 29 = .ok (.aload_n 0, 1) := by decide +kernel
theorem dX4_know_30 : decode cX4_know 30 = .ok (.getfield 35, 3) := by decide +kernel
theorem dX4_know_33 : decode cX4_know 33 = .ok (.bipush 45, 2) := by decide +kernel
theorem dX4_know_35 : decode cX4_know 35 = .ok (.iload_n 1, 1) := by decide +kernel
theorem dX4_know_36 : decode cX4_know 36 = .ok (.iadd, 1) := by decide +kernel
theorem dX4_know_37 : decode cX4_know 37 = .ok (.iaload, 1) := by decide +kernel
theorem dX4_know_38 : decode cX4_know 38 = .ok (.iastore, 1) := by decide +kernel
theorem dX4_know_39 : decode cX4_know 39 = .ok (.iinc 1 1, 3) := by decide +kernel
theorem dX4_know_42 : decode cX4_know 42 = .ok (.goto (-28), 3) := by decide +kernel
theorem dX4_know_45 : decode cX4_know 45 = .ok (.aload_n 0, 1) := by decide +kernel
theorem dX4_know_46 : decode cX4_know 46 = .ok (.getfield 35, 3) := by decide +kernel
theorem dX4_know_49 : decode cX4_know 49 = .ok (.bipush 22, 2) := by decide +kernel
theorem dX4_know_51 : decode cX4_know 51 = .ok (.dup2, 1) := by decide +kernel
theorem dX4_know_52 : decode cX4_know 52 = .ok (.iaload, 1) := by decide +kernel
theorem dX4_know_53 : decode cX4_know 53 = .ok (.iconst 1, 1) := by decide +kernel
theorem dX4_know_54 : decode cX4_know 54 = .ok (.isub, 1) := by decide +kernel
theorem dX4_know_55 : decode cX4_know 55 = .ok (.iastore, 1) := by decide +kernel
theorem dX4_know_56 : decode cX4_know 56 = .ok (.iconst 0, 1) := by decide +kernel
theorem dX4_know_57 : decode cX4_know 57 = .ok (.istore_n 1, 1) := by decide +kernel
theorem dX4_know_58 : decode cX4_know 58 = .ok (.iload_n 1, 1) := by decide +kernel
theorem dX4_know_59 : decode cX4_know 59 = .ok (.bipush 22, 2) := by decide +kernel
theorem dX4_know_61 : decode cX4_know 61 = .ok (.if_icmp .ge 35, 3) := by decide +kernel
theorem dX4_know_64 : decode cX4_know 64 = .ok (.aload_n 0, 1) := by decide +kernel
theorem dX4_know_65 : decode cX4_know 65 = .ok (.getfield 35, 3) := by decide +kernel
theorem dX4_know_68 : decode cX4_know 68 = .ok (.bipush 23, 2) := by decide +kernel
theorem dX4_know_70 : decode cX4_know 70 = .ok (.bipush 22, 2) := by decide +kernel
theorem dX4_know_72 : decode cX4_know 72 = .ok (.aload_n 0, 1) := by decide +kernel
theorem dX4_know_73 : decode cX4_know 73 = .ok (.getfield 35, 3) := by decide +kernel
theorem dX4_know_76 : decode cX4_know 76 = .ok (.bipush 22, 2) := by decide +kernel
theorem dX4_know_78 : decode cX4_know 78 = .ok (.iaload, 1) := by decide +kernel
theorem dX4_know_79 : decode cX4_know 79 = .ok (.imul, 1) := by decide +kernel
theorem dX4_know_80 : decode cX4_know 80 = .ok (.iadd, 1) := by decide +kernel
theorem dX4_know_81 : decode cX4_know 81 = .ok (.iload_n 1, 1) := by decide +kernel
theorem dX4_know_82 : decode cX4_know 82 = .ok (.iadd, 1) := by decide +kernel
theorem dX4_know_83 : decode cX4_know 83 = .ok (.aload_n 0, 1) := by decide +kernel
theorem dX4_know_84 : decode cX4_know 84 = .ok (.getfield 35, 3) := by decide +kernel
theorem dX4_know_87 : decode cX4_know 87 = .ok (.iload_n 1, 1) := by decide +kernel
theorem dX4_know_88 : decode cX4_know 88 = .ok (.iaload, 1) := by decide +kernel
theorem dX4_know_89 : decode cX4_know 89 = .ok (.iastore, 1) := by decide +kernel
theorem dX4_know_90 : decode cX4_know 90 = .ok (.iinc 1 1, 3) := by decide +kernel
theorem dX4_know_93 : decode cX4_know 93 = .ok (.goto (-35), 3) := by decide +kernel
theorem dX4_know_96 : decode cX4_know 96 = .ok (.aload_n 0, 1) := by decide +kernel
theorem dX4_know_97 : decode cX4_know 97 = .ok (.getfield 35, 3) := by decide +kernel
theorem dX4_know_100 : decode cX4_know 100 = .ok (.bipush 22, 2) := by decide +kernel
theorem dX4_know_102 : decode cX4_know 102 = .ok (.dup2, 1) := by decide +kernel
theorem dX4_know_103 : decode cX4_know 103 = .ok (.iaload, 1) := by decide +kernel
theorem dX4_know_104 : decode cX4_know 104 = .ok (.iconst 1, 1) := by decide +kernel
theorem dX4_know_105 : decode cX4_know 105 = .ok (.iadd, 1) := by decide +kernel
theorem dX4_know_106 : decode cX4_know 106 = .ok (.iastore, 1) := by decide +kernel
theorem dX4_know_107 : decode cX4_know 107 = .ok (.return_, 1) := by decide +kernel
theorem dX4_settle_0 : decode cX4_settle 0 = .ok (.iconst 0, 1) := by decide +kernel
theorem dX4_settle_1 : decode cX4_settle 1 = .ok (.istore_n 1, 1) := by decide +kernel
theorem dX4_settle_2 : decode cX4_settle 2 = .ok (.iload_n 1, 1) := by decide +kernel
theorem dX4_settle_3 : decode cX4_settle 3 = .ok (.aload_n 0, 1) := by decide +kernel
theorem dX4_settle_4 : decode cX4_settle 4 = .ok (.getfield 13, 3) := by decide +kernel
theorem dX4_settle_7 : decode cX4_settle 7 = .ok (.iconst 0, 1) := by decide +kernel
theorem dX4_settle_8 : decode cX4_settle 8 = .ok (.iaload, 1) := by decide +kernel
theorem dX4_settle_9 : decode cX4_settle 9 = .ok (.if_icmp .ge 54, 3) := by decide +kernel
theorem dX4_settle_12 : decode cX4_settle 12 = .ok (.aload_n 0, 1) := by decide +kernel
theorem dX4_settle_13 : decode cX4_settle 13 = .ok (.getfield 35, 3) := by decide +kernel
theorem dX4_settle_16 : decode cX4_settle 16 = .ok (.bipush 6, 2) := by decide +kernel
theorem dX4_settle_18 : decode cX4_settle 18 = .ok (.iload_n 1, 1) := by decide +kernel
theorem dX4_settle_19 : decode cX4_settle 19 = .ok (.iadd, 1) := by decide +kernel
theorem dX4_settle_20 : decode cX4_settle 20 = .ok (.aload_n 0, 1) := by decide +kernel
theorem dX4_settle_21 : decode cX4_settle 21 = .ok (.getfield 35, 3) := by decide +kernel
theorem dX4_settle_24 : decode cX4_settle 24 = .ok (.bipush 6, 2) := by decide +kernel
theorem dX4_settle_26 : decode cX4_settle 26 = .ok (.iload_n 1, 1) := by decide +kernel
theorem dX4_settle_27 : decode cX4_settle 27 = .ok (.iadd, 1) := by decide +kernel
theorem dX4_settle_28 : decode cX4_settle 28 = .ok (.iaload, 1) := by decide +kernel
theorem dX4_settle_29 : decode cX4_settle 29 = .ok (.aload_n 0, 1) := by decide +kernel
theorem dX4_settle_30 : decode cX4_settle 30 = .ok (.getfield 35, 3) := by decide +kernel
theorem dX4_settle_33 : decode cX4_settle 33 = .ok (.iload_n 1, 1) := by decide +kernel
theorem dX4_settle_34 : decode cX4_settle 34 = .ok (.iaload, 1) := by decide +kernel
theorem dX4_settle_35 : decode cX4_settle 35 = .ok (.if_icmp .le 12, 3) := by decide +kernel
theorem dX4_settle_38 : decode cX4_settle 38 = .ok (.aload_n 0, 1) := by decide +kernel
theorem dX4_settle_39 : decode cX4_settle 39 = .ok (.getfield 35, 3) := by decide +kernel
theorem dX4_settle_42 : decode cX4_settle 42 = .ok (.iload_n 1, 1) := by decide +kernel
theorem dX4_settle_43 : decode cX4_settle 43 = .ok (.iaload, 1) := by decide +kernel
theorem dX4_settle_44 : decode cX4_settle 44 = .ok (.goto 12, 3) := by decide +kernel
theorem dX4_settle_47 : decode cX4_settle 47 = .ok (.aload_n 0, 1) := by decide +kernel
theorem dX4_settle_48 : decode cX4_settle 48 = .ok (.getfield 35, 3) := by decide +kernel
theorem dX4_settle_51 : decode cX4_settle 51 = .ok (.bipush 6, 2) := by decide +kernel
theorem dX4_settle_53 : decode cX4_settle 53 = .ok (.iload_n 1, 1) := by decide +kernel
theorem dX4_settle_54 : decode cX4_settle 54 = .ok (.iadd, 1) := by decide +kernel
theorem dX4_settle_55 : decode cX4_settle 55 = .ok (.iaload, 1) := by decide +kernel
theorem dX4_settle_56 : decode cX4_settle 56 = .ok (.iastore, 1) := by decide +kernel
theorem dX4_settle_57 : decode cX4_settle 57 = .ok (.iinc 1 1, 3) := by decide +kernel
theorem dX4_settle_60 : decode cX4_settle 60 = .ok (.goto (-58), 3) := by decide +kernel
theorem dX4_settle_63 : decode cX4_settle 63 = .ok (.return_, 1) := by decide +kernel
theorem dX4_pours_0 : decode cX4_pours 0 = .ok (.aload_n 0, 1) := by decide +kernel
theorem dX4_pours_1 : decode cX4_pours 1 = .ok (.iload_n 1, 1) := by decide +kernel
theorem dX4_pours_2 : decode cX4_pours 2 = .ok (.invokevirtual 132, 3) := by decide +kernel
theorem dX4_pours_5 : decode cX4_pours 5 = .ok (.ifCond .ne 5, 3) := by decide +kernel
theorem dX4_pours_8 : decode cX4_pours 8 = .ok (.iconst (-1), 1) := by decide +kernel
theorem dX4_pours_9 : decode cX4_pours 9 = .ok (.ireturn, 1) := by decide +kernel
theorem dX4_pours_10 : decode cX4_pours 10 = .ok (.aload_n 0, 1) := by decide +kernel
theorem dX4_pours_11 : decode cX4_pours 11 = .ok (.iload_n 1, 1) := by decide +kernel
theorem dX4_pours_12 : decode cX4_pours 12 = .ok (.invokevirtual 119, 3) := by decide +kernel
theorem dX4_pours_15 : decode cX4_pours 15 = .ok (.ifCond .ne 12, 3) := by decide +kernel
theorem dX4_pours_18 : decode cX4_pours 18 = .ok (.aload_n 0, 1) := by decide +kernel
theorem dX4_pours_19 : decode cX4_pours 19 = .ok (.iload_n 1, 1) := by decide +kernel
theorem dX4_pours_20 : decode cX4_pours 20 = .ok (.iconst 0, 1) := by decide +kernel
theorem dX4_pours_21 : decode cX4_pours 21 = .ok (.invokevirtual 122, 3) := by decide +kernel
theorem dX4_pours_24 : decode cX4_pours 24 = .ok (.ifCond .ne 6, 3) := by decide +kernel
theorem dX4_pours_27 : decode cX4_pours 27 = .ok (.bipush (-2), 2) := by decide +kernel
theorem dX4_pours_29 : decode cX4_pours 29 = .ok (.ireturn, 1) := by decide +kernel
theorem dX4_pours_30 : decode cX4_pours 30 = .ok (.aload_n 0, 1) := by decide +kernel
theorem dX4_pours_31 : decode cX4_pours 31 = .ok (.invokevirtual 141, 3) := by decide +kernel
theorem dX4_pours_34 : decode cX4_pours 34 = .ok (.iconst 1, 1) := by decide +kernel
theorem dX4_pours_35 : decode cX4_pours 35 = .ok (.istore_n 2, 1) := by decide +kernel
theorem dX4_pours_36 : decode cX4_pours 36 = .ok (.iconst 0, 1) := by decide +kernel
theorem dX4_pours_37 : decode cX4_pours 37 = .ok (.istore_n 3, 1) := by decide +kernel
theorem dX4_pours_38 : decode cX4_pours 38 = .ok (.iload_n 3, 1) := by decide +kernel
theorem dX4_pours_39 : decode cX4_pours 39 = .ok (.aload_n 0, 1) := by decide +kernel
theorem dX4_pours_40 : decode cX4_pours 40 = .ok (.getfield 13, 3) := by decide +kernel
theorem dX4_pours_43 : decode cX4_pours 43 = .ok (.iconst 0, 1) := by decide +kernel
theorem dX4_pours_44 : decode cX4_pours 44 = .ok (.iaload, 1) := by decide +kernel
theorem dX4_pours_45 : decode cX4_pours 45 = .ok (.if_icmp .ge 70, 3) := by decide +kernel
theorem dX4_pours_48 : decode cX4_pours 48 = .ok (.aload_n 0, 1) := by decide +kernel
theorem dX4_pours_49 : decode cX4_pours 49 = .ok (.iload_n 3, 1) := by decide +kernel
theorem dX4_pours_50 : decode cX4_pours 50 = .ok (.invokevirtual 109, 3) := by decide +kernel
theorem dX4_pours_53 : decode cX4_pours 53 = .ok (.istore 4, 2) := by decide +kernel
theorem dX4_pours_55 : decode cX4_pours 55 = .ok (.iload_n 2, 1) := by decide +kernel
theorem dX4_pours_56 : decode cX4_pours 56 = .ok (.ifCond .eq 35, 3) := by decide +kernel
theorem dX4_pours_59 : decode cX4_pours 59 = .ok (.aload_n 0, 1) := by decide +kernel
theorem dX4_pours_60 : decode cX4_pours 60 = .ok (.iload_n 1, 1) := by decide +kernel
theorem dX4_pours_61 : decode cX4_pours 61 = .ok (.iload_n 3, 1) := by decide +kernel
theorem dX4_pours_62 : decode cX4_pours 62 = .ok (.invokevirtual 116, 3) := by decide +kernel
theorem dX4_pours_65 : decode cX4_pours 65 = .ok (.ifCond .eq 22, 3) := by decide +kernel
theorem dX4_pours_68 : decode cX4_pours 68 = .ok (.iload 4, 2) := by decide +kernel
theorem dX4_pours_70 : decode cX4_pours 70 = .ok (.iload_n 3, 1) := by decide +kernel
theorem dX4_pours_71 : decode cX4_pours 71 = .ok (.if_icmp .ne 20, 3) := by decide +kernel
theorem dX4_pours_74 : decode cX4_pours 74 = .ok (.aload_n 0, 1) := by decide +kernel
theorem dX4_pours_75 : decode cX4_pours 75 = .ok (.getfield 35, 3) := by decide +kernel
theorem dX4_pours_78 : decode cX4_pours 78 = .ok (.bipush 6, 2) := by decide +kernel
theorem dX4_pours_80 : decode cX4_pours 80 = .ok (.iload 4, 2) := by decide +kernel
theorem dX4_pours_82 : decode cX4_pours 82 = .ok (.iadd, 1) := by decide +kernel
theorem dX4_pours_83 : decode cX4_pours 83 = .ok (.iaload, 1) := by decide +kernel
theorem dX4_pours_84 : decode cX4_pours 84 = .ok (.ifCond .ne 7, 3) := by decide +kernel
theorem dX4_pours_87 : decode cX4_pours 87 = .ok (.iconst 1, 1) := by decide +kernel
theorem dX4_pours_88 : decode cX4_pours 88 = .ok (.goto 4, 3) := by decide +kernel
theorem dX4_pours_91 : decode cX4_pours 91 = .ok (.iconst 0, 1) := by decide +kernel
theorem dX4_pours_92 : decode cX4_pours 92 = .ok (.istore_n 2, 1) := by decide +kernel
theorem dX4_pours_93 : decode cX4_pours 93 = .ok (.aload_n 0, 1) := by decide +kernel
theorem dX4_pours_94 : decode cX4_pours 94 = .ok (.getfield 35, 3) := by decide +kernel
theorem dX4_pours_97 : decode cX4_pours 97 = .ok (.iload 4, 2) := by decide +kernel
theorem dX4_pours_99 : decode cX4_pours 99 = .ok (.dup2, 1) := by decide +kernel
theorem dX4_pours_100 : decode cX4_pours 100 = .ok (.iaload, 1) := by decide +kernel
theorem dX4_pours_101 : decode cX4_pours 101 = .ok (.aload_n 0, 1) := by decide +kernel
theorem dX4_pours_102 : decode cX4_pours 102 = .ok (.iload_n 1, 1) := by decide +kernel
theorem dX4_pours_103 : decode cX4_pours 103 = .ok (.iload_n 3, 1) := by decide +kernel
theorem dX4_pours_104 : decode cX4_pours 104 = .ok (.invokevirtual 116, 3) := by decide +kernel
theorem dX4_pours_107 : decode cX4_pours 107 = .ok (.isub, 1) := by decide +kernel
theorem dX4_pours_108 : decode cX4_pours 108 = .ok (.iastore, 1) := by decide +kernel
theorem dX4_pours_109 : decode cX4_pours 109 = .ok (.iinc 3 1, 3) := by decide +kernel
theorem dX4_pours_112 : decode cX4_pours 112 = .ok (.goto (-74), 3) := by decide +kernel
theorem dX4_pours_115 : decode cX4_pours 115 = .ok (.aload_n 0, 1) := by decide +kernel
theorem dX4_pours_116 : decode cX4_pours 116 = .ok (.invokevirtual 144, 3) := by decide +kernel
theorem dX4_pours_119 : decode cX4_pours 119 = .ok (.aload_n 0, 1) := by decide +kernel
theorem dX4_pours_120 : decode cX4_pours 120 = .ok (.getfield 35, 3) := by decide +kernel
theorem dX4_pours_123 : decode cX4_pours 123 = .ok (.bipush 19, 2) := by decide +kernel
theorem dX4_pours_125 : decode cX4_pours 125 = .ok (.dup2, 1) := by decide +kernel
theorem dX4_pours_126 : decode cX4_pours 126 = .ok (.iaload, 1) := by decide +kernel
theorem dX4_pours_127 : decode cX4_pours 127 = .ok (.iconst 1, 1) := by decide +kernel
theorem dX4_pours_128 : decode cX4_pours 128 = .ok (.iload_n 1, 1) := by decide +kernel
theorem dX4_pours_129 : decode cX4_pours 129 = .ok (.ishl, 1) := by decide +kernel
theorem dX4_pours_130 : decode cX4_pours 130 = .ok (.ior, 1) := by decide +kernel
theorem dX4_pours_131 : decode cX4_pours 131 = .ok (.iastore, 1) := by decide +kernel
theorem dX4_pours_132 : decode cX4_pours 132 = .ok (.aload_n 0, 1) := by decide +kernel
theorem dX4_pours_133 : decode cX4_pours 133 = .ok (.getfield 35, 3) := by decide +kernel
theorem dX4_pours_136 : decode cX4_pours 136 = .ok (.bipush 20, 2) := by decide +kernel
theorem dX4_pours_138 : decode cX4_pours 138 = .ok (.dup2, 1) := by decide +kernel
theorem dX4_pours_139 : decode cX4_pours 139 = .ok (.iaload, 1) := by decide +kernel
theorem dX4_pours_140 : decode cX4_pours 140 = .ok (.iload_n 2, 1) := by decide +kernel
theorem dX4_pours_141 : decode cX4_pours 141 = .ok (.ifCond .eq 12, 3) := by decide +kernel
theorem dX4_pours_144 : decode cX4_pours 144 = .ok (.aload_n 0, 1) := by decide +kernel
theorem dX4_pours_145 : decode cX4_pours 145 = .ok (.getfield 29, 3) := by decide +kernel
theorem dX4_pours_148 : decode cX4_pours 148 = .ok (.iload_n 1, 1) := by decide +kernel
theorem dX4_pours_149 : decode cX4_pours 149 = .ok (.iaload, 1) := by decide +kernel
theorem dX4_pours_150 : decode cX4_pours 150 = .ok (.goto 4, 3) := by decide +kernel
theorem dX4_pours_153 : decode cX4_pours 153 = .ok (.iconst 0, 1) := by decide +kernel
theorem dX4_pours_154 : decode cX4_pours 154 = .ok (.iadd, 1) := by decide +kernel
theorem dX4_pours_155 : decode cX4_pours 155 = .ok (.iastore, 1) := by decide +kernel
theorem dX4_pours_156 : decode cX4_pours 156 = .ok (.aload_n 0, 1) := by decide +kernel
theorem dX4_pours_157 : decode cX4_pours 157 = .ok (.getfield 35, 3) := by decide +kernel
theorem dX4_pours_160 : decode cX4_pours 160 = .ok (.bipush 21, 2) := by decide +kernel
theorem dX4_pours_162 : decode cX4_pours 162 = .ok (.dup2, 1) := by decide +kernel
theorem dX4_pours_163 : decode cX4_pours 163 = .ok (.iaload, 1) := by decide +kernel
theorem dX4_pours_164 : decode cX4_pours 164 = .ok (.iload_n 2, 1) := by decide +kernel
theorem dX4_pours_165 : decode cX4_pours 165 = .ok (.ifCond .eq 7, 3) := by decide +kernel
theorem dX4_pours_168 : decode cX4_pours 168 = .ok (.iconst 0, 1) := by decide +kernel
theorem dX4_pours_169 : decode cX4_pours 169 = .ok (.goto 4, 3) := by decide +kernel
theorem dX4_pours_172 : decode cX4_pours 172 = .ok (.iconst 1, 1) := by decide +kernel
theorem dX4_pours_173 : decode cX4_pours 173 = .ok (.iadd, 1) := by decide +kernel
theorem dX4_pours_174 : decode cX4_pours 174 = .ok (.iastore, 1) := by decide +kernel
theorem dX4_pours_175 : decode cX4_pours 175 = .ok (.iload_n 2, 1) := by decide +kernel
theorem dX4_pours_176 : decode cX4_pours 176 = .ok (.ifCond .eq 7, 3) := by decide +kernel
theorem dX4_pours_179 : decode cX4_pours 179 = .ok (.iconst 1, 1) := by decide +kernel
theorem dX4_pours_180 : decode cX4_pours 180 = .ok (.goto 4, 3) := by decide +kernel
theorem dX4_pours_183 : decode cX4_pours 183 = .ok (.iconst 0, 1) := by decide +kernel
theorem dX4_pours_184 : decode cX4_pours 184 = .ok (.ireturn, 1) := by decide +kernel
theorem dX4_month_0 : decode cX4_month 0 = .ok (.aload_n 0, 1) := by decide +kernel
theorem dX4_month_1 : decode cX4_month 1 = .ok (.getfield 35, 3) := by decide +kernel
theorem dX4_month_4 : decode cX4_month 4 = .ok (.bipush 18, 2) := by decide +kernel
theorem dX4_month_6 : decode cX4_month 6 = .ok (.iaload, 1) := by decide +kernel
theorem dX4_month_7 : decode cX4_month 7 = .ok (.sipush 999, 3) := by decide +kernel
theorem dX4_month_10 : decode cX4_month 10 = .ok (.if_icmp .ne 6, 3) := by decide +kernel
theorem dX4_month_13 : decode cX4_month 13 = .ok (.bipush (-2), 2) := by decide +kernel
theorem dX4_month_15 : decode cX4_month 15 = .ok (.ireturn, 1) := by decide +kernel
theorem dX4_month_16 : decode cX4_month 16 = .ok (.aload_n 0, 1) := by decide +kernel
theorem dX4_month_17 : decode cX4_month 17 = .ok (.invokevirtual 141, 3) := by decide +kernel
theorem dX4_month_20 : decode cX4_month 20 = .ok (.iconst 0, 1) := by decide +kernel
theorem dX4_month_21 : decode cX4_month 21 = .ok (.istore_n 1, 1) := by decide +kernel
theorem dX4_month_22 : decode cX4_month 22 = .ok (.iload_n 1, 1) := by decide +kernel
theorem dX4_month_23 : decode cX4_month 23 = .ok (.aload_n 0, 1) := by decide +kernel
theorem dX4_month_24 : decode cX4_month 24 = .ok (.getfield 13, 3) := by decide +kernel
theorem dX4_month_27 : decode cX4_month 27 = .ok (.iconst 0, 1) := by decide +kernel
theorem dX4_month_28 : decode cX4_month 28 = .ok (.iaload, 1) := by decide +kernel
theorem dX4_month_29 : decode cX4_month 29 = .ok (.if_icmp .ge 21, 3) := by decide +kernel
theorem dX4_month_32 : decode cX4_month 32 = .ok (.aload_n 0, 1) := by decide +kernel
theorem dX4_month_33 : decode cX4_month 33 = .ok (.getfield 35, 3) := by decide +kernel
theorem dX4_month_36 : decode cX4_month 36 = .ok (.iload_n 1, 1) := by decide +kernel
theorem dX4_month_37 : decode cX4_month 37 = .ok (.aload_n 0, 1) := by decide +kernel
theorem dX4_month_38 : decode cX4_month 38 = .ok (.iload_n 1, 1) := by decide +kernel
theorem dX4_month_39 : decode cX4_month 39 = .ok (.iconst 1, 1) := by decide +kernel
theorem dX4_month_40 : decode cX4_month 40 = .ok (.invokevirtual 113, 3) := by decide +kernel
theorem dX4_month_43 : decode cX4_month 43 = .ok (.iastore, 1) := by decide +kernel
theorem dX4_month_44 : decode cX4_month 44 = .ok (.iinc 1 1, 3) := by decide +kernel
theorem dX4_month_47 : decode cX4_month 47 = .ok (.goto (-25), 3) := by decide +kernel
theorem dX4_month_50 : decode cX4_month 50 = .ok (.aload_n 0, 1) := by decide +kernel
theorem dX4_month_51 : decode cX4_month 51 = .ok (.invokevirtual 144, 3) := by decide +kernel
theorem dX4_month_54 : decode cX4_month 54 = .ok (.aload_n 0, 1) := by decide +kernel
theorem dX4_month_55 : decode cX4_month 55 = .ok (.getfield 35, 3) := by decide +kernel
theorem dX4_month_58 : decode cX4_month 58 = .ok (.bipush 18, 2) := by decide +kernel
theorem dX4_month_60 : decode cX4_month 60 = .ok (.dup2, 1) := by decide +kernel
theorem dX4_month_61 : decode cX4_month 61 = .ok (.iaload, 1) := by decide +kernel
theorem dX4_month_62 : decode cX4_month 62 = .ok (.iconst 1, 1) := by decide +kernel
theorem dX4_month_63 : decode cX4_month 63 = .ok (.iadd, 1) := by decide +kernel
theorem dX4_month_64 : decode cX4_month 64 = .ok (.iastore, 1) := by decide +kernel
theorem dX4_month_65 : decode cX4_month 65 = .ok (.aload_n 0, 1) := by decide +kernel
theorem dX4_month_66 : decode cX4_month 66 = .ok (.getfield 35, 3) := by decide +kernel
theorem dX4_month_69 : decode cX4_month 69 = .ok (.bipush 18, 2) := by decide +kernel
theorem dX4_month_71 : decode cX4_month 71 = .ok (.iaload, 1) := by decide +kernel
theorem dX4_month_72 : decode cX4_month 72 = .ok (.ireturn, 1) := by decide +kernel
theorem dX4_tops_0 : decode cX4_tops 0 = .ok (.aload_n 0, 1) := by decide +kernel
theorem dX4_tops_1 : decode cX4_tops 1 = .ok (.iload_n 1, 1) := by decide +kernel
theorem dX4_tops_2 : decode cX4_tops 2 = .ok (.invokevirtual 126, 3) := by decide +kernel
theorem dX4_tops_5 : decode cX4_tops 5 = .ok (.ifCond .eq 13, 3) := by decide +kernel
theorem dX4_tops_8 : decode cX4_tops 8 = .ok (.iload_n 2, 1) := by decide +kernel
theorem dX4_tops_9 : decode cX4_tops 9 = .ok (.iconst 1, 1) := by decide +kernel
theorem dX4_tops_10 : decode cX4_tops 10 = .ok (.bipush 40, 2) := by decide +kernel
theorem dX4_tops_12 : decode cX4_tops 12 = .ok (.invokestatic 57, 3) := by decide +kernel
theorem dX4_tops_15 : decode cX4_tops 15 = .ok (.ifCond .ne 5, 3) := by decide +kernel
theorem dX4_tops_18 : decode cX4_tops 18 = .ok (.iconst (-1), 1) := by decide +kernel
theorem dX4_tops_19 : decode cX4_tops 19 = .ok (.ireturn, 1) := by decide +kernel
theorem dX4_tops_20 : decode cX4_tops 20 = .ok (.aload_n 0, 1) := by decide +kernel
theorem dX4_tops_21 : decode cX4_tops 21 = .ok (.getfield 35, 3) := by decide +kernel
theorem dX4_tops_24 : decode cX4_tops 24 = .ok (.iload_n 1, 1) := by decide +kernel
theorem dX4_tops_25 : decode cX4_tops 25 = .ok (.iaload, 1) := by decide +kernel
theorem dX4_tops_26 : decode cX4_tops 26 = .ok (.iload_n 2, 1) := by decide +kernel
theorem dX4_tops_27 : decode cX4_tops 27 = .ok (.iadd, 1) := by decide +kernel
theorem dX4_tops_28 : decode cX4_tops 28 = .ok (.bipush 40, 2) := by decide +kernel
theorem dX4_tops_30 : decode cX4_tops 30 = .ok (.if_icmp .le 6, 3) := by decide +kernel
theorem dX4_tops_33 : decode cX4_tops 33 = .ok (.bipush (-2), 2) := by decide +kernel
theorem dX4_tops_35 : decode cX4_tops 35 = .ok (.ireturn, 1) := by decide +kernel
theorem dX4_tops_36 : decode cX4_tops 36 = .ok (.aload_n 0, 1) := by decide +kernel
theorem dX4_tops_37 : decode cX4_tops 37 = .ok (.invokevirtual 141, 3) := by decide +kernel
theorem dX4_tops_40 : decode cX4_tops 40 = .ok (.aload_n 0, 1) := by decide +kernel
theorem dX4_tops_41 : decode cX4_tops 41 = .ok (.getfield 35, 3) := by decide +kernel
theorem dX4_tops_44 : decode cX4_tops 44 = .ok (.iload_n 1, 1) := by decide +kernel
theorem dX4_tops_45 : decode cX4_tops 45 = .ok (.dup2, 1) := by decide +kernel
theorem dX4_tops_46 : decode cX4_tops 46 = .ok (.iaload, 1) := by decide +kernel
theorem dX4_tops_47 : decode cX4_tops 47 = .ok (.iload_n 2, 1) := by decide +kernel
theorem dX4_tops_48 : decode cX4_tops 48 = .ok (.iadd, 1) := by decide +kernel
theorem dX4_tops_49 : decode cX4_tops 49 = .ok (.iastore, 1) := by decide +kernel
theorem dX4_tops_50 : decode cX4_tops 50 = .ok (.aload_n 0, 1) := by decide +kernel
theorem dX4_tops_51 : decode cX4_tops 51 = .ok (.getfield 35, 3) := by decide +kernel
theorem dX4_tops_54 : decode cX4_tops 54 = .ok (.bipush 6, 2) := by decide +kernel
theorem dX4_tops_56 : decode cX4_tops 56 = .ok (.iload_n 1, 1) := by decide +kernel
theorem dX4_tops_57 : decode cX4_tops 57 = .ok (.iadd, 1) := by decide +kernel
theorem dX4_tops_58 : decode cX4_tops 58 = .ok (.dup2, 1) := by decide +kernel
theorem dX4_tops_59 : decode cX4_tops 59 = .ok (.iaload, 1) := by decide +kernel
theorem dX4_tops_60 : decode cX4_tops 60 = .ok (.iload_n 2, 1) := by decide +kernel
theorem dX4_tops_61 : decode cX4_tops 61 = .ok (.iadd, 1) := by decide +kernel
theorem dX4_tops_62 : decode cX4_tops 62 = .ok (.iastore, 1) := by decide +kernel
theorem dX4_tops_63 : decode cX4_tops 63 = .ok (.aload_n 0, 1) := by decide +kernel
theorem dX4_tops_64 : decode cX4_tops 64 = .ok (.getfield 35, 3) := by decide +kernel
theorem dX4_tops_67 : decode cX4_tops 67 = .ok (.iload_n 1, 1) := by decide +kernel
theorem dX4_tops_68 : decode cX4_tops 68 = .ok (.iaload, 1) := by decide +kernel
theorem dX4_tops_69 : decode cX4_tops 69 = .ok (.ireturn, 1) := by decide +kernel
theorem dX4_rightOnes_0 : decode cX4_rightOnes 0 = .ok (.iconst 0, 1) := by decide +kernel
theorem dX4_rightOnes_1 : decode cX4_rightOnes 1 = .ok (.istore_n 1, 1) := by decide +kernel
theorem dX4_rightOnes_2 : decode cX4_rightOnes 2 = .ok (.iconst 0, 1) := by decide +kernel
theorem dX4_rightOnes_3 : decode cX4_rightOnes 3 = .ok (.istore_n 2, 1) := by decide +kernel
theorem dX4_rightOnes_4 : decode cX4_rightOnes 4 = .ok (.iload_n 2, 1) := by decide +kernel
theorem dX4_rightOnes_5 : decode cX4_rightOnes 5 = .ok (.aload_n 0, 1) := by decide +kernel
theorem dX4_rightOnes_6 : decode cX4_rightOnes 6 = .ok (.getfield 13, 3) := by decide +kernel
theorem dX4_rightOnes_9 : decode cX4_rightOnes 9 = .ok (.iconst 0, 1) := by decide +kernel
theorem dX4_rightOnes_10 : decode cX4_rightOnes 10 = .ok (.iaload, 1) := by decide +kernel
theorem dX4_rightOnes_11 : decode cX4_rightOnes 11 = .ok (.if_icmp .ge 30, 3) := by decide +kernel
theorem dX4_rightOnes_14 : decode cX4_rightOnes 14 = .ok (.iload_n 1, 1) := by decide +kernel
theorem dX4_rightOnes_15 : decode cX4_rightOnes 15 = .ok (.aload_n 0, 1) := by decide +kernel
theorem dX4_rightOnes_16 : decode cX4_rightOnes 16 = .ok (.getfield 35, 3) := by decide +kernel
theorem dX4_rightOnes_19 : decode cX4_rightOnes 19 = .ok (.bipush 12, 2) := by decide +kernel
theorem dX4_rightOnes_21 : decode cX4_rightOnes 21 = .ok (.iload_n 2, 1) := by decide +kernel
theorem dX4_rightOnes_22 : decode cX4_rightOnes 22 = .ok (.iadd, 1) := by decide +kernel
theorem dX4_rightOnes_23 : decode cX4_rightOnes 23 = .ok (.iaload, 1) := by decide +kernel
theorem dX4_rightOnes_24 : decode cX4_rightOnes 24 = .ok (.iload_n 2, 1) := by decide +kernel
theorem dX4_rightOnes_25 : decode cX4_rightOnes 25 = .ok (.if_icmp .ne 7, 3) := by decide +kernel
theorem dX4_rightOnes_28 : decode cX4_rightOnes 28 = .ok (.iconst 1, 1) := by decide +kernel
theorem dX4_rightOnes_29 : decode cX4_rightOnes 29 = .ok (.goto 4, 3) := by decide +kernel
theorem dX4_rightOnes_32 : decode cX4_rightOnes 32 = .ok (.iconst 0, 1) := by decide +kernel
theorem dX4_rightOnes_33 : decode cX4_rightOnes 33 = .ok (.iadd, 1) := by decide +kernel
theorem dX4_rightOnes_34 : decode cX4_rightOnes 34 = .ok (.istore_n 1, 1) := by decide +kernel
theorem dX4_rightOnes_35 : decode cX4_rightOnes 35 = .ok (.iinc 2 1, 3) := by decide +kernel
theorem dX4_rightOnes_38 : decode cX4_rightOnes 38 = .ok (.goto (-34), 3) := by decide +kernel
theorem dX4_rightOnes_41 : decode cX4_rightOnes 41 = .ok (.iload_n 1, 1) := by decide +kernel
theorem dX4_rightOnes_42 : decode cX4_rightOnes 42 = .ok (.ireturn, 1) := by decide +kernel
theorem dX4_labels_0 : decode cX4_labels 0 = .ok (.aload_n 0, 1) := by decide +kernel
theorem dX4_labels_1 : decode cX4_labels 1 = .ok (.iload_n 1, 1) := by decide +kernel
theorem dX4_labels_2 : decode cX4_labels 2 = .ok (.invokevirtual 126, 3) := by decide +kernel
theorem dX4_labels_5 : decode cX4_labels 5 = .ok (.ifCond .eq 16, 3) := by decide +kernel
theorem dX4_labels_8 : decode cX4_labels 8 = .ok (.aload_n 0, 1) := by decide +kernel
theorem dX4_labels_9 : decode cX4_labels 9 = .ok (.iload_n 2, 1) := by decide +kernel
theorem dX4_labels_10 : decode cX4_labels 10 = .ok (.invokevirtual 126, 3) := by decide +kernel
theorem dX4_labels_13 : decode cX4_labels 13 = .ok (.ifCond .eq 8, 3) := by decide +kernel
theorem dX4_labels_16 : decode cX4_labels 16 = .ok (.iload_n 1, 1) := by decide +kernel
theorem dX4_labels_17 : decode cX4_labels 17 = .ok (.iload_n 2, 1) := by decide +kernel
theorem dX4_labels_18 : decode cX4_labels 18 = .ok (.if_icmp .ne 5, 3) := by decide +kernel
theorem dX4_labels_21 : decode cX4_labels 21 = .ok (.iconst (-1), 1) := by decide +kernel
theorem dX4_labels_22 : decode cX4_labels 22 = .ok (.ireturn, 1) := by decide +kernel
theorem dX4_labels_23 : decode cX4_labels 23 = .ok (.aload_n 0, 1) := by decide +kernel
theorem dX4_labels_24 : decode cX4_labels 24 = .ok (.invokevirtual 141, 3) := by decide +kernel
theorem dX4_labels_27 : decode cX4_labels 27 = .ok (.aload_n 0, 1) := by decide +kernel
theorem dX4_labels_28 : decode cX4_labels 28 = .ok (.getfield 35, 3) := by decide +kernel
theorem dX4_labels_31 : decode cX4_labels 31 = .ok (.bipush 12, 2) := by decide +kernel
theorem dX4_labels_33 : decode cX4_labels 33 = .ok (.iload_n 1, 1) := by decide +kernel
theorem dX4_labels_34 : decode cX4_labels 34 = .ok (.iadd, 1) := by decide +kernel
theorem dX4_labels_35 : decode cX4_labels 35 = .ok (.iaload, 1) := by decide +kernel
theorem dX4_labels_36 : decode cX4_labels 36 = .ok (.istore_n 3, 1) := by decide +kernel
theorem dX4_labels_37 : decode cX4_labels 37 = .ok (.aload_n 0, 1) := by decide +kernel
theorem dX4_labels_38 : decode cX4_labels 38 = .ok (.getfield 35, 3) := by decide +kernel
theorem dX4_labels_41 : decode cX4_labels 41 = .ok (.bipush 12, 2) := by decide +kernel
theorem dX4_labels_43 : decode cX4_labels 43 = .ok (.iload_n 1, 1) := by decide +kernel
theorem dX4_labels_44 : decode cX4_labels 44 = .ok (.iadd, 1) := by decide +kernel
theorem dX4_labels_45 : decode cX4_labels 45 = .ok (.aload_n 0, 1) := by decide +kernel
theorem dX4_labels_46 : decode cX4_labels 46 = .ok (.getfield 35, 3) := by decide +kernel
theorem dX4_labels_49 : decode cX4_labels 49 = .ok (.bipush 12, 2) := by decide +kernel
theorem dX4_labels_51 : decode cX4_labels 51 = .ok (.iload_n 2, 1) := by decide +kernel
theorem dX4_labels_52 : decode cX4_labels 52 = .ok (.iadd, 1) := by decide +kernel
theorem dX4_labels_53 : decode cX4_labels 53 = .ok (.iaload, 1) := by decide +kernel
theorem dX4_labels_54 : decode cX4_labels 54 = .ok (.iastore, 1) := by decide +kernel
theorem dX4_labels_55 : decode cX4_labels 55 = .ok (.aload_n 0, 1) := by decide +kernel
theorem dX4_labels_56 : decode cX4_labels 56 = .ok (.getfield 35, 3) := by decide +kernel
theorem dX4_labels_59 : decode cX4_labels 59 = .ok (.bipush 12, 2) := by decide +kernel
theorem dX4_labels_61 : decode cX4_labels 61 = .ok (.iload_n 2, 1) := by decide +kernel
theorem dX4_labels_62 : decode cX4_labels 62 = .ok (.iadd, 1) := by decide +kernel
theorem dX4_labels_63 : decode cX4_labels 63 = .ok (.iload_n 3, 1) := by decide +kernel
theorem dX4_labels_64 : decode cX4_labels 64 = .ok (.iastore, 1) := by decide +kernel
theorem dX4_labels_65 : decode cX4_labels 65 = .ok (.aload_n 0, 1) := by decide +kernel
theorem dX4_labels_66 : decode cX4_labels 66 = .ok (.invokevirtual 147, 3) := by decide +kernel
theorem dX4_labels_69 : decode cX4_labels 69 = .ok (.ireturn, 1) := by decide +kernel
theorem dX4_undo_0 : decode cX4_undo 0 = .ok (.aload_n 0, 1) := by decide +kernel
theorem dX4_undo_1 : decode cX4_undo 1 = .ok (.getfield 35, 3) := by decide +kernel
theorem dX4_undo_4 : decode cX4_undo 4 = .ok (.bipush 22, 2) := by decide +kernel
theorem dX4_undo_6 : decode cX4_undo 6 = .ok (.iaload, 1) := by decide +kernel
theorem dX4_undo_7 : decode cX4_undo 7 = .ok (.ifCond .ne 6, 3) := by decide +kernel
theorem dX4_undo_10 : decode cX4_undo 10 = .ok (.bipush (-2), 2) := by decide +kernel
theorem dX4_undo_12 : decode cX4_undo 12 = .ok (.ireturn, 1) := by decide +kernel
theorem dX4_undo_13 : decode cX4_undo 13 = .ok (.aload_n 0, 1) := by decide +kernel
theorem dX4_undo_14 : decode cX4_undo 14 = .ok (.getfield 35, 3) := by decide +kernel
theorem dX4_undo_17 : decode cX4_undo 17 = .ok (.bipush 22, 2) := by decide +kernel
theorem dX4_undo_19 : decode cX4_undo 19 = .ok (.dup2, 1) := by decide +kernel
theorem dX4_undo_20 : decode cX4_undo 20 = .ok (.iaload, 1) := by decide +kernel
theorem dX4_undo_21 : decode cX4_undo 21 = .ok (.iconst 1, 1) := by decide +kernel
theorem dX4_undo_22 : decode cX4_undo 22 = .ok (.isub, 1) := by decide +kernel
theorem dX4_undo_23 : decode cX4_undo 23 = .ok (.iastore, 1) := by decide +kernel
theorem dX4_undo_24 : decode cX4_undo 24 = .ok (.iconst 0, 1) := by decide +kernel
theorem dX4_undo_25 : decode cX4_undo 25 = .ok (.istore_n 1, 1) := by decide +kernel
theorem dX4_undo_26 : decode cX4_undo 26 = .ok (.iload_n 1, 1) := by decide +kernel
theorem dX4_undo_27 : decode cX4_undo 27 = .ok (.bipush 22, 2) := by decide +kernel
theorem dX4_undo_29 : decode cX4_undo 29 = .ok (.if_icmp .ge 35, 3) := by decide +kernel
theorem dX4_undo_32 : decode cX4_undo 32 = .ok (.aload_n 0, 1) := by decide +kernel
theorem dX4_undo_33 : decode cX4_undo 33 = .ok (.getfield 35, 3) := by decide +kernel
theorem dX4_undo_36 : decode cX4_undo 36 = .ok (.iload_n 1, 1) := by decide +kernel
theorem dX4_undo_37 : decode cX4_undo 37 = .ok (.aload_n 0, 1) := by decide +kernel
theorem dX4_undo_38 : decode cX4_undo 38 = .ok (.getfield 35, 3) := by decide +kernel
theorem dX4_undo_41 : decode cX4_undo 41 = .ok (.bipush 23, 2) := by decide +kernel
theorem dX4_undo_43 : decode cX4_undo 43 = .ok (.bipush 22, 2) := by decide +kernel
theorem dX4_undo_45 : decode cX4_undo 45 = .ok (.aload_n 0, 1) := by decide +kernel
theorem dX4_undo_46 : decode cX4_undo 46 = .ok (.getfield 35, 3) := by decide +kernel
theorem dX4_undo_49 : decode cX4_undo 49 = .ok (.bipush 22, 2) := by decide +kernel
theorem dX4_undo_51 : decode cX4_undo 51 = .ok (.iaload, 1) := by decide +kernel
theorem dX4_undo_52 : decode cX4_undo 52 = .ok (.imul, 1) := by decide +kernel
theorem dX4_undo_53 : decode cX4_undo 53 = .ok (.iadd, 1) := by decide +kernel
theorem dX4_undo_54 : decode cX4_undo 54 = .ok (.iload_n 1, 1) := by decide +kernel
theorem dX4_undo_55 : decode cX4_undo 55 = .ok (.iadd, 1) := by decide +kernel
theorem dX4_undo_56 : decode cX4_undo 56 = .ok (.iaload, 1) := by decide +kernel
theorem dX4_undo_57 : decode cX4_undo 57 = .ok (.iastore, 1) := by decide +kernel
theorem dX4_undo_58 : decode cX4_undo 58 = .ok (.iinc 1 1, 3) := by decide +kernel
theorem dX4_undo_61 : decode cX4_undo 61 = .ok (.goto (-35), 3) := by decide +kernel
theorem dX4_undo_64 : decode cX4_undo 64 = .ok (.aload_n 0, 1) := by decide +kernel
theorem dX4_undo_65 : decode cX4_undo 65 = .ok (.getfield 35, 3) := by decide +kernel
theorem dX4_undo_68 : decode cX4_undo 68 = .ok (.bipush 22, 2) := by decide +kernel
theorem dX4_undo_70 : decode cX4_undo 70 = .ok (.iaload, 1) := by decide +kernel
theorem dX4_undo_71 : decode cX4_undo 71 = .ok (.ireturn, 1) := by decide +kernel
theorem dX4_now_0 : decode cX4_now 0 = .ok (.iconst 0, 1) := by decide +kernel
theorem dX4_now_1 : decode cX4_now 1 = .ok (.istore_n 2, 1) := by decide +kernel
theorem dX4_now_2 : decode cX4_now 2 = .ok (.iload_n 1, 1) := by decide +kernel
theorem dX4_now_3 : decode cX4_now 3 = .ok (.tableswitch 145 0 5 #[37, 45, 53, 61, 69, 116], 37) := by decide +kernel
theorem dX4_now_40 : decode cX4_now 40 = .ok (.aload_n 0, 1) := by decide +kernel
theorem dX4_now_41 : decode cX4_now 41 = .ok (.getfield 35, 3) := by decide +kernel
theorem dX4_now_44 : decode cX4_now 44 = .ok (.bipush 18, 2) := by decide +kernel
theorem dX4_now_46 : decode cX4_now 46 = .ok (.iaload, 1) := by decide +kernel
theorem dX4_now_47 : decode cX4_now 47 = .ok (.ireturn, 1) := by decide +kernel
theorem dX4_now_48 : decode cX4_now 48 = .ok (.aload_n 0, 1) := by decide +kernel
theorem dX4_now_49 : decode cX4_now 49 = .ok (.getfield 35, 3) := by decide +kernel
theorem dX4_now_52 : decode cX4_now 52 = .ok (.bipush 19, 2) := by decide +kernel
theorem dX4_now_54 : decode cX4_now 54 = .ok (.iaload, 1) := by decide +kernel
theorem dX4_now_55 : decode cX4_now 55 = .ok (.ireturn, 1) := by decide +kernel
theorem dX4_now_56 : decode cX4_now 56 = .ok (.aload_n 0, 1) := by decide +kernel
theorem dX4_now_57 : decode cX4_now 57 = .ok (.getfield 35, 3) := by decide +kernel
theorem dX4_now_60 : decode cX4_now 60 = .ok (.bipush 20, 2) := by decide +kernel
theorem dX4_now_62 : decode cX4_now 62 = .ok (.iaload, 1) := by decide +kernel
theorem dX4_now_63 : decode cX4_now 63 = .ok (.ireturn, 1) := by decide +kernel
theorem dX4_now_64 : decode cX4_now 64 = .ok (.aload_n 0, 1) := by decide +kernel
theorem dX4_now_65 : decode cX4_now 65 = .ok (.getfield 35, 3) := by decide +kernel
theorem dX4_now_68 : decode cX4_now 68 = .ok (.bipush 21, 2) := by decide +kernel
theorem dX4_now_70 : decode cX4_now 70 = .ok (.iaload, 1) := by decide +kernel
theorem dX4_now_71 : decode cX4_now 71 = .ok (.ireturn, 1) := by decide +kernel
theorem dX4_now_72 : decode cX4_now 72 = .ok (.iconst 0, 1) := by decide +kernel
theorem dX4_now_73 : decode cX4_now 73 = .ok (.istore_n 3, 1) := by decide +kernel
theorem dX4_now_74 : decode cX4_now 74 = .ok (.iload_n 3, 1) := by decide +kernel
theorem dX4_now_75 : decode cX4_now 75 = .ok (.aload_n 0, 1) := by decide +kernel
theorem dX4_now_76 : decode cX4_now 76 = .ok (.getfield 26, 3) := by decide +kernel
theorem dX4_now_79 : decode cX4_now 79 = .ok (.iconst 0, 1) := by decide +kernel
theorem dX4_now_80 : decode cX4_now 80 = .ok (.iaload, 1) := by decide +kernel
theorem dX4_now_81 : decode cX4_now 81 = .ok (.if_icmp .ge 36, 3) := by decide +kernel
theorem dX4_now_84 : decode cX4_now 84 = .ok (.iload_n 2, 1) := by decide +kernel
theorem dX4_now_85 : decode cX4_now 85 = .ok (.aload_n 0, 1) := by decide +kernel
theorem dX4_now_86 : decode cX4_now 86 = .ok (.iload_n 3, 1) := by decide +kernel
theorem dX4_now_87 : decode cX4_now 87 = .ok (.invokevirtual 119, 3) := by decide +kernel
theorem dX4_now_90 : decode cX4_now 90 = .ok (.ifCond .ne 18, 3) := by decide +kernel
theorem dX4_now_93 : decode cX4_now 93 = .ok (.aload_n 0, 1) := by decide +kernel
theorem dX4_now_94 : decode cX4_now 94 = .ok (.iload_n 3, 1) := by decide +kernel
theorem dX4_now_95 : decode cX4_now 95 = .ok (.iconst 0, 1) := by decide +kernel
theorem dX4_now_96 : decode cX4_now 96 = .ok (.invokevirtual 122, 3) := by decide +kernel
theorem dX4_now_99 : decode cX4_now 99 = .ok (.ifCond .eq 9, 3) := by decide +kernel
theorem dX4_now_102 : decode cX4_now 102 = .ok (.iconst 1, 1) := by decide +kernel
theorem dX4_now_103 : decode cX4_now 103 = .ok (.iload_n 3, 1) := by decide +kernel
theorem dX4_now_104 : decode cX4_now 104 = .ok (.ishl, 1) := by decide +kernel
theorem dX4_now_105 : decode cX4_now 105 = .ok (.goto 4, 3) := by decide +kernel
theorem dX4_now_108 : decode cX4_now 108 = .ok (.iconst 0, 1) := by decide +kernel
theorem dX4_now_109 : decode cX4_now 109 = .ok (.ior, 1) := by decide +kernel
theorem dX4_now_110 : decode cX4_now 110 = .ok (.istore_n 2, 1) := by decide +kernel
theorem dX4_now_111 : decode cX4_now 111 = .ok (.iinc 3 1, 3) := by decide +kernel
theorem dX4_now_114 : decode cX4_now 114 = .ok (.goto (-40), 3) := by decide +kernel
theorem dX4_now_117 : decode cX4_now 117 = .ok (.iload_n 2, 1) := by decide +kernel
theorem dX4_now_118 : decode cX4_now 118 = .ok (.ireturn, 1) := by decide +kernel
theorem dX4_now_119 : decode cX4_now 119 = .ok (.iconst 0, 1) := by decide +kernel
theorem dX4_now_120 : decode cX4_now 120 = .ok (.istore_n 3, 1) := by decide +kernel
theorem dX4_now_121 : decode cX4_now 121 = .ok (.iload_n 3, 1) := by decide +kernel
theorem dX4_now_122 : decode cX4_now 122 = .ok (.aload_n 0, 1) := by decide +kernel
theorem dX4_now_123 : decode cX4_now 123 = .ok (.getfield 13, 3) := by decide +kernel
theorem dX4_now_126 : decode cX4_now 126 = .ok (.iconst 0, 1) := by decide +kernel
theorem dX4_now_127 : decode cX4_now 127 = .ok (.iaload, 1) := by decide +kernel
theorem dX4_now_128 : decode cX4_now 128 = .ok (.if_icmp .ge 18, 3) := by decide +kernel
theorem dX4_now_131 : decode cX4_now 131 = .ok (.iload_n 2, 1) := by decide +kernel
theorem dX4_now_132 : decode cX4_now 132 = .ok (.aload_n 0, 1) := by decide +kernel
theorem dX4_now_133 : decode cX4_now 133 = .ok (.getfield 35, 3) := by decide +kernel
theorem dX4_now_136 : decode cX4_now 136 = .ok (.iload_n 3, 1) := by decide +kernel
theorem dX4_now_137 : decode cX4_now 137 = .ok (.iaload, 1) := by decide +kernel
theorem dX4_now_138 : decode cX4_now 138 = .ok (.iadd, 1) := by decide +kernel
theorem dX4_now_139 : decode cX4_now 139 = .ok (.istore_n 2, 1) := by decide +kernel
theorem dX4_now_140 : decode cX4_now 140 = .ok (.iinc 3 1, 3) := by decide +kernel
theorem dX4_now_143 : decode cX4_now 143 = .ok (.goto (-22), 3) := by decide +kernel
theorem dX4_now_146 : decode cX4_now 146 = .ok (.iload_n 2, 1) := by decide +kernel
theorem dX4_now_147 : decode cX4_now 147 = .ok (.ireturn, 1) := by decide +kernel
theorem dX4_now_148 : decode cX4_now 148 = .ok (.iconst (-1), 1) := by decide +kernel
theorem dX4_now_149 : decode cX4_now 149 = .ok (.ireturn, 1) := by decide +kernel
theorem dX4_worthOf_0 : decode cX4_worthOf 0 = .ok (.iconst 0, 1) := by decide +kernel
theorem dX4_worthOf_1 : decode cX4_worthOf 1 = .ok (.istore_n 2, 1) := by decide +kernel
theorem dX4_worthOf_2 : decode cX4_worthOf 2 = .ok (.iconst 0, 1) := by decide +kernel
theorem dX4_worthOf_3 : decode cX4_worthOf 3 = .ok (.istore_n 3, 1) := by decide +kernel
theorem dX4_worthOf_4 : decode cX4_worthOf 4 = .ok (.iload_n 3, 1) := by decide +kernel
theorem dX4_worthOf_5 : decode cX4_worthOf 5 = .ok (.aload_n 0, 1) := by decide +kernel
theorem dX4_worthOf_6 : decode cX4_worthOf 6 = .ok (.getfield 13, 3) := by decide +kernel
theorem dX4_worthOf_9 : decode cX4_worthOf 9 = .ok (.iconst 0, 1) := by decide +kernel
theorem dX4_worthOf_10 : decode cX4_worthOf 10 = .ok (.iaload, 1) := by decide +kernel
theorem dX4_worthOf_11 : decode cX4_worthOf 11 = .ok (.if_icmp .ge 76, 3) := by decide +kernel
theorem dX4_worthOf_14 : decode cX4_worthOf 14 = .ok (.iconst 0, 1) := by decide +kernel
theorem dX4_worthOf_15 : decode cX4_worthOf 15 = .ok (.istore 4, 2) := by decide +kernel
theorem dX4_worthOf_17 : decode cX4_worthOf 17 = .ok (.iconst 0, 1) := by decide +kernel
theorem dX4_worthOf_18 : decode cX4_worthOf 18 = .ok (.istore 5, 2) := by decide +kernel
theorem dX4_worthOf_20 : decode cX4_worthOf 20 = .ok (.iload 5, 2) := by decide +kernel
theorem dX4_worthOf_22 : decode cX4_worthOf 22 = .ok (.aload_n 0, 1) := by decide +kernel
theorem dX4_worthOf_23 : decode cX4_worthOf 23 = .ok (.getfield 26, 3) := by decide +kernel
theorem dX4_worthOf_26 : decode cX4_worthOf 26 = .ok (.iconst 0, 1) := by decide +kernel
theorem dX4_worthOf_27 : decode cX4_worthOf 27 = .ok (.iaload, 1) := by decide +kernel
theorem dX4_worthOf_28 : decode cX4_worthOf 28 = .ok (.if_icmp .ge 35, 3) := by decide +kernel
theorem dX4_worthOf_31 : decode cX4_worthOf 31 = .ok (.iload 4, 2) := by decide +kernel
theorem dX4_worthOf_33 : decode cX4_worthOf 33 = .ok (.iload_n 1, 1) := by decide +kernel
theorem dX4_worthOf_34 : decode cX4_worthOf 34 = .ok (.iload 5, 2) := by decide +kernel
theorem dX4_worthOf_36 : decode cX4_worthOf 36 = .ok (.ishr, 1) := by decide +kernel
theorem dX4_worthOf_37 : decode cX4_worthOf 37 = .ok (.iconst 1, 1) := by decide +kernel
theorem dX4_worthOf_38 : decode cX4_worthOf 38 = .ok (.iand, 1) := by decide +kernel
theorem dX4_worthOf_39 : decode cX4_worthOf 39 = .ok (.iconst 1, 1) := by decide +kernel
theorem dX4_worthOf_40 : decode cX4_worthOf 40 = .ok (.if_icmp .ne 13, 3) := by decide +kernel
theorem dX4_worthOf_43 : decode cX4_worthOf 43 = .ok (.aload_n 0, 1) := by decide +kernel
theorem dX4_worthOf_44 : decode cX4_worthOf 44 = .ok (.iload 5, 2) := by decide +kernel
theorem dX4_worthOf_46 : decode cX4_worthOf 46 = .ok (.iload_n 3, 1) := by decide +kernel
theorem dX4_worthOf_47 : decode cX4_worthOf 47 = .ok (.invokevirtual 116, 3) := by decide +kernel
theorem dX4_worthOf_50 : decode cX4_worthOf 50 = .ok (.goto 4, 3) := by decide +kernel
theorem dX4_worthOf_53 : decode cX4_worthOf 53 = .ok (.iconst 0, 1) := by decide +kernel
theorem dX4_worthOf_54 : decode cX4_worthOf 54 = .ok (.iadd, 1) := by decide +kernel
theorem dX4_worthOf_55 : decode cX4_worthOf 55 = .ok (.istore 4, 2) := by decide +kernel
theorem dX4_worthOf_57 : decode cX4_worthOf 57 = .ok (.iinc 5 1, 3) := by decide +kernel
theorem dX4_worthOf_60 : decode cX4_worthOf 60 = .ok (.goto (-40), 3) := by decide +kernel
theorem dX4_worthOf_63 : decode cX4_worthOf 63 = .ok (.iload 4, 2) := by decide +kernel
theorem dX4_worthOf_65 : decode cX4_worthOf 65 = .ok (.aload_n 0, 1) := by decide +kernel
theorem dX4_worthOf_66 : decode cX4_worthOf 66 = .ok (.getfield 35, 3) := by decide +kernel
theorem dX4_worthOf_69 : decode cX4_worthOf 69 = .ok (.aload_n 0, 1) := by decide +kernel
theorem dX4_worthOf_70 : decode cX4_worthOf 70 = .ok (.iload_n 3, 1) := by decide +kernel
theorem dX4_worthOf_71 : decode cX4_worthOf 71 = .ok (.invokevirtual 109, 3) := by decide +kernel
theorem dX4_worthOf_74 : decode cX4_worthOf 74 = .ok (.iaload, 1) := by decide +kernel
theorem dX4_worthOf_75 : decode cX4_worthOf 75 = .ok (.if_icmp .le 6, 3) := by decide +kernel
theorem dX4_worthOf_78 : decode cX4_worthOf 78 = .ok (.bipush (-9), 2) := by decide +kernel
theorem dX4_worthOf_80 : decode cX4_worthOf 80 = .ok (.ireturn, 1) := by decide +kernel
theorem dX4_worthOf_81 : decode cX4_worthOf 81 = .ok (.iinc 3 1, 3) := by decide +kernel
theorem dX4_worthOf_84 : decode cX4_worthOf 84 = .ok (.goto (-80), 3) := by decide +kernel
theorem dX4_worthOf_87 : decode cX4_worthOf 87 = .ok (.iconst 0, 1) := by decide +kernel
theorem dX4_worthOf_88 : decode cX4_worthOf 88 = .ok (.istore_n 3, 1) := by decide +kernel
theorem dX4_worthOf_89 : decode cX4_worthOf 89 = .ok (.iload_n 3, 1) := by decide +kernel
theorem dX4_worthOf_90 : decode cX4_worthOf 90 = .ok (.aload_n 0, 1) := by decide +kernel
theorem dX4_worthOf_91 : decode cX4_worthOf 91 = .ok (.getfield 26, 3) := by decide +kernel
theorem dX4_worthOf_94 : decode cX4_worthOf 94 = .ok (.iconst 0, 1) := by decide +kernel
theorem dX4_worthOf_95 : decode cX4_worthOf 95 = .ok (.iaload, 1) := by decide +kernel
theorem dX4_worthOf_96 : decode cX4_worthOf 96 = .ok (.if_icmp .ge 31, 3) := by decide +kernel
theorem dX4_worthOf_99 : decode cX4_worthOf 99 = .ok (.iload_n 2, 1) := by decide +kernel
theorem dX4_worthOf_100 : decode cX4_worthOf 100 = .ok (.iload_n 1, 1) := by decide +kernel
theorem dX4_worthOf_101 : decode cX4_worthOf 101 = .ok (.iload_n 3, 1) := by decide +kernel
theorem dX4_worthOf_102 : decode cX4_worthOf 102 = .ok (.ishr, 1) := by decide +kernel
theorem dX4_worthOf_103 : decode cX4_worthOf 103 = .ok (.iconst 1, 1) := by decide +kernel
theorem dX4_worthOf_104 : decode cX4_worthOf 104 = .ok (.iand, 1) := by decide +kernel
theorem dX4_worthOf_105 : decode cX4_worthOf 105 = .ok (.iconst 1, 1) := by decide +kernel
theorem dX4_worthOf_106 : decode cX4_worthOf 106 = .ok (.if_icmp .ne 12, 3) := by decide +kernel
theorem dX4_worthOf_109 : decode cX4_worthOf 109 = .ok (.aload_n 0, 1) := by decide +kernel
theorem dX4_worthOf_110 : decode cX4_worthOf 110 = .ok (.getfield 29, 3) := by decide +kernel
theorem dX4_worthOf_113 : decode cX4_worthOf 113 = .ok (.iload_n 3, 1) := by decide +kernel
theorem dX4_worthOf_114 : decode cX4_worthOf 114 = .ok (.iaload, 1) := by decide +kernel
theorem dX4_worthOf_115 : decode cX4_worthOf 115 = .ok (.goto 4, 3) := by decide +kernel
theorem dX4_worthOf_118 : decode cX4_worthOf 118 = .ok (.iconst 0, 1) := by decide +kernel
theorem dX4_worthOf_119 : decode cX4_worthOf 119 = .ok (.iadd, 1) := by decide +kernel
theorem dX4_worthOf_120 : decode cX4_worthOf 120 = .ok (.istore_n 2, 1) := by decide +kernel
theorem dX4_worthOf_121 : decode cX4_worthOf 121 = .ok (.iinc 3 1, 3) := by decide +kernel
theorem dX4_worthOf_124 : decode cX4_worthOf 124 = .ok (.goto (-35), 3) := by decide +kernel
theorem dX4_worthOf_127 : decode cX4_worthOf 127 = .ok (.iload_n 2, 1) := by decide +kernel
theorem dX4_worthOf_128 : decode cX4_worthOf 128 = .ok (.ireturn, 1) := by decide +kernel
theorem dX4_tray_0 : decode cX4_tray 0 = .ok (.iload_n 1, 1) := by decide +kernel
theorem dX4_tray_1 : decode cX4_tray 1 = .ok (.iconst 0, 1) := by decide +kernel
theorem dX4_tray_2 : decode cX4_tray 2 = .ok (.iconst 1, 1) := by decide +kernel
theorem dX4_tray_3 : decode cX4_tray 3 = .ok (.invokestatic 57, 3) := by decide +kernel
theorem dX4_tray_6 : decode cX4_tray 6 = .ok (.ifCond .ne 5, 3) := by decide +kernel
theorem dX4_tray_9 : decode cX4_tray 9 = .ok (.iconst (-1), 1) := by decide +kernel
theorem dX4_tray_10 : decode cX4_tray 10 = .ok (.ireturn, 1) := by decide +kernel
theorem dX4_tray_11 : decode cX4_tray 11 = .ok (.iconst 0, 1) := by decide +kernel
theorem dX4_tray_12 : decode cX4_tray 12 = .ok (.istore_n 2, 1) := by decide +kernel
theorem dX4_tray_13 : decode cX4_tray 13 = .ok (.iconst 0, 1) := by decide +kernel
theorem dX4_tray_14 : decode cX4_tray 14 = .ok (.istore_n 3, 1) := by decide +kernel
theorem dX4_tray_15 : decode cX4_tray 15 = .ok (.iconst 1, 1) := by decide +kernel
theorem dX4_tray_16 : decode cX4_tray 16 = .ok (.istore 4, 2) := by decide +kernel
theorem dX4_tray_18 : decode cX4_tray 18 = .ok (.iload 4, 2) := by decide +kernel
theorem dX4_tray_20 : decode cX4_tray 20 = .ok (.iconst 1, 1) := by decide +kernel
theorem dX4_tray_21 : decode cX4_tray 21 = .ok (.aload_n 0, 1) := by decide +kernel
theorem dX4_tray_22 : decode cX4_tray 22 = .ok (.getfield 26, 3) := by decide +kernel
theorem dX4_tray_25 : decode cX4_tray 25 = .ok (.iconst 0, 1) := by decide +kernel
theorem dX4_tray_26 : decode cX4_tray 26 = .ok (.iaload, 1) := by decide +kernel
theorem dX4_tray_27 : decode cX4_tray 27 = .ok (.ishl, 1) := by decide +kernel
theorem dX4_tray_28 : decode cX4_tray 28 = .ok (.if_icmp .ge 47, 3) := by decide +kernel
theorem dX4_tray_31 : decode cX4_tray 31 = .ok (.iload 4, 2) := by decide +kernel
theorem dX4_tray_33 : decode cX4_tray 33 = .ok (.aload_n 0, 1) := by decide +kernel
theorem dX4_tray_34 : decode cX4_tray 34 = .ok (.getfield 35, 3) := by decide +kernel
theorem dX4_tray_37 : decode cX4_tray 37 = .ok (.bipush 19, 2) := by decide +kernel
theorem dX4_tray_39 : decode cX4_tray 39 = .ok (.iaload, 1) := by decide +kernel
theorem dX4_tray_40 : decode cX4_tray 40 = .ok (.iand, 1) := by decide +kernel
theorem dX4_tray_41 : decode cX4_tray 41 = .ok (.ifCond .ne 12, 3) := by decide +kernel
theorem dX4_tray_44 : decode cX4_tray 44 = .ok (.aload_n 0, 1) := by decide +kernel
theorem dX4_tray_45 : decode cX4_tray 45 = .ok (.iload 4, 2) := by decide +kernel
theorem dX4_tray_47 : decode cX4_tray 47 = .ok (.invokevirtual 150, 3) := by decide +kernel
theorem dX4_tray_50 : decode cX4_tray 50 = .ok (.goto 5, 3) := by decide +kernel
theorem dX4_tray_53 : decode cX4_tray 53 = .ok (.bipush (-9), 2) := by decide +kernel
theorem dX4_tray_55 : decode cX4_tray 55 = .ok (.istore 5, 2) := by decide +kernel
theorem dX4_tray_57 : decode cX4_tray 57 = .ok (.iload 5, 2) := by decide +kernel
theorem dX4_tray_59 : decode cX4_tray 59 = .ok (.iload_n 3, 1) := by decide +kernel
theorem dX4_tray_60 : decode cX4_tray 60 = .ok (.if_icmp .le 9, 3) := by decide +kernel
theorem dX4_tray_63 : decode cX4_tray 63 = .ok (.iload 4, 2) := by decide +kernel
theorem dX4_tray_65 : decode cX4_tray 65 = .ok (.istore_n 2, 1) := by decide +kernel
theorem dX4_tray_66 : decode cX4_tray 66 = .ok (.iload 5, 2) := by decide +kernel
theorem dX4_tray_68 : decode cX4_tray 68 = .ok (.istore_n 3, 1) := by decide +kernel
theorem dX4_tray_69 : decode cX4_tray 69 = .ok (.iinc 4 1, 3) := by decide +kernel
theorem dX4_tray_72 : decode cX4_tray 72 = .ok (.goto (-54), 3) := by decide +kernel
theorem dX4_tray_75 : decode cX4_tray 75 = .ok (.iload_n 1, 1) := by decide +kernel
theorem dX4_tray_76 : decode cX4_tray 76 = .ok (.ifCond .ne 7, 3) := by decide +kernel
theorem dX4_tray_79 : decode cX4_tray 79 = .ok (.iload_n 2, 1) := by decide +kernel
theorem dX4_tray_80 : decode cX4_tray 80 = .ok (.goto 4, 3) := by decide +kernel
theorem dX4_tray_83 : decode cX4_tray 83 = .ok (.iload_n 3, 1) := by decide +kernel
theorem dX4_tray_84 : decode cX4_tray 84 = .ok (.ireturn, 1) := by decide +kernel
theorem dX4_right_0 : decode cX4_right 0 = .ok (.iload_n 1, 1) := by decide +kernel
theorem dX4_right_1 : decode cX4_right 1 = .ok (.iconst 0, 1) := by decide +kernel
theorem dX4_right_2 : decode cX4_right 2 = .ok (.iconst 1, 1) := by decide +kernel
theorem dX4_right_3 : decode cX4_right 3 = .ok (.invokestatic 57, 3) := by decide +kernel
theorem dX4_right_6 : decode cX4_right 6 = .ok (.ifCond .ne 5, 3) := by decide +kernel
theorem dX4_right_9 : decode cX4_right 9 = .ok (.iconst (-1), 1) := by decide +kernel
theorem dX4_right_10 : decode cX4_right 10 = .ok (.ireturn, 1) := by decide +kernel
theorem dX4_right_11 : decode cX4_right 11 = .ok (.iconst 0, 1) := by decide +kernel
theorem dX4_right_12 : decode cX4_right 12 = .ok (.istore_n 2, 1) := by decide +kernel
theorem dX4_right_13 : decode cX4_right 13 = .ok (.iconst 0, 1) := by decide +kernel
theorem dX4_right_14 : decode cX4_right 14 = .ok (.istore_n 3, 1) := by decide +kernel
theorem dX4_right_15 : decode cX4_right 15 = .ok (.iconst 0, 1) := by decide +kernel
theorem dX4_right_16 : decode cX4_right 16 = .ok (.istore 4, 2) := by decide +kernel
theorem dX4_right_18 : decode cX4_right 18 = .ok (.iload 4, 2) := by decide +kernel
theorem dX4_right_20 : decode cX4_right 20 = .ok (.aload_n 0, 1) := by decide +kernel
theorem dX4_right_21 : decode cX4_right 21 = .ok (.getfield 13, 3) := by decide +kernel
theorem dX4_right_24 : decode cX4_right 24 = .ok (.iconst 0, 1) := by decide +kernel
theorem dX4_right_25 : decode cX4_right 25 = .ok (.iaload, 1) := by decide +kernel
theorem dX4_right_26 : decode cX4_right 26 = .ok (.if_icmp .ge 61, 3) := by decide +kernel
theorem dX4_right_29 : decode cX4_right 29 = .ok (.iload_n 3, 1) := by decide +kernel
theorem dX4_right_30 : decode cX4_right 30 = .ok (.iload_n 2, 1) := by decide +kernel
theorem dX4_right_31 : decode cX4_right 31 = .ok (.iload 4, 2) := by decide +kernel
theorem dX4_right_33 : decode cX4_right 33 = .ok (.ishr, 1) := by decide +kernel
theorem dX4_right_34 : decode cX4_right 34 = .ok (.iconst 1, 1) := by decide +kernel
theorem dX4_right_35 : decode cX4_right 35 = .ok (.iand, 1) := by decide +kernel
theorem dX4_right_36 : decode cX4_right 36 = .ok (.ifCond .ne 7, 3) := by decide +kernel
theorem dX4_right_39 : decode cX4_right 39 = .ok (.iconst 1, 1) := by decide +kernel
theorem dX4_right_40 : decode cX4_right 40 = .ok (.goto 4, 3) := by decide +kernel
theorem dX4_right_43 : decode cX4_right 43 = .ok (.iconst 0, 1) := by decide +kernel
theorem dX4_right_44 : decode cX4_right 44 = .ok (.iadd, 1) := by decide +kernel
theorem dX4_right_45 : decode cX4_right 45 = .ok (.istore_n 3, 1) := by decide +kernel
theorem dX4_right_46 : decode cX4_right 46 = .ok (.iload 4, 2) := by decide +kernel
theorem dX4_right_48 : decode cX4_right 48 = .ok (.istore 5, 2) := by decide +kernel
theorem dX4_right_50 : decode cX4_right 50 = .ok (.iload_n 2, 1) := by decide +kernel
theorem dX4_right_51 : decode cX4_right 51 = .ok (.iload 5, 2) := by decide +kernel
theorem dX4_right_53 : decode cX4_right 53 = .ok (.ishr, 1) := by decide +kernel
theorem dX4_right_54 : decode cX4_right 54 = .ok (.iconst 1, 1) := by decide +kernel
theorem dX4_right_55 : decode cX4_right 55 = .ok (.iand, 1) := by decide +kernel
theorem dX4_right_56 : decode cX4_right 56 = .ok (.ifCond .ne 25, 3) := by decide +kernel
theorem dX4_right_59 : decode cX4_right 59 = .ok (.iload_n 2, 1) := by decide +kernel
theorem dX4_right_60 : decode cX4_right 60 = .ok (.iconst 1, 1) := by decide +kernel
theorem dX4_right_61 : decode cX4_right 61 = .ok (.iload 5, 2) := by decide +kernel
theorem dX4_right_63 : decode cX4_right 63 = .ok (.ishl, 1) := by decide +kernel
theorem dX4_right_64 : decode cX4_right 64 = .ok (.ior, 1) := by decide +kernel
theorem dX4_right_65 : decode cX4_right 65 = .ok (.istore_n 2, 1) := by decide +kernel
theorem dX4_right_66 : decode cX4_right 66 = .ok (.aload_n 0, 1) := by decide +kernel
theorem dX4_right_67 : decode cX4_right 67 = .ok (.getfield 35, 3) := by decide +kernel
theorem dX4_right_70 : decode cX4_right 70 = .ok (.bipush 12, 2) := by decide +kernel
theorem dX4_right_72 : decode cX4_right 72 = .ok (.iload 5, 2) := by decide +kernel
theorem dX4_right_74 : decode cX4_right 74 = .ok (.iadd, 1) := by decide +kernel
theorem dX4_right_75 : decode cX4_right 75 = .ok (.iaload, 1) := by decide +kernel
theorem dX4_right_76 : decode cX4_right 76 = .ok (.istore 5, 2) := by decide +kernel
theorem dX4_right_78 : decode cX4_right 78 = .ok (.goto (-28), 3) := by decide +kernel
theorem dX4_right_81 : decode cX4_right 81 = .ok (.iinc 4 1, 3) := by decide +kernel
theorem dX4_right_84 : decode cX4_right 84 = .ok (.goto (-66), 3) := by decide +kernel
theorem dX4_right_87 : decode cX4_right 87 = .ok (.bipush (-9), 2) := by decide +kernel
theorem dX4_right_89 : decode cX4_right 89 = .ok (.istore 4, 2) := by decide +kernel
theorem dX4_right_91 : decode cX4_right 91 = .ok (.aload_n 0, 1) := by decide +kernel
theorem dX4_right_92 : decode cX4_right 92 = .ok (.getfield 13, 3) := by decide +kernel
theorem dX4_right_95 : decode cX4_right 95 = .ok (.iconst 0, 1) := by decide +kernel
theorem dX4_right_96 : decode cX4_right 96 = .ok (.iaload, 1) := by decide +kernel
theorem dX4_right_97 : decode cX4_right 97 = .ok (.iconst 1, 1) := by decide +kernel
theorem dX4_right_98 : decode cX4_right 98 = .ok (.isub, 1) := by decide +kernel
theorem dX4_right_99 : decode cX4_right 99 = .ok (.istore 5, 2) := by decide +kernel
theorem dX4_right_101 : decode cX4_right 101 = .ok (.iload 5, 2) := by decide +kernel
theorem dX4_right_103 : decode cX4_right 103 = .ok (.ifCond .lt 77, 3) := by decide +kernel
theorem dX4_right_106 : decode cX4_right 106 = .ok (.aload_n 0, 1) := by decide +kernel
theorem dX4_right_107 : decode cX4_right 107 = .ok (.getfield 13, 3) := by decide +kernel
theorem dX4_right_110 : decode cX4_right 110 = .ok (.iconst 0, 1) := by decide +kernel
theorem dX4_right_111 : decode cX4_right 111 = .ok (.iaload, 1) := by decide +kernel
theorem dX4_right_112 : decode cX4_right 112 = .ok (.iconst 1, 1) := by decide +kernel
theorem dX4_right_113 : decode cX4_right 113 = .ok (.isub, 1) := by decide +kernel
theorem dX4_right_114 : decode cX4_right 114 = .ok (.istore 6, 2) := by decide +kernel
theorem dX4_right_116 : decode cX4_right 116 = .ok (.iload 6, 2) := by decide +kernel
theorem dX4_right_118 : decode cX4_right 118 = .ok (.iload 5, 2) := by decide +kernel
theorem dX4_right_120 : decode cX4_right 120 = .ok (.if_icmp .le 54, 3) := by decide +kernel
theorem dX4_right_123 : decode cX4_right 123 = .ok (.aload_n 0, 1) := by decide +kernel
theorem dX4_right_124 : decode cX4_right 124 = .ok (.getfield 35, 3) := by decide +kernel
theorem dX4_right_127 : decode cX4_right 127 = .ok (.bipush 12, 2) := by decide +kernel
theorem dX4_right_129 : decode cX4_right 129 = .ok (.iload 5, 2) := by decide +kernel
theorem dX4_right_131 : decode cX4_right 131 = .ok (.iadd, 1) := by decide +kernel
theorem dX4_right_132 : decode cX4_right 132 = .ok (.iaload, 1) := by decide +kernel
theorem dX4_right_133 : decode cX4_right 133 = .ok (.iload 6, 2) := by decide +kernel
theorem dX4_right_135 : decode cX4_right 135 = .ok (.if_icmp .eq 18, 3) := by decide +kernel
theorem dX4_right_138 : decode cX4_right 138 = .ok (.aload_n 0, 1) := by decide +kernel
theorem dX4_right_139 : decode cX4_right 139 = .ok (.getfield 35, 3) := by decide +kernel
theorem dX4_right_142 : decode cX4_right 142 = .ok (.bipush 12, 2) := by decide +kernel
theorem dX4_right_144 : decode cX4_right 144 = .ok (.iload 6, 2) := by decide +kernel
theorem dX4_right_146 : decode cX4_right 146 = .ok (.iadd, 1) := by decide +kernel
theorem dX4_right_147 : decode cX4_right 147 = .ok (.iaload, 1) := by decide +kernel
theorem dX4_right_148 : decode cX4_right 148 = .ok (.iload 5, 2) := by decide +kernel
theorem dX4_right_150 : decode cX4_right 150 = .ok (.if_icmp .ne 14, 3) := by decide +kernel
theorem dX4_right_153 : decode cX4_right 153 = .ok (.bipush 10, 2) := by decide +kernel
theorem dX4_right_155 : decode cX4_right 155 = .ok (.iload 5, 2) := by decide +kernel
theorem dX4_right_157 : decode cX4_right 157 = .ok (.imul, 1) := by decide +kernel
theorem dX4_right_158 : decode cX4_right 158 = .ok (.iload 6, 2) := by decide +kernel
theorem dX4_right_160 : decode cX4_right 160 = .ok (.iadd, 1) := by decide +kernel
theorem dX4_right_161 : decode cX4_right 161 = .ok (.goto 5, 3) := by decide +kernel
theorem dX4_right_164 : decode cX4_right 164 = .ok (.iload 4, 2) := by decide +kernel
theorem dX4_right_166 : decode cX4_right 166 = .ok (.istore 4, 2) := by decide +kernel
theorem dX4_right_168 : decode cX4_right 168 = .ok (.iinc 6 (-1), 3) := by decide +kernel
theorem dX4_right_171 : decode cX4_right 171 = .ok (.goto (-55), 3) := by decide +kernel
theorem dX4_right_174 : decode cX4_right 174 = .ok (.iinc 5 (-1), 3) := by decide +kernel
theorem dX4_right_177 : decode cX4_right 177 = .ok (.goto (-76), 3) := by decide +kernel
theorem dX4_right_180 : decode cX4_right 180 = .ok (.iload_n 1, 1) := by decide +kernel
theorem dX4_right_181 : decode cX4_right 181 = .ok (.ifCond .ne 14, 3) := by decide +kernel
theorem dX4_right_184 : decode cX4_right 184 = .ok (.aload_n 0, 1) := by decide +kernel
theorem dX4_right_185 : decode cX4_right 185 = .ok (.getfield 13, 3) := by decide +kernel
theorem dX4_right_188 : decode cX4_right 188 = .ok (.iconst 0, 1) := by decide +kernel
theorem dX4_right_189 : decode cX4_right 189 = .ok (.iaload, 1) := by decide +kernel
theorem dX4_right_190 : decode cX4_right 190 = .ok (.iload_n 3, 1) := by decide +kernel
theorem dX4_right_191 : decode cX4_right 191 = .ok (.isub, 1) := by decide +kernel
theorem dX4_right_192 : decode cX4_right 192 = .ok (.goto 5, 3) := by decide +kernel
theorem dX4_right_195 : decode cX4_right 195 = .ok (.iload 4, 2) := by decide +kernel
theorem dX4_right_197 : decode cX4_right 197 = .ok (.ireturn, 1) := by decide +kernel
theorem dX4_share_0 : decode cX4_share 0 = .ok (.iload_n 1, 1) := by decide +kernel
theorem dX4_share_1 : decode cX4_share 1 = .ok (.iconst 0, 1) := by decide +kernel
theorem dX4_share_2 : decode cX4_share 2 = .ok (.iconst 1, 1) := by decide +kernel
theorem dX4_share_3 : decode cX4_share 3 = .ok (.invokestatic 57, 3) := by decide +kernel
theorem dX4_share_6 : decode cX4_share 6 = .ok (.ifCond .ne 5, 3) := by decide +kernel
theorem dX4_share_9 : decode cX4_share 9 = .ok (.iconst (-1), 1) := by decide +kernel
theorem dX4_share_10 : decode cX4_share 10 = .ok (.ireturn, 1) := by decide +kernel
theorem dX4_share_11 : decode cX4_share 11 = .ok (.bipush (-9), 2) := by decide +kernel
theorem dX4_share_13 : decode cX4_share 13 = .ok (.istore_n 2, 1) := by decide +kernel
theorem dX4_share_14 : decode cX4_share 14 = .ok (.iconst 0, 1) := by decide +kernel
theorem dX4_share_15 : decode cX4_share 15 = .ok (.istore_n 3, 1) := by decide +kernel
theorem dX4_share_16 : decode cX4_share 16 = .ok (.iconst 0, 1) := by decide +kernel
theorem dX4_share_17 : decode cX4_share 17 = .ok (.istore 4, 2) := by decide +kernel
theorem dX4_share_19 : decode cX4_share 19 = .ok (.iload 4, 2) := by decide +kernel
theorem dX4_share_21 : decode cX4_share 21 = .ok (.iconst 1, 1) := by decide +kernel
theorem dX4_share_22 : decode cX4_share 22 = .ok (.aload_n 0, 1) := by decide +kernel
theorem dX4_share_23 : decode cX4_share 23 = .ok (.getfield 13, 3) := by decide +kernel
theorem dX4_share_26 : decode cX4_share 26 = .ok (.iconst 0, 1) := by decide +kernel
theorem dX4_share_27 : decode cX4_share 27 = .ok (.iaload, 1) := by decide +kernel
theorem dX4_share_28 : decode cX4_share 28 = .ok (.ishl, 1) := by decide +kernel
theorem dX4_share_29 : decode cX4_share 29 = .ok (.if_icmp .ge 128, 3) := by decide +kernel
theorem dX4_share_32 : decode cX4_share 32 = .ok (.iconst 0, 1) := by decide +kernel
theorem dX4_share_33 : decode cX4_share 33 = .ok (.istore 5, 2) := by decide +kernel
theorem dX4_share_35 : decode cX4_share 35 = .ok (.iconst 0, 1) := by decide +kernel
theorem dX4_share_36 : decode cX4_share 36 = .ok (.istore 6, 2) := by decide +kernel
theorem dX4_share_38 : decode cX4_share 38 = .ok (.iload 6, 2) := by decide +kernel
theorem dX4_share_40 : decode cX4_share 40 = .ok (.aload_n 0, 1) := by decide +kernel
theorem dX4_share_41 : decode cX4_share 41 = .ok (.getfield 13, 3) := by decide +kernel
theorem dX4_share_44 : decode cX4_share 44 = .ok (.iconst 0, 1) := by decide +kernel
theorem dX4_share_45 : decode cX4_share 45 = .ok (.iaload, 1) := by decide +kernel
theorem dX4_share_46 : decode cX4_share 46 = .ok (.if_icmp .ge 43, 3) := by decide +kernel
theorem dX4_share_49 : decode cX4_share 49 = .ok (.iload 5, 2) := by decide +kernel
theorem dX4_share_51 : decode cX4_share 51 = .ok (.iload 4, 2) := by decide +kernel
theorem dX4_share_53 : decode cX4_share 53 = .ok (.iload 6, 2) := by decide +kernel
theorem dX4_share_55 : decode cX4_share 55 = .ok (.ishr, 1) := by decide +kernel
theorem dX4_share_56 : decode cX4_share 56 = .ok (.iconst 1, 1) := by decide +kernel
theorem dX4_share_57 : decode cX4_share 57 = .ok (.iand, 1) := by decide +kernel
theorem dX4_share_58 : decode cX4_share 58 = .ok (.iconst 1, 1) := by decide +kernel
theorem dX4_share_59 : decode cX4_share 59 = .ok (.if_icmp .ne 13, 3) := by decide +kernel
theorem dX4_share_62 : decode cX4_share 62 = .ok (.aload_n 0, 1) := by decide +kernel
theorem dX4_share_63 : decode cX4_share 63 = .ok (.getfield 35, 3) := by decide +kernel
theorem dX4_share_66 : decode cX4_share 66 = .ok (.iload 6, 2) := by decide +kernel
theorem dX4_share_68 : decode cX4_share 68 = .ok (.iaload, 1) := by decide +kernel
theorem dX4_share_69 : decode cX4_share 69 = .ok (.goto 11, 3) := by decide +kernel
theorem dX4_share_72 : decode cX4_share 72 = .ok (.aload_n 0, 1) := by decide +kernel
theorem dX4_share_73 : decode cX4_share 73 = .ok (.getfield 35, 3) := by decide +kernel
theorem dX4_share_76 : decode cX4_share 76 = .ok (.iload 6, 2) := by decide +kernel
theorem dX4_share_78 : decode cX4_share 78 = .ok (.iaload, 1) := by decide +kernel
theorem dX4_share_79 : decode cX4_share 79 = .ok (.ineg, 1) := by decide +kernel
theorem dX4_share_80 : decode cX4_share 80 = .ok (.iadd, 1) := by decide +kernel
theorem dX4_share_81 : decode cX4_share 81 = .ok (.istore 5, 2) := by decide +kernel
theorem dX4_share_83 : decode cX4_share 83 = .ok (.iinc 6 1, 3) := by decide +kernel
theorem dX4_share_86 : decode cX4_share 86 = .ok (.goto (-48), 3) := by decide +kernel
theorem dX4_share_89 : decode cX4_share 89 = .ok (.iload 5, 2) := by decide +kernel
theorem dX4_share_91 : decode cX4_share 91 = .ok (.ifCond .ge 9, 3) := by decide +kernel
theorem dX4_share_94 : decode cX4_share 94 = .ok (.iload 5, 2) := by decide +kernel
theorem dX4_share_96 : decode cX4_share 96 = .ok (.ineg, 1) := by decide +kernel
theorem dX4_share_97 : decode cX4_share 97 = .ok (.goto 5, 3) := by decide +kernel
theorem dX4_share_100 : decode cX4_share 100 = .ok (.iload 5, 2) := by decide +kernel
theorem dX4_share_102 : decode cX4_share 102 = .ok (.istore 5, 2) := by decide +kernel
theorem dX4_share_104 : decode cX4_share 104 = .ok (.aload_n 0, 1) := by decide +kernel
theorem dX4_share_105 : decode cX4_share 105 = .ok (.getfield 13, 3) := by decide +kernel
theorem dX4_share_108 : decode cX4_share 108 = .ok (.iconst 0, 1) := by decide +kernel
theorem dX4_share_109 : decode cX4_share 109 = .ok (.iaload, 1) := by decide +kernel
theorem dX4_share_110 : decode cX4_share 110 = .ok (.ifCond .eq 11, 3) := by decide +kernel
theorem dX4_share_113 : decode cX4_share 113 = .ok (.iload 4, 2) := by decide +kernel
theorem dX4_share_115 : decode cX4_share 115 = .ok (.iconst 1, 1) := by decide +kernel
theorem dX4_share_116 : decode cX4_share 116 = .ok (.iand, 1) := by decide +kernel
theorem dX4_share_117 : decode cX4_share 117 = .ok (.iconst 1, 1) := by decide +kernel
theorem dX4_share_118 : decode cX4_share 118 = .ok (.if_icmp .ne 7, 3) := by decide +kernel
theorem dX4_share_121 : decode cX4_share 121 = .ok (.iconst 1, 1) := by decide +kernel
theorem dX4_share_122 : decode cX4_share 122 = .ok (.goto 4, 3) := by decide +kernel
theorem dX4_share_125 : decode cX4_share 125 = .ok (.iconst 0, 1) := by decide +kernel
theorem dX4_share_126 : decode cX4_share 126 = .ok (.istore 6, 2) := by decide +kernel
theorem dX4_share_128 : decode cX4_share 128 = .ok (.iload 6, 2) := by decide +kernel
theorem dX4_share_130 : decode cX4_share 130 = .ok (.ifCond .eq 21, 3) := by decide +kernel
theorem dX4_share_133 : decode cX4_share 133 = .ok (.iload_n 2, 1) := by decide +kernel
theorem dX4_share_134 : decode cX4_share 134 = .ok (.bipush (-9), 2) := by decide +kernel
theorem dX4_share_136 : decode cX4_share 136 = .ok (.if_icmp .eq 9, 3) := by decide +kernel
theorem dX4_share_139 : decode cX4_share 139 = .ok (.iload 5, 2) := by decide +kernel
theorem dX4_share_141 : decode cX4_share 141 = .ok (.iload_n 3, 1) := by decide +kernel
theorem dX4_share_142 : decode cX4_share 142 = .ok (.if_icmp .ge 9, 3) := by decide +kernel
theorem dX4_share_145 : decode cX4_share 145 = .ok (.iload 4, 2) := by decide +kernel
theorem dX4_share_147 : decode cX4_share 147 = .ok (.istore_n 2, 1) := by decide +kernel
theorem dX4_share_148 : decode cX4_share 148 = .ok (.iload 5, 2) := by decide +kernel
theorem dX4_share_150 : decode cX4_share 150 = .ok (.istore_n 3, 1) := by decide +kernel
theorem dX4_share_151 : decode cX4_share 151 = .ok (.iinc 4 1, 3) := by decide +kernel
theorem dX4_share_154 : decode cX4_share 154 = .ok (.goto (-135), 3) := by decide +kernel
theorem dX4_share_157 : decode cX4_share 157 = .ok (.iload_n 1, 1) := by decide +kernel
theorem dX4_share_158 : decode cX4_share 158 = .ok (.ifCond .ne 7, 3) := by decide +kernel
theorem dX4_share_161 : decode cX4_share 161 = .ok (.iload_n 2, 1) := by decide +kernel
theorem dX4_share_162 : decode cX4_share 162 = .ok (.goto 4, 3) := by decide +kernel
theorem dX4_share_165 : decode cX4_share 165 = .ok (.iload_n 3, 1) := by decide +kernel
theorem dX4_share_166 : decode cX4_share 166 = .ok (.ireturn, 1) := by decide +kernel
theorem dX4_odds_0 : decode cX4_odds 0 = .ok (.aload_n 0, 1) := by decide +kernel
theorem dX4_odds_1 : decode cX4_odds 1 = .ok (.iload_n 1, 1) := by decide +kernel
theorem dX4_odds_2 : decode cX4_odds 2 = .ok (.invokevirtual 132, 3) := by decide +kernel
theorem dX4_odds_5 : decode cX4_odds 5 = .ok (.ifCond .eq 22, 3) := by decide +kernel
theorem dX4_odds_8 : decode cX4_odds 8 = .ok (.iload_n 2, 1) := by decide +kernel
theorem dX4_odds_9 : decode cX4_odds 9 = .ok (.iconst 0, 1) := by decide +kernel
theorem dX4_odds_10 : decode cX4_odds 10 = .ok (.bipush 10, 2) := by decide +kernel
theorem dX4_odds_12 : decode cX4_odds 12 = .ok (.invokestatic 57, 3) := by decide +kernel
theorem dX4_odds_15 : decode cX4_odds 15 = .ok (.ifCond .eq 12, 3) := by decide +kernel
theorem dX4_odds_18 : decode cX4_odds 18 = .ok (.iload_n 3, 1) := by decide +kernel
theorem dX4_odds_19 : decode cX4_odds 19 = .ok (.iconst 0, 1) := by decide +kernel
theorem dX4_odds_20 : decode cX4_odds 20 = .ok (.iconst 1, 1) := by decide +kernel
theorem dX4_odds_21 : decode cX4_odds 21 = .ok (.invokestatic 57, 3) := by decide +kernel
theorem dX4_odds_24 : decode cX4_odds 24 = .ok (.ifCond .ne 5, 3) := by decide +kernel
theorem dX4_odds_27 : decode cX4_odds 27 = .ok (.iconst (-1), 1) := by decide +kernel
theorem dX4_odds_28 : decode cX4_odds 28 = .ok (.ireturn, 1) := by decide +kernel
theorem dX4_odds_29 : decode cX4_odds 29 = .ok (.aload_n 0, 1) := by decide +kernel
theorem dX4_odds_30 : decode cX4_odds 30 = .ok (.iload_n 1, 1) := by decide +kernel
theorem dX4_odds_31 : decode cX4_odds 31 = .ok (.iconst 0, 1) := by decide +kernel
theorem dX4_odds_32 : decode cX4_odds 32 = .ok (.invokevirtual 122, 3) := by decide +kernel
theorem dX4_odds_35 : decode cX4_odds 35 = .ok (.ifCond .eq 7, 3) := by decide +kernel
theorem dX4_odds_38 : decode cX4_odds 38 = .ok (.iconst 1, 1) := by decide +kernel
theorem dX4_odds_39 : decode cX4_odds 39 = .ok (.goto 4, 3) := by decide +kernel
theorem dX4_odds_42 : decode cX4_odds 42 = .ok (.iconst 0, 1) := by decide +kernel
theorem dX4_odds_43 : decode cX4_odds 43 = .ok (.istore 4, 2) := by decide +kernel
theorem dX4_odds_45 : decode cX4_odds 45 = .ok (.iconst 1, 1) := by decide +kernel
theorem dX4_odds_46 : decode cX4_odds 46 = .ok (.istore 5, 2) := by decide +kernel
theorem dX4_odds_48 : decode cX4_odds 48 = .ok (.iconst 0, 1) := by decide +kernel
theorem dX4_odds_49 : decode cX4_odds 49 = .ok (.istore 6, 2) := by decide +kernel
theorem dX4_odds_51 : decode cX4_odds 51 = .ok (.iload 6, 2) := by decide +kernel
theorem dX4_odds_53 : decode cX4_odds 53 = .ok (.aload_n 0, 1) := by decide +kernel
theorem dX4_odds_54 : decode cX4_odds 54 = .ok (.getfield 13, 3) := by decide +kernel
theorem dX4_odds_57 : decode cX4_odds 57 = .ok (.iconst 0, 1) := by decide +kernel
theorem dX4_odds_58 : decode cX4_odds 58 = .ok (.iaload, 1) := by decide +kernel
theorem dX4_odds_59 : decode cX4_odds 59 = .ok (.if_icmp .ge 53, 3) := by decide +kernel
theorem dX4_odds_62 : decode cX4_odds 62 = .ok (.iload 4, 2) := by decide +kernel
theorem dX4_odds_64 : decode cX4_odds 64 = .ok (.aload_n 0, 1) := by decide +kernel
theorem dX4_odds_65 : decode cX4_odds 65 = .ok (.iload_n 1, 1) := by decide +kernel
theorem dX4_odds_66 : decode cX4_odds 66 = .ok (.iload 6, 2) := by decide +kernel
theorem dX4_odds_68 : decode cX4_odds 68 = .ok (.invokevirtual 116, 3) := by decide +kernel
theorem dX4_odds_71 : decode cX4_odds 71 = .ok (.ifCond .le 10, 3) := by decide +kernel
theorem dX4_odds_74 : decode cX4_odds 74 = .ok (.bipush 10, 2) := by decide +kernel
theorem dX4_odds_76 : decode cX4_odds 76 = .ok (.iload_n 2, 1) := by decide +kernel
theorem dX4_odds_77 : decode cX4_odds 77 = .ok (.isub, 1) := by decide +kernel
theorem dX4_odds_78 : decode cX4_odds 78 = .ok (.goto 4, 3) := by decide +kernel
theorem dX4_odds_81 : decode cX4_odds 81 = .ok (.iconst 1, 1) := by decide +kernel
theorem dX4_odds_82 : decode cX4_odds 82 = .ok (.imul, 1) := by decide +kernel
theorem dX4_odds_83 : decode cX4_odds 83 = .ok (.istore 4, 2) := by decide +kernel
theorem dX4_odds_85 : decode cX4_odds 85 = .ok (.iload 5, 2) := by decide +kernel
theorem dX4_odds_87 : decode cX4_odds 87 = .ok (.aload_n 0, 1) := by decide +kernel
theorem dX4_odds_88 : decode cX4_odds 88 = .ok (.iload_n 1, 1) := by decide +kernel
theorem dX4_odds_89 : decode cX4_odds 89 = .ok (.iload 6, 2) := by decide +kernel
theorem dX4_odds_91 : decode cX4_odds 91 = .ok (.invokevirtual 116, 3) := by decide +kernel
theorem dX4_odds_94 : decode cX4_odds 94 = .ok (.ifCond .le 8, 3) := by decide +kernel
theorem dX4_odds_97 : decode cX4_odds 97 = .ok (.bipush 10, 2) := by decide +kernel
theorem dX4_odds_99 : decode cX4_odds 99 = .ok (.goto 4, 3) := by decide +kernel
theorem dX4_odds_102 : decode cX4_odds 102 = .ok (.iconst 1, 1) := by decide +kernel
theorem dX4_odds_103 : decode cX4_odds 103 = .ok (.imul, 1) := by decide +kernel
theorem dX4_odds_104 : decode cX4_odds 104 = .ok (.istore 5, 2) := by decide +kernel
theorem dX4_odds_106 : decode cX4_odds 106 = .ok (.iinc 6 1, 3) := by decide +kernel
theorem dX4_odds_109 : decode cX4_odds 109 = .ok (.goto (-58), 3) := by decide +kernel
theorem dX4_odds_112 : decode cX4_odds 112 = .ok (.iload 4, 2) := by decide +kernel
theorem dX4_odds_114 : decode cX4_odds 114 = .ok (.istore 6, 2) := by decide +kernel
theorem dX4_odds_116 : decode cX4_odds 116 = .ok (.iload 5, 2) := by decide +kernel
theorem dX4_odds_118 : decode cX4_odds 118 = .ok (.istore 7, 2) := by decide +kernel
theorem dX4_odds_120 : decode cX4_odds 120 = .ok (.iload 7, 2) := by decide +kernel
theorem dX4_odds_122 : decode cX4_odds 122 = .ok (.ifCond .eq 21, 3) := by decide +kernel
theorem dX4_odds_125 : decode cX4_odds 125 = .ok (.iload 6, 2) := by decide +kernel
theorem dX4_odds_127 : decode cX4_odds 127 = .ok (.iload 7, 2) := by decide +kernel
theorem dX4_odds_129 : decode cX4_odds 129 = .ok (.irem, 1) := by decide +kernel
theorem dX4_odds_130 : decode cX4_odds 130 = .ok (.istore 8, 2) := by decide +kernel
theorem dX4_odds_132 : decode cX4_odds 132 = .ok (.iload 7, 2) := by decide +kernel
theorem dX4_odds_134 : decode cX4_odds 134 = .ok (.istore 6, 2) := by decide +kernel
theorem dX4_odds_136 : decode cX4_odds 136 = .ok (.iload 8, 2) := by decide +kernel
theorem dX4_odds_138 : decode cX4_odds 138 = .ok (.istore 7, 2) := by decide +kernel
theorem dX4_odds_140 : decode cX4_odds 140 = .ok (.goto (-20), 3) := by decide +kernel
theorem dX4_odds_143 : decode cX4_odds 143 = .ok (.iload_n 3, 1) := by decide +kernel
theorem dX4_odds_144 : decode cX4_odds 144 = .ok (.ifCond .ne 11, 3) := by decide +kernel
theorem dX4_odds_147 : decode cX4_odds 147 = .ok (.iload 4, 2) := by decide +kernel
theorem dX4_odds_149 : decode cX4_odds 149 = .ok (.iload 6, 2) := by decide +kernel
theorem dX4_odds_151 : decode cX4_odds 151 = .ok (.idiv, 1) := by decide +kernel
theorem dX4_odds_152 : decode cX4_odds 152 = .ok (.goto 8, 3) := by decide +kernel
theorem dX4_odds_155 : decode cX4_odds 155 = .ok (.iload 5, 2) := by decide +kernel
theorem dX4_odds_157 : decode cX4_odds 157 = .ok (.iload 6, 2) := by decide +kernel
theorem dX4_odds_159 : decode cX4_odds 159 = .ok (.idiv, 1) := by decide +kernel
theorem dX4_odds_160 : decode cX4_odds 160 = .ok (.ireturn, 1) := by decide +kernel
theorem dX4_tells_0 : decode cX4_tells 0 = .ok (.aload_n 0, 1) := by decide +kernel
theorem dX4_tells_1 : decode cX4_tells 1 = .ok (.iload_n 1, 1) := by decide +kernel
theorem dX4_tells_2 : decode cX4_tells 2 = .ok (.invokevirtual 132, 3) := by decide +kernel
theorem dX4_tells_5 : decode cX4_tells 5 = .ok (.ifCond .eq 12, 3) := by decide +kernel
theorem dX4_tells_8 : decode cX4_tells 8 = .ok (.iload_n 2, 1) := by decide +kernel
theorem dX4_tells_9 : decode cX4_tells 9 = .ok (.iconst 0, 1) := by decide +kernel
theorem dX4_tells_10 : decode cX4_tells 10 = .ok (.iconst 1, 1) := by decide +kernel
theorem dX4_tells_11 : decode cX4_tells 11 = .ok (.invokestatic 57, 3) := by decide +kernel
theorem dX4_tells_14 : decode cX4_tells 14 = .ok (.ifCond .ne 5, 3) := by decide +kernel
theorem dX4_tells_17 : decode cX4_tells 17 = .ok (.iconst (-1), 1) := by decide +kernel
theorem dX4_tells_18 : decode cX4_tells 18 = .ok (.ireturn, 1) := by decide +kernel
theorem dX4_tells_19 : decode cX4_tells 19 = .ok (.aload_n 0, 1) := by decide +kernel
theorem dX4_tells_20 : decode cX4_tells 20 = .ok (.getfield 98, 3) := by decide +kernel
theorem dX4_tells_23 : decode cX4_tells 23 = .ok (.bipush 6, 2) := by decide +kernel
theorem dX4_tells_25 : decode cX4_tells 25 = .ok (.if_icmp .ne 6, 3) := by decide +kernel
theorem dX4_tells_28 : decode cX4_tells 28 = .ok (.bipush (-3), 2) := by decide +kernel
theorem dX4_tells_30 : decode cX4_tells 30 = .ok (.ireturn, 1) := by decide +kernel
theorem dX4_tells_31 : decode cX4_tells 31 = .ok (.aload_n 0, 1) := by decide +kernel
theorem dX4_tells_32 : decode cX4_tells 32 = .ok (.getfield 42, 3) := by decide +kernel
theorem dX4_tells_35 : decode cX4_tells 35 = .ok (.aload_n 0, 1) := by decide +kernel
theorem dX4_tells_36 : decode cX4_tells 36 = .ok (.getfield 98, 3) := by decide +kernel
theorem dX4_tells_39 : decode cX4_tells 39 = .ok (.iload_n 1, 1) := by decide +kernel
theorem dX4_tells_40 : decode cX4_tells 40 = .ok (.iastore, 1) := by decide +kernel
theorem dX4_tells_41 : decode cX4_tells 41 = .ok (.aload_n 0, 1) := by decide +kernel
theorem dX4_tells_42 : decode cX4_tells 42 = .ok (.getfield 45, 3) := by decide +kernel
theorem dX4_tells_45 : decode cX4_tells 45 = .ok (.aload_n 0, 1) := by decide +kernel
theorem dX4_tells_46 : decode cX4_tells 46 = .ok (.getfield 98, 3) := by decide +kernel
theorem dX4_tells_49 : decode cX4_tells 49 = .ok (.iload_n 2, 1) := by decide +kernel
theorem dX4_tells_50 : decode cX4_tells 50 = .ok (.iastore, 1) := by decide +kernel
theorem dX4_tells_51 : decode cX4_tells 51 = .ok (.aload_n 0, 1) := by decide +kernel
theorem dX4_tells_52 : decode cX4_tells 52 = .ok (.dup, 1) := by decide +kernel
theorem dX4_tells_53 : decode cX4_tells 53 = .ok (.getfield 98, 3) := by decide +kernel
theorem dX4_tells_56 : decode cX4_tells 56 = .ok (.iconst 1, 1) := by decide +kernel
theorem dX4_tells_57 : decode cX4_tells 57 = .ok (.iadd, 1) := by decide +kernel
theorem dX4_tells_58 : decode cX4_tells 58 = .ok (.putfield 98, 3) := by decide +kernel
theorem dX4_tells_61 : decode cX4_tells 61 = .ok (.aload_n 0, 1) := by decide +kernel
theorem dX4_tells_62 : decode cX4_tells 62 = .ok (.getfield 98, 3) := by decide +kernel
theorem dX4_tells_65 : decode cX4_tells 65 = .ok (.ireturn, 1) := by decide +kernel
theorem dX4_forget_0 : decode cX4_forget 0 = .ok (.aload_n 0, 1) := by decide +kernel
theorem dX4_forget_1 : decode cX4_forget 1 = .ok (.getfield 98, 3) := by decide +kernel
theorem dX4_forget_4 : decode cX4_forget 4 = .ok (.istore_n 1, 1) := by decide +kernel
theorem dX4_forget_5 : decode cX4_forget 5 = .ok (.aload_n 0, 1) := by decide +kernel
theorem dX4_forget_6 : decode cX4_forget 6 = .ok (.iconst 0, 1) := by decide +kernel
theorem dX4_forget_7 : decode cX4_forget 7 = .ok (.putfield 98, 3) := by decide +kernel
theorem dX4_forget_10 : decode cX4_forget 10 = .ok (.iload_n 1, 1) := by decide +kernel
theorem dX4_forget_11 : decode cX4_forget 11 = .ok (.ireturn, 1) := by decide +kernel
theorem dX4_goOn_0 : decode cX4_goOn 0 = .ok (.aload_n 0, 1) := by decide +kernel
theorem dX4_goOn_1 : decode cX4_goOn 1 = .ok (.getfield 13, 3) := by decide +kernel
theorem dX4_goOn_4 : decode cX4_goOn 4 = .ok (.iconst 0, 1) := by decide +kernel
theorem dX4_goOn_5 : decode cX4_goOn 5 = .ok (.iaload, 1) := by decide +kernel
theorem dX4_goOn_6 : decode cX4_goOn 6 = .ok (.iconst 2, 1) := by decide +kernel
theorem dX4_goOn_7 : decode cX4_goOn 7 = .ok (.isub, 1) := by decide +kernel
theorem dX4_goOn_8 : decode cX4_goOn 8 = .ok (.istore_n 1, 1) := by decide +kernel
theorem dX4_goOn_9 : decode cX4_goOn 9 = .ok (.iload_n 1, 1) := by decide +kernel
theorem dX4_goOn_10 : decode cX4_goOn 10 = .ok (.ifCond .lt 26, 3) := by decide +kernel
theorem dX4_goOn_13 : decode cX4_goOn 13 = .ok (.aload_n 0, 1) := by decide +kernel
theorem dX4_goOn_14 : decode cX4_goOn 14 = .ok (.getfield 48, 3) := by decide +kernel
theorem dX4_goOn_17 : decode cX4_goOn 17 = .ok (.iload_n 1, 1) := by decide +kernel
theorem dX4_goOn_18 : decode cX4_goOn 18 = .ok (.iaload, 1) := by decide +kernel
theorem dX4_goOn_19 : decode cX4_goOn 19 = .ok (.aload_n 0, 1) := by decide +kernel
theorem dX4_goOn_20 : decode cX4_goOn 20 = .ok (.getfield 48, 3) := by decide +kernel
theorem dX4_goOn_23 : decode cX4_goOn 23 = .ok (.iload_n 1, 1) := by decide +kernel
theorem dX4_goOn_24 : decode cX4_goOn 24 = .ok (.iconst 1, 1) := by decide +kernel
theorem dX4_goOn_25 : decode cX4_goOn 25 = .ok (.iadd, 1) := by decide +kernel
theorem dX4_goOn_26 : decode cX4_goOn 26 = .ok (.iaload, 1) := by decide +kernel
theorem dX4_goOn_27 : decode cX4_goOn 27 = .ok (.if_icmp .le 9, 3) := by decide +kernel
theorem dX4_goOn_30 : decode cX4_goOn 30 = .ok (.iinc 1 (-1), 3) := by decide +kernel
theorem dX4_goOn_33 : decode cX4_goOn 33 = .ok (.goto (-24), 3) := by decide +kernel
theorem dX4_goOn_36 : decode cX4_goOn 36 = .ok (.iload_n 1, 1) := by decide +kernel
theorem dX4_goOn_37 : decode cX4_goOn 37 = .ok (.ifCond .ge 5, 3) := by decide +kernel
theorem dX4_goOn_40 : decode cX4_goOn 40 = .ok (.iconst 0, 1) := by decide +kernel
theorem dX4_goOn_41 : decode cX4_goOn 41 = .ok (.ireturn, 1) := by decide +kernel
theorem dX4_goOn_42 : decode cX4_goOn 42 = .ok (.aload_n 0, 1) := by decide +kernel
theorem dX4_goOn_43 : decode cX4_goOn 43 = .ok (.getfield 13, 3) := by decide +kernel
theorem dX4_goOn_46 : decode cX4_goOn 46 = .ok (.iconst 0, 1) := by decide +kernel
theorem dX4_goOn_47 : decode cX4_goOn 47 = .ok (.iaload, 1) := by decide +kernel
theorem dX4_goOn_48 : decode cX4_goOn 48 = .ok (.iconst 1, 1) := by decide +kernel
theorem dX4_goOn_49 : decode cX4_goOn 49 = .ok (.isub, 1) := by decide +kernel
theorem dX4_goOn_50 : decode cX4_goOn 50 = .ok (.istore_n 2, 1) := by decide +kernel
theorem dX4_goOn_51 : decode cX4_goOn 51 = .ok (.aload_n 0, 1) := by decide +kernel
theorem dX4_goOn_52 : decode cX4_goOn 52 = .ok (.getfield 48, 3) := by decide +kernel
theorem dX4_goOn_55 : decode cX4_goOn 55 = .ok (.iload_n 2, 1) := by decide +kernel
theorem dX4_goOn_56 : decode cX4_goOn 56 = .ok (.iaload, 1) := by decide +kernel
theorem dX4_goOn_57 : decode cX4_goOn 57 = .ok (.aload_n 0, 1) := by decide +kernel
theorem dX4_goOn_58 : decode cX4_goOn 58 = .ok (.getfield 48, 3) := by decide +kernel
theorem dX4_goOn_61 : decode cX4_goOn 61 = .ok (.iload_n 1, 1) := by decide +kernel
theorem dX4_goOn_62 : decode cX4_goOn 62 = .ok (.iaload, 1) := by decide +kernel
theorem dX4_goOn_63 : decode cX4_goOn 63 = .ok (.if_icmp .ge 9, 3) := by decide +kernel
theorem dX4_goOn_66 : decode cX4_goOn 66 = .ok (.iinc 2 (-1), 3) := by decide +kernel
theorem dX4_goOn_69 : decode cX4_goOn 69 = .ok (.goto (-18), 3) := by decide +kernel
theorem dX4_goOn_72 : decode cX4_goOn 72 = .ok (.aload_n 0, 1) := by decide +kernel
theorem dX4_goOn_73 : decode cX4_goOn 73 = .ok (.getfield 48, 3) := by decide +kernel
theorem dX4_goOn_76 : decode cX4_goOn 76 = .ok (.iload_n 1, 1) := by decide +kernel
theorem dX4_goOn_77 : decode cX4_goOn 77 = .ok (.iaload, 1) := by decide +kernel
theorem dX4_goOn_78 : decode cX4_goOn 78 = .ok (.istore_n 3, 1) := by decide +kernel
theorem dX4_goOn_79 : decode cX4_goOn 79 = .ok (.aload_n 0, 1) := by decide +kernel
theorem dX4_goOn_80 : decode cX4_goOn 80 = .ok (.getfield 48, 3) := by decide +kernel
theorem dX4_goOn_83 : decode cX4_goOn 83 = .ok (.iload_n 1, 1) := by decide +kernel
theorem dX4_goOn_84 : decode cX4_goOn 84 = .ok (.aload_n 0, 1) := by decide +kernel
theorem dX4_goOn_85 : decode cX4_goOn 85 = .ok (.getfield 48, 3) := by decide +kernel
theorem dX4_goOn_88 : decode cX4_goOn 88 = .ok (.iload_n 2, 1) := by decide +kernel
theorem dX4_goOn_89 : decode cX4_goOn 89 = .ok (.iaload, 1) := by decide +kernel
theorem dX4_goOn_90 : decode cX4_goOn 90 = .ok (.iastore, 1) := by decide +kernel
theorem dX4_goOn_91 : decode cX4_goOn 91 = .ok (.aload_n 0, 1) := by decide +kernel
theorem dX4_goOn_92 : decode cX4_goOn 92 = .ok (.getfield 48, 3) := by decide +kernel
theorem dX4_goOn_95 : decode cX4_goOn 95 = .ok (.iload_n 2, 1) := by decide +kernel
theorem dX4_goOn_96 : decode cX4_goOn 96 = .ok (.iload_n 3, 1) := by decide +kernel
theorem dX4_goOn_97 : decode cX4_goOn 97 = .ok (.iastore, 1) := by decide +kernel
theorem dX4_goOn_98 : decode cX4_goOn 98 = .ok (.iload_n 1, 1) := by decide +kernel
theorem dX4_goOn_99 : decode cX4_goOn 99 = .ok (.iconst 1, 1) := by decide +kernel
theorem dX4_goOn_100 : decode cX4_goOn 100 = .ok (.iadd, 1) := by decide +kernel
theorem dX4_goOn_101 : decode cX4_goOn 101 = .ok (.istore 4, 2) := by decide +kernel
theorem dX4_goOn_103 : decode cX4_goOn 103 = .ok (.aload_n 0, 1) := by decide +kernel
theorem dX4_goOn_104 : decode cX4_goOn 104 = .ok (.getfield 13, 3) := by decide +kernel
theorem dX4_goOn_107 : decode cX4_goOn 107 = .ok (.iconst 0, 1) := by decide +kernel
theorem dX4_goOn_108 : decode cX4_goOn 108 = .ok (.iaload, 1) := by decide +kernel
theorem dX4_goOn_109 : decode cX4_goOn 109 = .ok (.iconst 1, 1) := by decide +kernel
theorem dX4_goOn_110 : decode cX4_goOn 110 = .ok (.isub, 1) := by decide +kernel
theorem dX4_goOn_111 : decode cX4_goOn 111 = .ok (.istore 5, 2) := by decide +kernel
theorem dX4_goOn_113 : decode cX4_goOn 113 = .ok (.iload 4, 2) := by decide +kernel
theorem dX4_goOn_115 : decode cX4_goOn 115 = .ok (.iload 5, 2) := by decide +kernel
theorem dX4_goOn_117 : decode cX4_goOn 117 = .ok (.if_icmp .ge 42, 3) := by decide +kernel
theorem dX4_goOn_120 : decode cX4_goOn 120 = .ok (.aload_n 0, 1) := by decide +kernel
theorem dX4_goOn_121 : decode cX4_goOn 121 = .ok (.getfield 48, 3) := by decide +kernel
theorem dX4_goOn_124 : decode cX4_goOn 124 = .ok (.iload 4, 2) := by decide +kernel
theorem dX4_goOn_126 : decode cX4_goOn 126 = .ok (.iaload, 1) := by decide +kernel
theorem dX4_goOn_127 : decode cX4_goOn 127 = .ok (.istore_n 3, 1) := by decide +kernel
theorem dX4_goOn_128 : decode cX4_goOn 128 = .ok (.aload_n 0, 1) := by decide +kernel
theorem dX4_goOn_129 : decode cX4_goOn 129 = .ok (.getfield 48, 3) := by decide +kernel
theorem dX4_goOn_132 : decode cX4_goOn 132 = .ok (.iload 4, 2) := by decide +kernel
theorem dX4_goOn_134 : decode cX4_goOn 134 = .ok (.aload_n 0, 1) := by decide +kernel
theorem dX4_goOn_135 : decode cX4_goOn 135 = .ok (.getfield 48, 3) := by decide +kernel
theorem dX4_goOn_138 : decode cX4_goOn 138 = .ok (.iload 5, 2) := by decide +kernel
theorem dX4_goOn_140 : decode cX4_goOn 140 = .ok (.iaload, 1) := by decide +kernel
theorem dX4_goOn_141 : decode cX4_goOn 141 = .ok (.iastore, 1) := by decide +kernel
theorem dX4_goOn_142 : decode cX4_goOn 142 = .ok (.aload_n 0, 1) := by decide +kernel
theorem dX4_goOn_143 : decode cX4_goOn 143 = .ok (.getfield 48, 3) := by decide +kernel
theorem dX4_goOn_146 : decode cX4_goOn 146 = .ok (.iload 5, 2) := by decide +kernel
theorem dX4_goOn_148 : decode cX4_goOn 148 = .ok (.iload_n 3, 1) := by decide +kernel
theorem dX4_goOn_149 : decode cX4_goOn 149 = .ok (.iastore, 1) := by decide +kernel
theorem dX4_goOn_150 : decode cX4_goOn 150 = .ok (.iinc 4 1, 3) := by decide +kernel
theorem dX4_goOn_153 : decode cX4_goOn 153 = .ok (.iinc 5 (-1), 3) := by decide +kernel
theorem dX4_goOn_156 : decode cX4_goOn 156 = .ok (.goto (-43), 3) := by decide +kernel
theorem dX4_goOn_159 : decode cX4_goOn 159 = .ok (.iconst 1, 1) := by decide +kernel
theorem dX4_goOn_160 : decode cX4_goOn 160 = .ok (.ireturn, 1) := by decide +kernel
theorem dX4_isAsTold_0 : decode cX4_isAsTold 0 = .ok (.iconst 1, 1) := by decide +kernel
theorem dX4_isAsTold_1 : decode cX4_isAsTold 1 = .ok (.istore_n 1, 1) := by decide +kernel
theorem dX4_isAsTold_2 : decode cX4_isAsTold 2 = .ok (.iconst 0, 1) := by decide +kernel
theorem dX4_isAsTold_3 : decode cX4_isAsTold 3 = .ok (.istore_n 2, 1) := by decide +kernel
theorem dX4_isAsTold_4 : decode cX4_isAsTold 4 = .ok (.iload_n 2, 1) := by decide +kernel
theorem dX4_isAsTold_5 : decode cX4_isAsTold 5 = .ok (.aload_n 0, 1) := by decide +kernel
theorem dX4_isAsTold_6 : decode cX4_isAsTold 6 = .ok (.getfield 98, 3) := by decide +kernel
theorem dX4_isAsTold_9 : decode cX4_isAsTold 9 = .ok (.if_icmp .ge 97, 3) := by decide +kernel
theorem dX4_isAsTold_12 : decode cX4_isAsTold 12 = .ok (.iconst 1, 1) := by decide +kernel
theorem dX4_isAsTold_13 : decode cX4_isAsTold 13 = .ok (.istore_n 3, 1) := by decide +kernel
theorem dX4_isAsTold_14 : decode cX4_isAsTold 14 = .ok (.iconst 0, 1) := by decide +kernel
theorem dX4_isAsTold_15 : decode cX4_isAsTold 15 = .ok (.istore 4, 2) := by decide +kernel
theorem dX4_isAsTold_17 : decode cX4_isAsTold 17 = .ok (.iload 4, 2) := by decide +kernel
theorem dX4_isAsTold_19 : decode cX4_isAsTold 19 = .ok (.aload_n 0, 1) := by decide +kernel
theorem dX4_isAsTold_20 : decode cX4_isAsTold 20 = .ok (.getfield 13, 3) := by decide +kernel
theorem dX4_isAsTold_23 : decode cX4_isAsTold 23 = .ok (.iconst 0, 1) := by decide +kernel
theorem dX4_isAsTold_24 : decode cX4_isAsTold 24 = .ok (.iaload, 1) := by decide +kernel
theorem dX4_isAsTold_25 : decode cX4_isAsTold 25 = .ok (.if_icmp .ge 46, 3) := by decide +kernel
theorem dX4_isAsTold_28 : decode cX4_isAsTold 28 = .ok (.iload_n 3, 1) := by decide +kernel
theorem dX4_isAsTold_29 : decode cX4_isAsTold 29 = .ok (.ifCond .eq 34, 3) := by decide +kernel
theorem dX4_isAsTold_32 : decode cX4_isAsTold 32 = .ok (.aload_n 0, 1) := by decide +kernel
theorem dX4_isAsTold_33 : decode cX4_isAsTold 33 = .ok (.aload_n 0, 1) := by decide +kernel
theorem dX4_isAsTold_34 : decode cX4_isAsTold 34 = .ok (.getfield 42, 3) := by decide +kernel
theorem dX4_isAsTold_37 : decode cX4_isAsTold 37 = .ok (.iload_n 2, 1) := by decide +kernel
theorem dX4_isAsTold_38 : decode cX4_isAsTold 38 = .ok (.iaload, 1) := by decide +kernel
theorem dX4_isAsTold_39 : decode cX4_isAsTold 39 = .ok (.iload 4, 2) := by decide +kernel
theorem dX4_isAsTold_41 : decode cX4_isAsTold 41 = .ok (.invokevirtual 116, 3) := by decide +kernel
theorem dX4_isAsTold_44 : decode cX4_isAsTold 44 = .ok (.ifCond .eq 15, 3) := by decide +kernel
theorem dX4_isAsTold_47 : decode cX4_isAsTold 47 = .ok (.aload_n 0, 1) := by decide +kernel
theorem dX4_isAsTold_48 : decode cX4_isAsTold 48 = .ok (.getfield 48, 3) := by decide +kernel
theorem dX4_isAsTold_51 : decode cX4_isAsTold 51 = .ok (.iload 4, 2) := by decide +kernel
theorem dX4_isAsTold_53 : decode cX4_isAsTold 53 = .ok (.iaload, 1) := by decide +kernel
theorem dX4_isAsTold_54 : decode cX4_isAsTold 54 = .ok (.iload 4, 2) := by decide +kernel
theorem dX4_isAsTold_56 : decode cX4_isAsTold 56 = .ok (.if_icmp .ne 7, 3) := by decide +kernel
theorem dX4_isAsTold_59 : decode cX4_isAsTold 59 = .ok (.iconst 1, 1) := by decide +kernel
theorem dX4_isAsTold_60 : decode cX4_isAsTold 60 = .ok (.goto 4, 3) := by decide +kernel
theorem dX4_isAsTold_63 : decode cX4_isAsTold 63 = .ok (.iconst 0, 1) := by decide +kernel
theorem dX4_isAsTold_64 : decode cX4_isAsTold 64 = .ok (.istore_n 3, 1) := by decide +kernel
theorem dX4_isAsTold_65 : decode cX4_isAsTold 65 = .ok (.iinc 4 1, 3) := by decide +kernel
theorem dX4_isAsTold_68 : decode cX4_isAsTold 68 = .ok (.goto (-51), 3) := by decide +kernel
theorem dX4_isAsTold_71 : decode cX4_isAsTold 71 = .ok (.iload_n 1, 1) := by decide +kernel
theorem dX4_isAsTold_72 : decode cX4_isAsTold 72 = .ok (.ifCond .eq 26, 3) := by decide +kernel
theorem dX4_isAsTold_75 : decode cX4_isAsTold 75 = .ok (.iload_n 3, 1) := by decide +kernel
theorem dX4_isAsTold_76 : decode cX4_isAsTold 76 = .ok (.aload_n 0, 1) := by decide +kernel
theorem dX4_isAsTold_77 : decode cX4_isAsTold 77 = .ok (.getfield 45, 3) := by decide +kernel
theorem dX4_isAsTold_80 : decode cX4_isAsTold 80 = .ok (.iload_n 2, 1) := by decide +kernel
theorem dX4_isAsTold_81 : decode cX4_isAsTold 81 = .ok (.iaload, 1) := by decide +kernel
theorem dX4_isAsTold_82 : decode cX4_isAsTold 82 = .ok (.iconst 1, 1) := by decide +kernel
theorem dX4_isAsTold_83 : decode cX4_isAsTold 83 = .ok (.if_icmp .ne 7, 3) := by decide +kernel
theorem dX4_isAsTold_86 : decode cX4_isAsTold 86 = .ok (.iconst 1, 1) := by decide +kernel
theorem dX4_isAsTold_87 : decode cX4_isAsTold 87 = .ok (.goto 4, 3) := by decide +kernel
theorem dX4_isAsTold_90 : decode cX4_isAsTold 90 = .ok (.iconst 0, 1) := by decide +kernel
theorem dX4_isAsTold_91 : decode cX4_isAsTold 91 = .ok (.if_icmp .ne 7, 3) := by decide +kernel
theorem dX4_isAsTold_94 : decode cX4_isAsTold 94 = .ok (.iconst 1, 1) := by decide +kernel
theorem dX4_isAsTold_95 : decode cX4_isAsTold 95 = .ok (.goto 4, 3) := by decide +kernel
theorem dX4_isAsTold_98 : decode cX4_isAsTold 98 = .ok (.iconst 0, 1) := by decide +kernel
theorem dX4_isAsTold_99 : decode cX4_isAsTold 99 = .ok (.istore_n 1, 1) := by decide +kernel
theorem dX4_isAsTold_100 : decode cX4_isAsTold 100 = .ok (.iinc 2 1, 3) := by decide +kernel
theorem dX4_isAsTold_103 : decode cX4_isAsTold 103 = .ok (.goto (-99), 3) := by decide +kernel
theorem dX4_isAsTold_106 : decode cX4_isAsTold 106 = .ok (.iload_n 1, 1) := by decide +kernel
theorem dX4_isAsTold_107 : decode cX4_isAsTold 107 = .ok (.ireturn, 1) := by decide +kernel
theorem dX4_fits_0 : decode cX4_fits 0 = .ok (.iload_n 1, 1) := by decide +kernel
theorem dX4_fits_1 : decode cX4_fits 1 = .ok (.iconst (-1), 1) := by decide +kernel
theorem dX4_fits_2 : decode cX4_fits 2 = .ok (.if_icmp .eq 13, 3) := by decide +kernel
theorem dX4_fits_5 : decode cX4_fits 5 = .ok (.aload_n 0, 1) := by decide +kernel
theorem dX4_fits_6 : decode cX4_fits 6 = .ok (.iload_n 1, 1) := by decide +kernel
theorem dX4_fits_7 : decode cX4_fits 7 = .ok (.invokevirtual 126, 3) := by decide +kernel
theorem dX4_fits_10 : decode cX4_fits 10 = .ok (.ifCond .ne 5, 3) := by decide +kernel
theorem dX4_fits_13 : decode cX4_fits 13 = .ok (.iconst (-1), 1) := by decide +kernel
theorem dX4_fits_14 : decode cX4_fits 14 = .ok (.ireturn, 1) := by decide +kernel
theorem dX4_fits_15 : decode cX4_fits 15 = .ok (.iconst 0, 1) := by decide +kernel
theorem dX4_fits_16 : decode cX4_fits 16 = .ok (.istore_n 2, 1) := by decide +kernel
theorem dX4_fits_17 : decode cX4_fits 17 = .ok (.iload_n 2, 1) := by decide +kernel
theorem dX4_fits_18 : decode cX4_fits 18 = .ok (.bipush 6, 2) := by decide +kernel
theorem dX4_fits_20 : decode cX4_fits 20 = .ok (.if_icmp .ge 16, 3) := by decide +kernel
theorem dX4_fits_23 : decode cX4_fits 23 = .ok (.aload_n 0, 1) := by decide +kernel
theorem dX4_fits_24 : decode cX4_fits 24 = .ok (.getfield 48, 3) := by decide +kernel
theorem dX4_fits_27 : decode cX4_fits 27 = .ok (.iload_n 2, 1) := by decide +kernel
theorem dX4_fits_28 : decode cX4_fits 28 = .ok (.iload_n 2, 1) := by decide +kernel
theorem dX4_fits_29 : decode cX4_fits 29 = .ok (.iastore, 1) := by decide +kernel
theorem dX4_fits_30 : decode cX4_fits 30 = .ok (.iinc 2 1, 3) := by decide +kernel
theorem dX4_fits_33 : decode cX4_fits 33 = .ok (.goto (-16), 3) := by decide +kernel
theorem dX4_fits_36 : decode cX4_fits 36 = .ok (.iconst 0, 1) := by decide +kernel
theorem dX4_fits_37 : decode cX4_fits 37 = .ok (.istore_n 2, 1) := by decide +kernel
theorem dX4_fits_38 : decode cX4_fits 38 = .ok (.bipush (-9), 2) := by decide +kernel
theorem dX4_fits_40 : decode cX4_fits 40 = .ok (.istore_n 3, 1) := by decide +kernel
theorem dX4_fits_41 : decode cX4_fits 41 = .ok (.iconst 1, 1) := by decide +kernel
theorem dX4_fits_42 : decode cX4_fits 42 = .ok (.istore 4, 2) := by decide +kernel
theorem dX4_fits_44 : decode cX4_fits 44 = .ok (.iconst 1, 1) := by decide +kernel
theorem dX4_fits_45 : decode cX4_fits 45 = .ok (.istore 5, 2) := by decide +kernel
theorem dX4_fits_47 : decode cX4_fits 47 = .ok (.iload 5, 2) := by decide +kernel
theorem dX4_fits_49 : decode cX4_fits 49 = .ok (.ifCond .eq 64, 3) := by decide +kernel
theorem dX4_fits_52 : decode cX4_fits 52 = .ok (.aload_n 0, 1) := by decide +kernel
theorem dX4_fits_53 : decode cX4_fits 53 = .ok (.invokevirtual 153, 3) := by decide +kernel
theorem dX4_fits_56 : decode cX4_fits 56 = .ok (.ifCond .eq 48, 3) := by decide +kernel
theorem dX4_fits_59 : decode cX4_fits 59 = .ok (.iload_n 1, 1) := by decide +kernel
theorem dX4_fits_60 : decode cX4_fits 60 = .ok (.iconst (-1), 1) := by decide +kernel
theorem dX4_fits_61 : decode cX4_fits 61 = .ok (.if_icmp .ne 7, 3) := by decide +kernel
theorem dX4_fits_64 : decode cX4_fits 64 = .ok (.iconst 0, 1) := by decide +kernel
theorem dX4_fits_65 : decode cX4_fits 65 = .ok (.goto 9, 3) := by decide +kernel
theorem dX4_fits_68 : decode cX4_fits 68 = .ok (.aload_n 0, 1) := by decide +kernel
theorem dX4_fits_69 : decode cX4_fits 69 = .ok (.getfield 48, 3) := by decide +kernel
theorem dX4_fits_72 : decode cX4_fits 72 = .ok (.iload_n 1, 1) := by decide +kernel
theorem dX4_fits_73 : decode cX4_fits 73 = .ok (.iaload, 1) := by decide +kernel
theorem dX4_fits_74 : decode cX4_fits 74 = .ok (.istore 6, 2) := by decide +kernel
theorem dX4_fits_76 : decode cX4_fits 76 = .ok (.iload 4, 2) := by decide +kernel
theorem dX4_fits_78 : decode cX4_fits 78 = .ok (.ifCond .eq 17, 3) := by decide +kernel
theorem dX4_fits_81 : decode cX4_fits 81 = .ok (.iload_n 2, 1) := by decide +kernel
theorem dX4_fits_82 : decode cX4_fits 82 = .ok (.ifCond .eq 9, 3) := by decide +kernel
theorem dX4_fits_85 : decode cX4_fits 85 = .ok (.iload 6, 2) := by decide +kernel
theorem dX4_fits_87 : decode cX4_fits 87 = .ok (.iload_n 3, 1) := by decide +kernel
theorem dX4_fits_88 : decode cX4_fits 88 = .ok (.if_icmp .ne 7, 3) := by decide +kernel
theorem dX4_fits_91 : decode cX4_fits 91 = .ok (.iconst 1, 1) := by decide +kernel
theorem dX4_fits_92 : decode cX4_fits 92 = .ok (.goto 4, 3) := by decide +kernel
theorem dX4_fits_95 : decode cX4_fits 95 = .ok (.iconst 0, 1) := by decide +kernel
theorem dX4_fits_96 : decode cX4_fits 96 = .ok (.istore 4, 2) := by decide +kernel
theorem dX4_fits_98 : decode cX4_fits 98 = .ok (.iload 6, 2) := by decide +kernel
theorem dX4_fits_100 : decode cX4_fits 100 = .ok (.istore_n 3, 1) := by decide +kernel
theorem dX4_fits_101 : decode cX4_fits 101 = .ok (.iinc 2 1, 3) := by decide +kernel
theorem dX4_fits_104 : decode cX4_fits 104 = .ok (.aload_n 0, 1) := by decide +kernel
theorem dX4_fits_105 : decode cX4_fits 105 = .ok (.invokevirtual 157, 3) := by decide +kernel
theorem dX4_fits_108 : decode cX4_fits 108 = .ok (.istore 5, 2) := by decide +kernel
theorem dX4_fits_110 : decode cX4_fits 110 = .ok (.goto (-63), 3) := by decide +kernel
theorem dX4_fits_113 : decode cX4_fits 113 = .ok (.iload_n 1, 1) := by decide +kernel
theorem dX4_fits_114 : decode cX4_fits 114 = .ok (.iconst (-1), 1) := by decide +kernel
theorem dX4_fits_115 : decode cX4_fits 115 = .ok (.if_icmp .ne 7, 3) := by decide +kernel
theorem dX4_fits_118 : decode cX4_fits 118 = .ok (.iload_n 2, 1) := by decide +kernel
theorem dX4_fits_119 : decode cX4_fits 119 = .ok (.goto 14, 3) := by decide +kernel
theorem dX4_fits_122 : decode cX4_fits 122 = .ok (.iload 4, 2) := by decide +kernel
theorem dX4_fits_124 : decode cX4_fits 124 = .ok (.ifCond .eq 7, 3) := by decide +kernel
theorem dX4_fits_127 : decode cX4_fits 127 = .ok (.iload_n 3, 1) := by decide +kernel
theorem dX4_fits_128 : decode cX4_fits 128 = .ok (.goto 5, 3) := by decide +kernel
theorem dX4_fits_131 : decode cX4_fits 131 = .ok (.bipush (-9), 2) := by decide +kernel
theorem dX4_fits_133 : decode cX4_fits 133 = .ok (.ireturn, 1) := by decide +kernel
theorem dX4_mark_0 : decode cX4_mark 0 = .ok (.iload_n 1, 1) := by decide +kernel
theorem dX4_mark_1 : decode cX4_mark 1 = .ok (.iconst 0, 1) := by decide +kernel
theorem dX4_mark_2 : decode cX4_mark 2 = .ok (.iconst 5, 1) := by decide +kernel
theorem dX4_mark_3 : decode cX4_mark 3 = .ok (.invokestatic 57, 3) := by decide +kernel
theorem dX4_mark_6 : decode cX4_mark 6 = .ok (.ifCond .eq 11, 3) := by decide +kernel
theorem dX4_mark_9 : decode cX4_mark 9 = .ok (.aload_n 0, 1) := by decide +kernel
theorem dX4_mark_10 : decode cX4_mark 10 = .ok (.iload_n 2, 1) := by decide +kernel
theorem dX4_mark_11 : decode cX4_mark 11 = .ok (.invokevirtual 132, 3) := by decide +kernel
theorem dX4_mark_14 : decode cX4_mark 14 = .ok (.ifCond .ne 6, 3) := by decide +kernel
theorem dX4_mark_17 : decode cX4_mark 17 = .ok (.ldc 160, 2) := by decide +kernel
theorem dX4_mark_19 : decode cX4_mark 19 = .ok (.ireturn, 1) := by decide +kernel
theorem dX4_mark_20 : decode cX4_mark 20 = .ok (.aload_n 0, 1) := by decide +kernel
theorem dX4_mark_21 : decode cX4_mark 21 = .ok (.getfield 29, 3) := by decide +kernel
theorem dX4_mark_24 : decode cX4_mark 24 = .ok (.iload_n 2, 1) := by decide +kernel
theorem dX4_mark_25 : decode cX4_mark 25 = .ok (.iaload, 1) := by decide +kernel
theorem dX4_mark_26 : decode cX4_mark 26 = .ok (.aload_n 0, 1) := by decide +kernel
theorem dX4_mark_27 : decode cX4_mark 27 = .ok (.iload_n 2, 1) := by decide +kernel
theorem dX4_mark_28 : decode cX4_mark 28 = .ok (.invokevirtual 135, 3) := by decide +kernel
theorem dX4_mark_31 : decode cX4_mark 31 = .ok (.invokestatic 161, 3) := by decide +kernel
theorem dX4_mark_34 : decode cX4_mark 34 = .ok (.iadd, 1) := by decide +kernel
theorem dX4_mark_35 : decode cX4_mark 35 = .ok (.istore_n 3, 1) := by decide +kernel
theorem dX4_mark_36 : decode cX4_mark 36 = .ok (.aload_n 0, 1) := by decide +kernel
theorem dX4_mark_37 : decode cX4_mark 37 = .ok (.getfield 29, 3) := by decide +kernel
theorem dX4_mark_40 : decode cX4_mark 40 = .ok (.iload_n 2, 1) := by decide +kernel
theorem dX4_mark_41 : decode cX4_mark 41 = .ok (.iaload, 1) := by decide +kernel
theorem dX4_mark_42 : decode cX4_mark 42 = .ok (.istore 4, 2) := by decide +kernel
theorem dX4_mark_44 : decode cX4_mark 44 = .ok (.iconst 0, 1) := by decide +kernel
theorem dX4_mark_45 : decode cX4_mark 45 = .ok (.istore 5, 2) := by decide +kernel
theorem dX4_mark_47 : decode cX4_mark 47 = .ok (.iload 5, 2) := by decide +kernel
theorem dX4_mark_49 : decode cX4_mark 49 = .ok (.aload_n 0, 1) := by decide +kernel
theorem dX4_mark_50 : decode cX4_mark 50 = .ok (.getfield 13, 3) := by decide +kernel
theorem dX4_mark_53 : decode cX4_mark 53 = .ok (.iconst 0, 1) := by decide +kernel
theorem dX4_mark_54 : decode cX4_mark 54 = .ok (.iaload, 1) := by decide +kernel
theorem dX4_mark_55 : decode cX4_mark 55 = .ok (.if_icmp .ge 21, 3) := by decide +kernel
theorem dX4_mark_58 : decode cX4_mark 58 = .ok (.iload 4, 2) := by decide +kernel
theorem dX4_mark_60 : decode cX4_mark 60 = .ok (.aload_n 0, 1) := by decide +kernel
theorem dX4_mark_61 : decode cX4_mark 61 = .ok (.iload_n 2, 1) := by decide +kernel
theorem dX4_mark_62 : decode cX4_mark 62 = .ok (.iload 5, 2) := by decide +kernel
theorem dX4_mark_64 : decode cX4_mark 64 = .ok (.invokevirtual 116, 3) := by decide +kernel
theorem dX4_mark_67 : decode cX4_mark 67 = .ok (.isub, 1) := by decide +kernel
theorem dX4_mark_68 : decode cX4_mark 68 = .ok (.istore 4, 2) := by decide +kernel
theorem dX4_mark_70 : decode cX4_mark 70 = .ok (.iinc 5 1, 3) := by decide +kernel
theorem dX4_mark_73 : decode cX4_mark 73 = .ok (.goto (-26), 3) := by decide +kernel
theorem dX4_mark_76 : decode cX4_mark 76 = .ok (.iload_n 1, 1) := by decide +kernel
theorem dX4_mark_77 : decode cX4_mark 77 = .ok (.tableswitch 120 0 4 #[35, 52, 66, 81, 97], 35) := by decide +kernel
theorem dX4_mark_112 : decode cX4_mark 112 = .ok (.aload_n 0, 1) := by decide +kernel
theorem dX4_mark_113 : decode cX4_mark 113 = .ok (.dup, 1) := by decide +kernel
theorem dX4_mark_114 : decode cX4_mark 114 = .ok (.getfield 164, 3) := by decide +kernel
theorem dX4_mark_117 : decode cX4_mark 117 = .ok (.lconst 1, 1) := by decide +kernel
theorem dX4_mark_118 : decode cX4_mark 118 = .ok (.ladd, 1) := by decide +kernel
theorem dX4_mark_119 : decode cX4_mark 119 = .ok (.putfield 164, 3) := by decide +kernel
theorem dX4_mark_122 : decode cX4_mark 122 = .ok (.aload_n 0, 1) := by decide +kernel
theorem dX4_mark_123 : decode cX4_mark 123 = .ok (.getfield 29, 3) := by decide +kernel
theorem dX4_mark_126 : decode cX4_mark 126 = .ok (.iload_n 2, 1) := by decide +kernel
theorem dX4_mark_127 : decode cX4_mark 127 = .ok (.iaload, 1) := by decide +kernel
theorem dX4_mark_128 : decode cX4_mark 128 = .ok (.ireturn, 1) := by decide +kernel
theorem dX4_mark_129 : decode cX4_mark 129 = .ok (.aload_n 0, 1) := by decide +kernel
theorem dX4_mark_130 : decode cX4_mark 130 = .ok (.dup, 1) := by decide +kernel
theorem dX4_mark_131 : decode cX4_mark 131 = .ok (.getfield 164, 3) := by decide +kernel
theorem dX4_mark_134 : decode cX4_mark 134 = .ok (.ldc2_w 168, 3) := by decide +kernel
theorem dX4_mark_137 : decode cX4_mark 137 = .ok (.ladd, 1) := by decide +kernel
theorem dX4_mark_138 : decode cX4_mark 138 = .ok (.putfield 164, 3) := by decide +kernel
theorem dX4_mark_141 : decode cX4_mark 141 = .ok (.iload_n 3, 1) := by decide +kernel
theorem dX4_mark_142 : decode cX4_mark 142 = .ok (.ireturn, 1) := by decide +kernel
theorem dX4_mark_143 : decode cX4_mark 143 = .ok (.aload_n 0, 1) := by decide +kernel
theorem dX4_mark_144 : decode cX4_mark 144 = .ok (.dup, 1) := by decide +kernel
theorem dX4_mark_145 : decode cX4_mark 145 = .ok (.getfield 164, 3) := by decide +kernel
theorem dX4_mark_148 : decode cX4_mark 148 = .ok (.ldc2_w 170, 3) := by decide +kernel
theorem dX4_mark_151 : decode cX4_mark 151 = .ok (.ladd, 1) := by decide +kernel
theorem dX4_mark_152 : decode cX4_mark 152 = .ok (.putfield 164, 3) := by decide +kernel
theorem dX4_mark_155 : decode cX4_mark 155 = .ok (.iload 4, 2) := by decide +kernel
theorem dX4_mark_157 : decode cX4_mark 157 = .ok (.ireturn, 1) := by decide +kernel
theorem dX4_mark_158 : decode cX4_mark 158 = .ok (.aload_n 0, 1) := by decide +kernel
theorem dX4_mark_159 : decode cX4_mark 159 = .ok (.dup, 1) := by decide +kernel
theorem dX4_mark_160 : decode cX4_mark 160 = .ok (.getfield 164, 3) := by decide +kernel
theorem dX4_mark_163 : decode cX4_mark 163 = .ok (.ldc2_w 172, 3) := by decide +kernel
theorem dX4_mark_166 : decode cX4_mark 166 = .ok (.ladd, 1) := by decide +kernel
theorem dX4_mark_167 : decode cX4_mark 167 = .ok (.putfield 164, 3) := by decide +kernel
theorem dX4_mark_170 : decode cX4_mark 170 = .ok (.iconst 2, 1) := by decide +kernel
theorem dX4_mark_171 : decode cX4_mark 171 = .ok (.iload_n 3, 1) := by decide +kernel
theorem dX4_mark_172 : decode cX4_mark 172 = .ok (.imul, 1) := by decide +kernel
theorem dX4_mark_173 : decode cX4_mark 173 = .ok (.ireturn, 1) := by decide +kernel
theorem dX4_mark_174 : decode cX4_mark 174 = .ok (.aload_n 0, 1) := by decide +kernel
theorem dX4_mark_175 : decode cX4_mark 175 = .ok (.dup, 1) := by decide +kernel
theorem dX4_mark_176 : decode cX4_mark 176 = .ok (.getfield 164, 3) := by decide +kernel
theorem dX4_mark_179 : decode cX4_mark 179 = .ok (.ldc2_w 174, 3) := by decide +kernel
theorem dX4_mark_182 : decode cX4_mark 182 = .ok (.ladd, 1) := by decide +kernel
theorem dX4_mark_183 : decode cX4_mark 183 = .ok (.putfield 164, 3) := by decide +kernel
theorem dX4_mark_186 : decode cX4_mark 186 = .ok (.iload 4, 2) := by decide +kernel
theorem dX4_mark_188 : decode cX4_mark 188 = .ok (.aload_n 0, 1) := by decide +kernel
theorem dX4_mark_189 : decode cX4_mark 189 = .ok (.getfield 35, 3) := by decide +kernel
theorem dX4_mark_192 : decode cX4_mark 192 = .ok (.bipush 21, 2) := by decide +kernel
theorem dX4_mark_194 : decode cX4_mark 194 = .ok (.iaload, 1) := by decide +kernel
theorem dX4_mark_195 : decode cX4_mark 195 = .ok (.iadd, 1) := by decide +kernel
theorem dX4_mark_196 : decode cX4_mark 196 = .ok (.ireturn, 1) := by decide +kernel
theorem dX4_mark_197 : decode cX4_mark 197 = .ok (.aload_n 0, 1) := by decide +kernel
theorem dX4_mark_198 : decode cX4_mark 198 = .ok (.dup, 1) := by decide +kernel
theorem dX4_mark_199 : decode cX4_mark 199 = .ok (.getfield 164, 3) := by decide +kernel
theorem dX4_mark_202 : decode cX4_mark 202 = .ok (.ldc2_w 176, 3) := by decide +kernel
theorem dX4_mark_205 : decode cX4_mark 205 = .ok (.ladd, 1) := by decide +kernel
theorem dX4_mark_206 : decode cX4_mark 206 = .ok (.putfield 164, 3) := by decide +kernel
theorem dX4_mark_209 : decode cX4_mark 209 = .ok (.aload_n 0, 1) := by decide +kernel
theorem dX4_mark_210 : decode cX4_mark 210 = .ok (.getfield 29, 3) := by decide +kernel
theorem dX4_mark_213 : decode cX4_mark 213 = .ok (.iload_n 2, 1) := by decide +kernel
theorem dX4_mark_214 : decode cX4_mark 214 = .ok (.iaload, 1) := by decide +kernel
theorem dX4_mark_215 : decode cX4_mark 215 = .ok (.aload_n 0, 1) := by decide +kernel
theorem dX4_mark_216 : decode cX4_mark 216 = .ok (.getfield 35, 3) := by decide +kernel
theorem dX4_mark_219 : decode cX4_mark 219 = .ok (.bipush 18, 2) := by decide +kernel
theorem dX4_mark_221 : decode cX4_mark 221 = .ok (.iaload, 1) := by decide +kernel
theorem dX4_mark_222 : decode cX4_mark 222 = .ok (.iadd, 1) := by decide +kernel
theorem dX4_mark_223 : decode cX4_mark 223 = .ok (.ireturn, 1) := by decide +kernel
theorem dX4_keep_0 : decode cX4_keep 0 = .ok (.iload_n 1, 1) := by decide +kernel
theorem dX4_keep_1 : decode cX4_keep 1 = .ok (.iconst 0, 1) := by decide +kernel
theorem dX4_keep_2 : decode cX4_keep 2 = .ok (.iconst 1, 1) := by decide +kernel
theorem dX4_keep_3 : decode cX4_keep 3 = .ok (.invokestatic 57, 3) := by decide +kernel
theorem dX4_keep_6 : decode cX4_keep 6 = .ok (.ifCond .ne 5, 3) := by decide +kernel
theorem dX4_keep_9 : decode cX4_keep 9 = .ok (.iconst (-1), 1) := by decide +kernel
theorem dX4_keep_10 : decode cX4_keep 10 = .ok (.ireturn, 1) := by decide +kernel
theorem dX4_keep_11 : decode cX4_keep 11 = .ok (.iconst 0, 1) := by decide +kernel
theorem dX4_keep_12 : decode cX4_keep 12 = .ok (.istore_n 2, 1) := by decide +kernel
theorem dX4_keep_13 : decode cX4_keep 13 = .ok (.iload_n 2, 1) := by decide +kernel
theorem dX4_keep_14 : decode cX4_keep 14 = .ok (.sipush 243, 3) := by decide +kernel
theorem dX4_keep_17 : decode cX4_keep 17 = .ok (.if_icmp .ge 29, 3) := by decide +kernel
theorem dX4_keep_20 : decode cX4_keep 20 = .ok (.aload_n 0, 1) := by decide +kernel
theorem dX4_keep_21 : decode cX4_keep 21 = .ok (.getfield 35, 3) := by decide +kernel
theorem dX4_keep_24 : decode cX4_keep 24 = .ok (.sipush 243, 3) := by decide +kernel
theorem dX4_keep_27 : decode cX4_keep 27 = .ok (.iconst 1, 1) := by decide +kernel
theorem dX4_keep_28 : decode cX4_keep 28 = .ok (.iload_n 1, 1) := by decide +kernel
theorem dX4_keep_29 : decode cX4_keep 29 = .ok (.iadd, 1) := by decide +kernel
theorem dX4_keep_30 : decode cX4_keep 30 = .ok (.imul, 1) := by decide +kernel
theorem dX4_keep_31 : decode cX4_keep 31 = .ok (.iload_n 2, 1) := by decide +kernel
theorem dX4_keep_32 : decode cX4_keep 32 = .ok (.iadd, 1) := by decide +kernel
theorem dX4_keep_33 : decode cX4_keep 33 = .ok (.aload_n 0, 1) := by decide +kernel
theorem dX4_keep_34 : decode cX4_keep 34 = .ok (.getfield 35, 3) := by decide +kernel
theorem dX4_keep_37 : decode cX4_keep 37 = .ok (.iload_n 2, 1) := by decide +kernel
theorem dX4_keep_38 : decode cX4_keep 38 = .ok (.iaload, 1) := by decide +kernel
theorem dX4_keep_39 : decode cX4_keep 39 = .ok (.iastore, 1) := by decide +kernel
theorem dX4_keep_40 : decode cX4_keep 40 = .ok (.iinc 2 1, 3) := by decide +kernel
theorem dX4_keep_43 : decode cX4_keep 43 = .ok (.goto (-30), 3) := by decide +kernel
theorem dX4_keep_46 : decode cX4_keep 46 = .ok (.aload_n 0, 1) := by decide +kernel
theorem dX4_keep_47 : decode cX4_keep 47 = .ok (.getfield 38, 3) := by decide +kernel
theorem dX4_keep_50 : decode cX4_keep 50 = .ok (.iload_n 1, 1) := by decide +kernel
theorem dX4_keep_51 : decode cX4_keep 51 = .ok (.iconst 1, 1) := by decide +kernel
theorem dX4_keep_52 : decode cX4_keep 52 = .ok (.bastore, 1) := by decide +kernel
theorem dX4_keep_53 : decode cX4_keep 53 = .ok (.aload_n 0, 1) := by decide +kernel
theorem dX4_keep_54 : decode cX4_keep 54 = .ok (.getfield 35, 3) := by decide +kernel
theorem dX4_keep_57 : decode cX4_keep 57 = .ok (.bipush 18, 2) := by decide +kernel
theorem dX4_keep_59 : decode cX4_keep 59 = .ok (.iaload, 1) := by decide +kernel
theorem dX4_keep_60 : decode cX4_keep 60 = .ok (.ireturn, 1) := by decide +kernel
theorem dX4_back_0 : decode cX4_back 0 = .ok (.iload_n 1, 1) := by decide +kernel
theorem dX4_back_1 : decode cX4_back 1 = .ok (.iconst 0, 1) := by decide +kernel
theorem dX4_back_2 : decode cX4_back 2 = .ok (.iconst 1, 1) := by decide +kernel
theorem dX4_back_3 : decode cX4_back 3 = .ok (.invokestatic 57, 3) := by decide +kernel
theorem dX4_back_6 : decode cX4_back 6 = .ok (.ifCond .ne 5, 3) := by decide +kernel
theorem dX4_back_9 : decode cX4_back 9 = .ok (.iconst (-1), 1) := by decide +kernel
theorem dX4_back_10 : decode cX4_back 10 = .ok (.ireturn, 1) := by decide +kernel
theorem dX4_back_11 : decode cX4_back 11 = .ok (.aload_n 0, 1) := by decide +kernel
theorem dX4_back_12 : decode cX4_back 12 = .ok (.getfield 38, 3) := by decide +kernel
theorem dX4_back_15 : decode cX4_back 15 = .ok (.iload_n 1, 1) := by decide +kernel
theorem dX4_back_16 : decode cX4_back 16 = .ok (.baload, 1) := by decide +kernel
theorem dX4_back_17 : decode cX4_back 17 = .ok (.ifCond .ne 6, 3) := by decide +kernel
theorem dX4_back_20 : decode cX4_back 20 = .ok (.bipush (-2), 2) := by decide +kernel
theorem dX4_back_22 : decode cX4_back 22 = .ok (.ireturn, 1) := by decide +kernel
theorem dX4_back_23 : decode cX4_back 23 = .ok (.iconst 0, 1) := by decide +kernel
theorem dX4_back_24 : decode cX4_back 24 = .ok (.istore_n 2, 1) := by decide +kernel
theorem dX4_back_25 : decode cX4_back 25 = .ok (.iload_n 2, 1) := by decide +kernel
theorem dX4_back_26 : decode cX4_back 26 = .ok (.sipush 243, 3) := by decide +kernel
theorem dX4_back_29 : decode cX4_back 29 = .ok (.if_icmp .ge 29, 3) := by decide +kernel
theorem dX4_back_32 : decode cX4_back 32 = .ok (.aload_n 0, 1) := by decide +kernel
theorem dX4_back_33 : decode cX4_back 33 = .ok (.getfield 35, 3) := by decide +kernel
theorem dX4_back_36 : decode cX4_back 36 = .ok (.iload_n 2, 1) := by decide +kernel
theorem dX4_back_37 : decode cX4_back 37 = .ok (.aload_n 0, 1) := by decide +kernel
theorem dX4_back_38 : decode cX4_back 38 = .ok (.getfield 35, 3) := by decide +kernel
theorem dX4_back_41 : decode cX4_back 41 = .ok (.sipush 243, 3) := by decide +kernel
theorem dX4_back_44 : decode cX4_back 44 = .ok (.iconst 1, 1) := by decide +kernel
theorem dX4_back_45 : decode cX4_back 45 = .ok (.iload_n 1, 1) := by decide +kernel
theorem dX4_back_46 : decode cX4_back 46 = .ok (.iadd, 1) := by decide +kernel
theorem dX4_back_47 : decode cX4_back 47 = .ok (.imul, 1) := by decide +kernel
theorem dX4_back_48 : decode cX4_back 48 = .ok (.iload_n 2, 1) := by decide +kernel
theorem dX4_back_49 : decode cX4_back 49 = .ok (.iadd, 1) := by decide +kernel
theorem dX4_back_50 : decode cX4_back 50 = .ok (.iaload, 1) := by decide +kernel
theorem dX4_back_51 : decode cX4_back 51 = .ok (.iastore, 1) := by decide +kernel
theorem dX4_back_52 : decode cX4_back 52 = .ok (.iinc 2 1, 3) := by decide +kernel
theorem dX4_back_55 : decode cX4_back 55 = .ok (.goto (-30), 3) := by decide +kernel
theorem dX4_back_58 : decode cX4_back 58 = .ok (.aload_n 0, 1) := by decide +kernel
theorem dX4_back_59 : decode cX4_back 59 = .ok (.getfield 35, 3) := by decide +kernel
theorem dX4_back_62 : decode cX4_back 62 = .ok (.bipush 18, 2) := by decide +kernel
theorem dX4_back_64 : decode cX4_back 64 = .ok (.iaload, 1) := by decide +kernel
theorem dX4_back_65 : decode cX4_back 65 = .ok (.ireturn, 1) := by decide +kernel
theorem dX4_count_0 : decode cX4_count 0 = .ok (.iload_n 1, 1) := by decide +kernel
theorem dX4_count_1 : decode cX4_count 1 = .ok (.tableswitch 67 0 4 #[35, 42, 49, 54, 62], 35) := by decide +kernel
theorem dX4_count_36 : decode cX4_count 36 = .ok (.aload_n 0, 1) := by decide +kernel
theorem dX4_count_37 : decode cX4_count 37 = .ok (.getfield 13, 3) := by decide +kernel
theorem dX4_count_40 : decode cX4_count 40 = .ok (.iconst 0, 1) := by decide +kernel
theorem dX4_count_41 : decode cX4_count 41 = .ok (.iaload, 1) := by decide +kernel
theorem dX4_count_42 : decode cX4_count 42 = .ok (.ireturn, 1) := by decide +kernel
theorem dX4_count_43 : decode cX4_count 43 = .ok (.aload_n 0, 1) := by decide +kernel
theorem dX4_count_44 : decode cX4_count 44 = .ok (.getfield 26, 3) := by decide +kernel
theorem dX4_count_47 : decode cX4_count 47 = .ok (.iconst 0, 1) := by decide +kernel
theorem dX4_count_48 : decode cX4_count 48 = .ok (.iaload, 1) := by decide +kernel
theorem dX4_count_49 : decode cX4_count 49 = .ok (.ireturn, 1) := by decide +kernel
theorem dX4_count_50 : decode cX4_count 50 = .ok (.aload_n 0, 1) := by decide +kernel
theorem dX4_count_51 : decode cX4_count 51 = .ok (.getfield 98, 3) := by decide +kernel
theorem dX4_count_54 : decode cX4_count 54 = .ok (.ireturn, 1) := by decide +kernel
theorem dX4_count_55 : decode cX4_count 55 = .ok (.aload_n 0, 1) := by decide +kernel
theorem dX4_count_56 : decode cX4_count 56 = .ok (.getfield 35, 3) := by decide +kernel
theorem dX4_count_59 : decode cX4_count 59 = .ok (.bipush 22, 2) := by decide +kernel
theorem dX4_count_61 : decode cX4_count 61 = .ok (.iaload, 1) := by decide +kernel
theorem dX4_count_62 : decode cX4_count 62 = .ok (.ireturn, 1) := by decide +kernel
theorem dX4_count_63 : decode cX4_count 63 = .ok (.aload_n 0, 1) := by decide +kernel
theorem dX4_count_64 : decode cX4_count 64 = .ok (.getfield 61, 3) := by decide +kernel
theorem dX4_count_67 : decode cX4_count 67 = .ok (.ireturn, 1) := by decide +kernel
theorem dX4_count_68 : decode cX4_count 68 = .ok (.iconst (-1), 1) := by decide +kernel
theorem dX4_count_69 : decode cX4_count 69 = .ok (.ireturn, 1) := by decide +kernel
theorem dX4_trace_0 : decode cX4_trace 0 = .ok (.aload_n 0, 1) := by decide +kernel
theorem dX4_trace_1 : decode cX4_trace 1 = .ok (.getfield 164, 3) := by decide +kernel
theorem dX4_trace_4 : decode cX4_trace 4 = .ok (.lreturn, 1) := by decide +kernel
end
section
/-! the walker's own kit: contracts of a fixed form, rows over numbers nI n and bits bI b -/
def bI (b : Bool) : Int32 := if b then 1 else 0
theorem bI_t : bI true = 1 := rfl
theorem bI_f : bI false = 0 := rfl
def KK (D : va_G) (cI cZ cB cR : ClassId) (U : State) : Prop := va_K D vwCl [(cI, .int), (cZ, .boolean), (cB, .byte), (cR, .array .int)] U
theorem KK.moved {D : va_G} {cI cZ cB cR : ClassId} {u U : State} (hvm : u.vm.Alike U.vm) (h : KK D cI cZ cB cR u) : KK D cI cZ cB cR U := va_K.moved hvm h
abbrev mth (y : MethodName) (cc : ByteArray) (nL : Nat) (ret : Option FieldType) : List Cond := Cond.code y cc nL ret :: wsU
def zA (ws : va_W) (q : Nat) : Prop := ∃ (k : Nat) (e : va_E), ws[k]? = some (q, e)
def qR (rv : Option Value) : Array Value → State → Outcome → State → Prop := fun _ st o t => o = .returned rv ∧ t.heap = st.heap
def qW (D : va_G) (ws ws' : va_W) (rv : Option Value) : Array Value → State → Outcome → State → Prop := fun _ st o t => o = .returned rv ∧ va_P D vwCl ws' t.heap ∧ va_F (zA ws) st t
/-- a method that reads alone -/
def mR (l : Launch) (y : MethodName) (cc : ByteArray) (nL : Nat) (ret : Option FieldType) (fr lo : Nat) (D : va_G) (cI cZ cB cR : ClassId) (ws : va_W) (av : List Value) (rv : Option Value) : Prop :=
  Met l y (mth y cc nL ret) { frames := fr, cells := 0, slots := 0, locals := lo } (va_Pc av (fun U => va_P D vwCl ws U.heap ∧ KK D cI cZ cB cR U)) (qR rv) 0 0 (fun _ => False)
/-- a method that writes in its world -/
def mW (l : Launch) (y : MethodName) (cc : ByteArray) (nL : Nat) (ret : Option FieldType) (fr lo : Nat) (D : va_G) (cI cZ cB cR : ClassId) (ws ws' : va_W) (av : List Value) (rv : Option Value) : Prop :=
  Met l y (mth y cc nL ret) { frames := fr, cells := 0, slots := 0, locals := lo } (va_Pc av (fun U => va_P D vwCl ws U.heap ∧ KK D cI cZ cB cR U ∧ va_D (fun _ => True) ws)) (qW D ws ws' rv) 0 0 (zA ws)
theorem mR_of {l : Launch} {y : MethodName} {cc : ByteArray} {nL : Nat} {ret : Option FieldType} {fr lo : Nat} {D : va_G} {cI cZ cB cR : ClassId} {ws : va_W} {av : List Value} {rv : Option Value} (hy : plainName y.cls = true) (hlen : (lg_sl av).length ≤ nL)
    (body : ∀ (p : Program) (e : Env) (s : State) (m : MethodId) (args : Array Value) (below : List Frame) (meth : Method) (c : Code), CallFix p m c cc nL s args wsU y.cls → meth.sig.returnType = ret → meth.locks = false → KK D cI cZ cB cR s → va_P D vwCl ws s.heap → ∀ ls : Array Slot, lv_has ls nL (lv_args 0 av) →
      W p l e { frames := fr, cells := 0, slots := 0, locals := lo } s m args below meth c s.heap [] 0 0 (MQ below (qR rv) args s 0 0 (fun _ => False)) (F0 m 0 ls [])) : mR l y cc nL ret fr lo D cI cZ cB cR ws av rv := by
  refine Met.ofW (cc := cc) (maxL := nL) (ret := ret) hy rfl ?_
  intro p e s m args below meth c s₁ B hml hv
  obtain ⟨rfl, hP, hK⟩ := hv
  have hts := atoms_spec (ws := mth y cc nL ret) B.pre
  have hown : s.vm.findClass y.cls = some m.cls := findClass_of_methodNamed B.named
  have hl := lv_entry av (n := nL) hlen
  rw [lg_entry_eq]
  exact body p e s m _ below meth c ⟨B.exec, B.bytes, hml, hown, fun w hw => hts w (List.mem_cons_of_mem _ hw)⟩ B.returns B.notSynchronized hK hP _ hl
theorem mW_of {l : Launch} {y : MethodName} {cc : ByteArray} {nL : Nat} {ret : Option FieldType} {fr lo : Nat} {D : va_G} {cI cZ cB cR : ClassId} {ws ws' : va_W} {av : List Value} {rv : Option Value} (hy : plainName y.cls = true) (hlen : (lg_sl av).length ≤ nL)
    (body : ∀ (p : Program) (e : Env) (s : State) (m : MethodId) (args : Array Value) (below : List Frame) (meth : Method) (c : Code), CallFix p m c cc nL s args wsU y.cls → meth.sig.returnType = ret → meth.locks = false → KK D cI cZ cB cR s → ∀ A : Nat → Prop, A = zA ws → va_D A ws → ∀ H0 : Heap, H0 = s.heap → va_P D vwCl ws H0 → va_S A H0 H0 [] → ∀ ls : Array Slot, lv_has ls nL (lv_args 0 av) →
      W p l e { frames := fr, cells := 0, slots := 0, locals := lo } s m args below meth c H0 [] 0 0 (MQ below (qW D ws ws' rv) args s 0 0 (zA ws)) (F0 m 0 ls [])) : mW l y cc nL ret fr lo D cI cZ cB cR ws ws' av rv := by
  refine Met.ofW (cc := cc) (maxL := nL) (ret := ret) hy rfl ?_
  intro p e s m args below meth c s₁ B hml hv
  obtain ⟨rfl, hP, hK, hD⟩ := hv
  have hts := atoms_spec (ws := mth y cc nL ret) B.pre
  have hown : s.vm.findClass y.cls = some m.cls := findClass_of_methodNamed B.named
  have hl := lv_entry av (n := nL) hlen
  rw [lg_entry_eq]
  exact body p e s m _ below meth c ⟨B.exec, B.bytes, hml, hown, fun w hw => hts w (List.mem_cons_of_mem _ hw)⟩ B.returns B.notSynchronized hK _ rfl ⟨hD.1, fun k q hk => ⟨k, q.2, hk⟩⟩ _ rfl hP va_S.rf _ hl
theorem za_addr {A : Nat → Prop} {ws ws1 : va_W} (hD : va_D A ws) (h : ws1.map Prod.fst = ws.map Prod.fst) : va_D A ws1 := by
  have key : ∀ (k : Nat) (q : Nat × va_E), ws1[k]? = some q → ∃ q', ws[k]? = some q' ∧ q'.1 = q.1 := by
    intro k q hk
    have h1 : (ws1.map Prod.fst)[k]? = some q.1 := by rw [List.getElem?_map, hk]; rfl
    rw [h, List.getElem?_map] at h1
    cases hw : ws[k]? with
    | none => rw [hw] at h1; cases h1
    | some q' => rw [hw] at h1; exact ⟨q', rfl, Option.some.inj h1⟩
  refine ⟨fun i j x y hi hj hxy => ?_, fun k q hk => ?_⟩
  · obtain ⟨x', h1, h2⟩ := key i x hi
    obtain ⟨y', h3, h4⟩ := key j y hj
    exact hD.1 i j x' y' h1 h3 (by rw [h2, h4, hxy])
  · obtain ⟨q', h1, h2⟩ := key k q hk
    rw [← h2]
    exact hD.2 k q' h1
/-- behind a call: the world in its old order, the callee's cells anew -/
theorem z_join {A : Nat → Prop} {D : va_G} {ws wc wc' ws1 : va_W} {H H1 : Heap} (hP : va_P D vwCl ws H) (hD : va_D A ws) (isC isR : List Nat) (hC : isC.map (fun i => ws[i]?) = wc.map some) (hC1 : isC.map (fun i => ws1[i]?) = wc'.map some) (hR : isR.map (fun i => ws1[i]?) = isR.map (fun i => ws[i]?))
    (hcov : (List.range ws1.length).all (fun k => isC.contains k || (isR.contains k && !(isC.contains k))) = true) (hk : ∀ q : Nat, q < H.size → ¬ zA wc q → H1[q]? = H[q]?) (hP1 : va_P D vwCl wc' H1) : va_P D vwCl ws1 H1 := by
  intro k q hq
  have hlt : k < ws1.length := (List.getElem?_eq_some_iff.mp hq).1
  have h1 := List.all_eq_true.mp hcov k (List.mem_range.mpr hlt)
  rw [Bool.or_eq_true] at h1
  by_cases hin : isC.contains k = true
  · have hm : k ∈ isC := by simpa using hin
    obtain ⟨j, hj⟩ := List.getElem?_of_mem hm
    have h2 : (isC.map (fun i => ws1[i]?))[j]? = some (some q) := by rw [List.getElem?_map, hj]; exact congrArg some hq
    rw [hC1, List.getElem?_map] at h2
    cases hw : wc'[j]? with
    | none => rw [hw] at h2; cases h2
    | some q' => rw [hw] at h2; exact (Option.some.inj (Option.some.inj h2)) ▸ hP1 j q' hw
  · rcases h1 with h1 | h1
    · exact absurd h1 hin
    rw [Bool.and_eq_true] at h1
    have hm : k ∈ isR := by simpa using h1.1
    obtain ⟨j, hj⟩ := List.getElem?_of_mem hm
    have h2 : (isR.map (fun i => ws1[i]?))[j]? = some (some q) := by rw [List.getElem?_map, hj]; exact congrArg some hq
    rw [hR, List.getElem?_map, hj] at h2
    have h3 : ws[k]? = some q := Option.some.inj h2
    have h4 := hP k q h3
    refine h4.kept (hk q.1 h4.lt fun hz => ?_)
    obtain ⟨k2, e2, hz⟩ := hz
    have h5 : (isC.map (fun i => ws[i]?))[k2]? = some (some (q.1, e2)) := by rw [hC, List.getElem?_map, hz]; rfl
    rw [List.getElem?_map] at h5
    cases hi : isC[k2]? with
    | none => rw [hi] at h5; cases h5
    | some i =>
      rw [hi] at h5
      have h6 : ws[i]? = some (q.1, e2) := Option.some.inj h5
      have h7 := hD.1 k i q (q.1, e2) h3 h6 rfl
      subst h7
      exact hin (by simpa using List.mem_of_getElem? hi)
/-- what a call of a method needs of the tables -/
def zLk (own : String) (index : Nat) (y : MethodName) (cc : ByteArray) (nL : Nat) (ret : Option FieldType) (n : Nat) : Prop :=
  Cond.methodLink own index y ∈ wsU ∧ Cond.code y cc nL ret ∈ wsU ∧ Cond.initialized y.cls ∈ wsU ∧ (y.cls ≠ "java/lang/invoke/MethodHandle" ∧ y.cls ≠ "java/lang/invoke/VarHandle" ∧ (parseMethodDescriptor y.desc).map (fun d => d.parameters.length) = some n)
def zLkN (own : String) (index : Nat) (y : MethodName) (cc : ByteArray) (nL : Nat) (ret : Option FieldType) (n : Nat) (host : String) : Prop :=
  Cond.methodLinkNest own index y host ∈ wsU ∧ Cond.code y cc nL ret ∈ wsU ∧ Cond.initialized y.cls ∈ wsU ∧ (y.cls ≠ "java/lang/invoke/MethodHandle" ∧ y.cls ≠ "java/lang/invoke/VarHandle" ∧ (parseMethodDescriptor y.desc).map (fun d => d.parameters.length) = some n)
def zVi (y : MethodName) : Prop := Cond.instanceMethod y ∈ wsU ∧ Cond.selects y.cls y y ∈ wsU
def zSt (y : MethodName) : Prop := Cond.static y ∈ wsU
section ZCALL
variable {p : Program} {l : Launch} {e : Env} {R : Room} {s : State} {m : MethodId} {args : Array Value} {below : List Frame} {meth : Method} {c : Code} {H : Heap} {locs : List Loc} {cells slots : Nat} {Q : State → Prop}
variable {cc : ByteArray} {pc nL : Nat} {ls : Array Slot} {rest st0 : List Value} {own : String} {D : va_G} {cI cZ cB cR : ClassId} {A : Nat → Prop} {ws : va_W} {H0 : Heap}
variable {y : MethodName} {cy : ByteArray} {nLy index n fr lo : Nat} {rty : Option FieldType} {wsC wsC' ws1 : va_W} {As : List Value} {b : Nat} {rv : Option Value}
theorem z_mem {y : MethodName} {cy : ByteArray} {nLy : Nat} {rty : Option FieldType} {args : Array Value} {s : State} (hts : ∀ w ∈ wsU, w.before args s = true) (hcode : Cond.code y cy nLy rty ∈ wsU) : ∀ w ∈ mth y cy nLy rty, ∀ (a' : Array Value) (U : State), s.WarmedH U.vm → w.before a' U = true := by
  intro w hw
  rcases List.mem_cons.mp hw with rfl | hw
  · exact payU hts _ hcode
  · exact payU hts w hw
theorem z_cb (hC : CallFix p m c cc nL s args wsU own) (hl : zLk own index y cy nLy rty n) (hR : fr + 1 ≤ R.frames ∧ 8 + (nLy + 11) + lo ≤ R.locals) : CallB R s args own index y cy nLy rty (mth y cy nLy rty) { frames := fr, cells := 0, slots := 0, locals := lo } 0 0 n := by
  obtain ⟨-, -, -, -, hts⟩ := hC
  obtain ⟨h1, h2, h3, h4, h5, h6⟩ := hl
  refine ⟨rfl, rfl, hR.1, hR.2, z_mem hts h2, List.mem_cons_self, hts _ h2, hts _ h3, ⟨h4, h5⟩, fun sig h => ?_, hts _ h1⟩
  rw [h] at h6
  exact (Option.some.inj h6).symm
theorem z_cn {host : String} (hC : CallFix p m c cc nL s args wsU own) (hl : zLkN own index y cy nLy rty n host) (hR : fr + 1 ≤ R.frames ∧ 8 + (nLy + 11) + lo ≤ R.locals) : va_CN R s args own index y host cy nLy rty (mth y cy nLy rty) { frames := fr, cells := 0, slots := 0, locals := lo } 0 0 n := by
  obtain ⟨-, -, -, -, hts⟩ := hC
  obtain ⟨h1, h2, h3, h4, h5, h6⟩ := hl
  refine ⟨⟨rfl, rfl, hR.1, hR.2, z_mem hts h2, List.mem_cons_self⟩, hts _ h2, hts _ h3, ⟨h4, h5⟩, fun sig h => ?_, hts _ h1⟩
  rw [h] at h6
  exact (Option.some.inj h6).symm
theorem z_blindR : FrameBlind (va_Pc As (fun U => va_P D vwCl ws U.heap ∧ KK D cI cZ cB cR U)) := fun a U g mk q => by
  obtain ⟨h1, h2, h3⟩ := q
  exact ⟨h1, h2, KK.moved (u := U) (U := U.calling g mk a) (Vm.Alike.refl U.vm) h3⟩
theorem z_blindW : FrameBlind (va_Pc As (fun U => va_P D vwCl ws U.heap ∧ KK D cI cZ cB cR U ∧ va_D (fun _ => True) ws)) := fun a U g mk q => by
  obtain ⟨h1, h2, h3, h4⟩ := q
  exact ⟨h1, h2, KK.moved (u := U) (U := U.calling g mk a) (Vm.Alike.refl U.vm) h3, h4⟩
/-- behind a call that only read -/
theorem z_backR (hr : va_Run p l e R s m args below meth c H locs cells slots 0 0 (F0 m pc ls st0) rest (qR rv #[]) (fun _ => False)) (kk : W p l e R s m args below meth c H locs cells slots Q (F0 m (pc + 3) ls (rv.toList ++ rest))) : W p l e R s m args below meth c H locs cells slots Q (F0 m pc ls st0) := by
  intro T hT X
  obtain ⟨v, st₀, t, T', L, h0, X', hL, e1, e2, ⟨hv, hh⟩, st⟩ := hr T hT X
  cases hv
  obtain ⟨t2, a1, b1⟩ := kk T' (by rw [e1, hh, h0]) (Stand.forget X' (fun q h => (hL q h).elim))
  exact ⟨t2, st t2 a1, b1⟩
theorem z_backW (hr : va_Run p l e R s m args below meth c H locs cells slots 0 0 (F0 m pc ls st0) rest (qW D wsC wsC' rv #[]) (zA wsC)) (hS : va_S A H0 H locs) (hf : ∀ q, zA wsC q → A q)
    (kk : ∀ (H1 : Heap) (locs1 : List Loc), va_P D vwCl wsC' H1 → (∀ q : Nat, q < H.size → ¬ zA wsC q → H1[q]? = H[q]?) → va_S A H0 H1 locs1 → W p l e R s m args below meth c H1 locs1 cells slots Q (F0 m (pc + 3) ls (rv.toList ++ rest))) : W p l e R s m args below meth c H locs cells slots Q (F0 m pc ls st0) := by
  intro T hT X
  obtain ⟨v, st₀, t, T', L, h0, X', hL, e1, e2, ⟨hv, hp, hz, hk⟩, st⟩ := hr T hT X
  cases hv
  rw [h0] at hz hk
  obtain ⟨t2, a1, b1⟩ := kk T'.heap (locs ++ L) (by rw [e1]; exact hp) (fun q h1 h2 => by rw [e1]; exact hk q h1 h2)
    ⟨Nat.le_trans hS.1 (by rw [e1]; exact hz), fun q h1 h2 => by rw [e1, hk q (Nat.lt_of_lt_of_le h1 hS.1) (fun z => h2 (hf q z))]; exact hS.2.1 q h1 h2, fun q hq => by
      rcases List.mem_append.mp hq with h | h
      · exact hS.2.2 q h
      · exact hf _ (hL q h)⟩ T' rfl X'
  exact ⟨t2, st t2 a1, b1⟩
theorem z_recv {ci : Nat} {fs : List Value} {q : vw_C} (hK : KK D cI cZ cB cR s) (hP : va_P D vwCl wsC H) (hr : wsC[0]? = some (b, .inr (ci, fs)) ∧ vwCl[ci]? = some q ∧ q.1 = y.cls) : ∃ cell : Cell, H[b]? = some cell ∧ cell.vm.isStatics = false ∧ s.vm.findClass y.cls = some cell.cls := by
  obtain ⟨h1, h2, h3⟩ := hr
  rw [← h3]
  exact va_recv hK hP h2 h1
theorem zRV {ci : Nat} {fs : List Value} {q : vw_C} (hC : CallFix p m c cc nL s args wsU own) (hM : mR l y cy nLy rty fr lo D cI cZ cB cR wsC (.ref b :: As) rv) (hl : zLk own index y cy nLy rty n) (hv : zVi y) (hR : fr + 1 ≤ R.frames ∧ 8 + (nLy + 11) + lo ≤ R.locals) (hK : KK D cI cZ cB cR s) (hP : va_P D vwCl ws H) (is : List Nat) (hs : is.filterMap (fun i => ws[i]?) = wsC)
    (hr : wsC[0]? = some (b, .inr (ci, fs)) ∧ vwCl[ci]? = some q ∧ q.1 = y.cls) (hn : As.length = n) (hsz : ls.size = nL) (hst : st0 = As.reverse ++ .ref b :: rest) (hw : (rest.map fun v => v.category).sum ≤ 8) (hdg : decode cc pc = .ok (.invokevirtual index, 3)) (hcs : cells ≤ R.cells ∧ slots ≤ R.slots)
    (kk : W p l e R s m args below meth c H locs cells slots Q (F0 m (pc + 3) ls (rv.toList ++ rest))) : W p l e R s m args below meth c H locs cells slots Q (F0 m pc ls st0) := by
  have hPc := hP.sub is hs
  exact z_backR (va_runV (As := As) (rest := rest) (b := b) hC hM ⟨z_cb hC hl hR, hC.2.2.2.2 _ hv.1, hC.2.2.2.2 _ hv.2⟩ ⟨z_blindR, z_recv hK hPc hr, fun U hU hW => ⟨rfl, by rw [hU]; exact hPc, KK.moved hW.alike hK⟩⟩ rfl hn hsz hst (lv_room (pc := pc) (ls := ls) (rest := st0) hw) hdg hcs) kk
theorem zRVN {host : String} {ci : Nat} {fs : List Value} {q : vw_C} (hC : CallFix p m c cc nL s args wsU own) (hM : mR l y cy nLy rty fr lo D cI cZ cB cR wsC (.ref b :: As) rv) (hl : zLkN own index y cy nLy rty n host) (hv : zVi y) (hR : fr + 1 ≤ R.frames ∧ 8 + (nLy + 11) + lo ≤ R.locals) (hK : KK D cI cZ cB cR s) (hP : va_P D vwCl ws H) (is : List Nat) (hs : is.filterMap (fun i => ws[i]?) = wsC)
    (hr : wsC[0]? = some (b, .inr (ci, fs)) ∧ vwCl[ci]? = some q ∧ q.1 = y.cls) (hn : As.length = n) (hsz : ls.size = nL) (hst : st0 = As.reverse ++ .ref b :: rest) (hw : (rest.map fun v => v.category).sum ≤ 8) (hdg : decode cc pc = .ok (.invokevirtual index, 3)) (hcs : cells ≤ R.cells ∧ slots ≤ R.slots)
    (kk : W p l e R s m args below meth c H locs cells slots Q (F0 m (pc + 3) ls (rv.toList ++ rest))) : W p l e R s m args below meth c H locs cells slots Q (F0 m pc ls st0) := by
  have hPc := hP.sub is hs
  exact z_backR (va_runVN (As := As) (rest := rest) (b := b) hC hM ⟨z_cn hC hl hR, hC.2.2.2.2 _ hv.1, hC.2.2.2.2 _ hv.2⟩ ⟨z_blindR, z_recv hK hPc hr, fun U hU hW => ⟨rfl, by rw [hU]; exact hPc, KK.moved hW.alike hK⟩⟩ rfl hn hsz hst (lv_room (pc := pc) (ls := ls) (rest := st0) hw) hdg hcs) kk
theorem zRS (hC : CallFix p m c cc nL s args wsU own) (hM : mR l y cy nLy rty fr lo D cI cZ cB cR [] As rv) (hl : zLk own index y cy nLy rty n) (hv : zSt y) (hR : fr + 1 ≤ R.frames ∧ 8 + (nLy + 11) + lo ≤ R.locals) (hK : KK D cI cZ cB cR s)
    (hn : As.length = n) (hsz : ls.size = nL) (hst : st0 = As.reverse ++ rest) (hw : (rest.map fun v => v.category).sum ≤ 8) (hdg : decode cc pc = .ok (.invokestatic index, 3)) (hcs : cells ≤ R.cells ∧ slots ≤ R.slots)
    (kk : W p l e R s m args below meth c H locs cells slots Q (F0 m (pc + 3) ls (rv.toList ++ rest))) : W p l e R s m args below meth c H locs cells slots Q (F0 m pc ls st0) := by
  have hPc : va_P D vwCl [] H := fun k q h => by simp at h
  exact z_backR (va_runS (As := As) (rest := rest) hC hM ⟨z_cb hC hl hR, hC.2.2.2.2 _ hv⟩ ⟨z_blindR, fun U hU hW => ⟨rfl, by rw [hU]; exact hPc, KK.moved hW.alike hK⟩⟩ rfl hn hsz hst (lv_room (pc := pc) (ls := ls) (rest := st0) hw) hdg hcs) kk
theorem zRSN {host : String} (hC : CallFix p m c cc nL s args wsU own) (hM : mR l y cy nLy rty fr lo D cI cZ cB cR [] As rv) (hl : zLkN own index y cy nLy rty n host) (hv : zSt y) (hR : fr + 1 ≤ R.frames ∧ 8 + (nLy + 11) + lo ≤ R.locals) (hK : KK D cI cZ cB cR s)
    (hn : As.length = n) (hsz : ls.size = nL) (hst : st0 = As.reverse ++ rest) (hw : (rest.map fun v => v.category).sum ≤ 8) (hdg : decode cc pc = .ok (.invokestatic index, 3)) (hcs : cells ≤ R.cells ∧ slots ≤ R.slots)
    (kk : W p l e R s m args below meth c H locs cells slots Q (F0 m (pc + 3) ls (rv.toList ++ rest))) : W p l e R s m args below meth c H locs cells slots Q (F0 m pc ls st0) := by
  have hPc : va_P D vwCl [] H := fun k q h => by simp at h
  exact z_backR (va_runSN (As := As) (rest := rest) hC hM ⟨z_cn hC hl hR, hC.2.2.2.2 _ hv, trivial⟩ ⟨z_blindR, fun U hU hW => ⟨rfl, by rw [hU]; exact hPc, KK.moved hW.alike hK⟩⟩ rfl hn hsz hst (lv_room (pc := pc) (ls := ls) (rest := st0) hw) hdg hcs) kk
theorem z_subA {is : List Nat} (hD : va_D A ws) (hs : is.map (fun i => ws[i]?) = wsC.map some) (hn : va_nd is = true) : va_D A wsC := hD.sub is hn hs
theorem z_fm {is : List Nat} (hs : is.map (fun i => ws[i]?) = wsC.map some) : is.filterMap (fun i => ws[i]?) = wsC := by
  have h : (is.map (fun i => ws[i]?)).filterMap id = (wsC.map some).filterMap id := by rw [hs]
  rw [List.filterMap_map, List.filterMap_map] at h
  have e1 : is.filterMap (id ∘ fun i => ws[i]?) = is.filterMap (fun i => ws[i]?) := rfl
  have e2 : wsC.filterMap (id ∘ some) = wsC := by
    have : (id ∘ some : Nat × va_E → Option (Nat × va_E)) = some := rfl
    rw [this, List.filterMap_some]
  rw [e1, e2] at h
  exact h
theorem zWV {ci : Nat} {fs : List Value} {q : vw_C} (hC : CallFix p m c cc nL s args wsU own) (hM : mW l y cy nLy rty fr lo D cI cZ cB cR wsC wsC' (.ref b :: As) rv) (hl : zLk own index y cy nLy rty n) (hv : zVi y) (hR : fr + 1 ≤ R.frames ∧ 8 + (nLy + 11) + lo ≤ R.locals) (hK : KK D cI cZ cB cR s) (hP : va_P D vwCl ws H) (hD : va_D A ws) (hS : va_S A H0 H locs)
    (isC isR : List Nat) (hs : isC.map (fun i => ws[i]?) = wsC.map some) (hnd : va_nd isC = true) (hs1 : isC.map (fun i => ws1[i]?) = wsC'.map some) (hR1 : isR.map (fun i => ws1[i]?) = isR.map (fun i => ws[i]?)) (hcov : (List.range ws1.length).all (fun k => isC.contains k || (isR.contains k && !(isC.contains k))) = true) (had : ws1.map Prod.fst = ws.map Prod.fst)
    (hr : wsC[0]? = some (b, .inr (ci, fs)) ∧ vwCl[ci]? = some q ∧ q.1 = y.cls) (hn : As.length = n) (hsz : ls.size = nL) (hst : st0 = As.reverse ++ .ref b :: rest) (hw : (rest.map fun v => v.category).sum ≤ 8) (hdg : decode cc pc = .ok (.invokevirtual index, 3)) (hcs : cells ≤ R.cells ∧ slots ≤ R.slots)
    (kk : ∀ (H1 : Heap) (locs1 : List Loc), va_P D vwCl ws1 H1 → va_D A ws1 → va_S A H0 H1 locs1 → W p l e R s m args below meth c H1 locs1 cells slots Q (F0 m (pc + 3) ls (rv.toList ++ rest))) : W p l e R s m args below meth c H locs cells slots Q (F0 m pc ls st0) := by
  have hPc := hP.sub isC (z_fm hs)
  have hDc := z_subA hD hs hnd
  have hf : ∀ q, zA wsC q → A q := fun q h => by
    obtain ⟨k, e9, h⟩ := h
    exact hDc.2 k (q, e9) h
  refine z_backW (va_runV (As := As) (rest := rest) (b := b) hC hM ⟨z_cb hC hl hR, hC.2.2.2.2 _ hv.1, hC.2.2.2.2 _ hv.2⟩ ⟨z_blindW, z_recv hK hPc hr, fun U hU hW => ⟨rfl, by rw [hU]; exact hPc, KK.moved hW.alike hK, hDc.weaken (fun _ _ _ _ => trivial)⟩⟩ rfl hn hsz hst (lv_room (pc := pc) (ls := ls) (rest := st0) hw) hdg hcs) hS hf ?_
  intro H1 locs1 h1 h2 h3
  exact kk H1 locs1 (z_join hP hD isC isR hs hs1 hR1 hcov h2 h1) (za_addr hD had) h3
theorem zWVN {host : String} {ci : Nat} {fs : List Value} {q : vw_C} (hC : CallFix p m c cc nL s args wsU own) (hM : mW l y cy nLy rty fr lo D cI cZ cB cR wsC wsC' (.ref b :: As) rv) (hl : zLkN own index y cy nLy rty n host) (hv : zVi y) (hR : fr + 1 ≤ R.frames ∧ 8 + (nLy + 11) + lo ≤ R.locals) (hK : KK D cI cZ cB cR s) (hP : va_P D vwCl ws H) (hD : va_D A ws) (hS : va_S A H0 H locs)
    (isC isR : List Nat) (hs : isC.map (fun i => ws[i]?) = wsC.map some) (hnd : va_nd isC = true) (hs1 : isC.map (fun i => ws1[i]?) = wsC'.map some) (hR1 : isR.map (fun i => ws1[i]?) = isR.map (fun i => ws[i]?)) (hcov : (List.range ws1.length).all (fun k => isC.contains k || (isR.contains k && !(isC.contains k))) = true) (had : ws1.map Prod.fst = ws.map Prod.fst)
    (hr : wsC[0]? = some (b, .inr (ci, fs)) ∧ vwCl[ci]? = some q ∧ q.1 = y.cls) (hn : As.length = n) (hsz : ls.size = nL) (hst : st0 = As.reverse ++ .ref b :: rest) (hw : (rest.map fun v => v.category).sum ≤ 8) (hdg : decode cc pc = .ok (.invokevirtual index, 3)) (hcs : cells ≤ R.cells ∧ slots ≤ R.slots)
    (kk : ∀ (H1 : Heap) (locs1 : List Loc), va_P D vwCl ws1 H1 → va_D A ws1 → va_S A H0 H1 locs1 → W p l e R s m args below meth c H1 locs1 cells slots Q (F0 m (pc + 3) ls (rv.toList ++ rest))) : W p l e R s m args below meth c H locs cells slots Q (F0 m pc ls st0) := by
  have hPc := hP.sub isC (z_fm hs)
  have hDc := z_subA hD hs hnd
  have hf : ∀ q, zA wsC q → A q := fun q h => by
    obtain ⟨k, e9, h⟩ := h
    exact hDc.2 k (q, e9) h
  refine z_backW (va_runVN (As := As) (rest := rest) (b := b) hC hM ⟨z_cn hC hl hR, hC.2.2.2.2 _ hv.1, hC.2.2.2.2 _ hv.2⟩ ⟨z_blindW, z_recv hK hPc hr, fun U hU hW => ⟨rfl, by rw [hU]; exact hPc, KK.moved hW.alike hK, hDc.weaken (fun _ _ _ _ => trivial)⟩⟩ rfl hn hsz hst (lv_room (pc := pc) (ls := ls) (rest := st0) hw) hdg hcs) hS hf ?_
  intro H1 locs1 h1 h2 h3
  exact kk H1 locs1 (z_join hP hD isC isR hs hs1 hR1 hcov h2 h1) (za_addr hD had) h3
end ZCALL
end
section
/-! rows over numbers nI n and bits bI b -/
theorem z_inc (i k : Nat) : nI i + Int32.ofInt (k : Int) = nI (i + k) := by
  rw [← nI_add]
  congr 1
theorem z_inc1 (i : Nat) : nI i + Int32.ofInt 1 = nI (i + 1) := z_inc i 1
theorem z_dec1 {i : Nat} (h : 0 < i) : nI i + Int32.ofInt (-1) = nI (i - 1) := by
  obtain ⟨j, rfl⟩ : ∃ j, i = j + 1 := ⟨i - 1, by omega⟩
  exact pk_m1 j
theorem z_sl : ∀ n, n < 32 → ((nI n &&& 31).toBitVec.smod 32).toNat = n := by decide
theorem z_shl1 : ∀ d, d < 31 → (1 : Int32) <<< (nI d &&& 31) = nI (2 ^ d) := by decide
theorem z_shr {a d : Nat} (ha : a < 2 ^ 31) (hd : d < 32) : nI a >>> (nI d &&& 31) = nI (a / 2 ^ d) := pk_shrN ha _ d (z_sl d hd)
theorem z_andN (a b : Nat) : nI a &&& nI b = nI (a &&& b) := by
  unfold nI
  apply Int32.toBitVec_inj.mp
  simp only [Int32.toBitVec_and, Int32.toBitVec_ofNat]
  exact (BitVec.ofNat_and ..).symm
theorem z_orN (a b : Nat) : nI a ||| nI b = nI (a ||| b) := by
  unfold nI
  apply Int32.toBitVec_inj.mp
  simp only [Int32.toBitVec_or, Int32.toBitVec_ofNat]
  exact (BitVec.ofNat_or ..).symm
theorem z_bI0 {b : Bool} : bI b = 0 ↔ b = false := by cases b <;> decide
def updN (g : Nat → Nat) (i v : Nat) : Nat → Nat := fun j => if j = i then v else g j
def updB (g : Nat → Bool) (i : Nat) (v : Bool) : Nat → Bool := fun j => if j = i then v else g j
def cpyN (f g : Nat → Nat) (sp dp n : Nat) : Nat → Nat := fun k => if dp ≤ k ∧ k < dp + n then f (sp + (k - dp)) else g k
theorem updN_s {g : Nat → Nat} {i v : Nat} : updN g i v i = v := if_pos rfl
theorem updN_n {g : Nat → Nat} {i v j : Nat} (h : j ≠ i) : updN g i v j = g j := if_neg h
theorem updB_s {g : Nat → Bool} {i : Nat} {v : Bool} : updB g i v i = v := if_pos rfl
theorem updB_n {g : Nat → Bool} {i j : Nat} {v : Bool} (h : j ≠ i) : updB g i v j = g j := if_neg h
theorem upd_nI (g : Nat → Nat) (i v : Nat) : upd (fun j => nI (g j)) i (nI v) = fun j => nI (updN g i v j) := by
  funext j
  unfold upd updN
  by_cases h : j = i
  · rw [if_pos h, if_pos h]
  · rw [if_neg h, if_neg h]
theorem upd_bI (g : Nat → Bool) (i : Nat) (v : Bool) : upd (fun j => bI (g j)) i (bI v) = fun j => bI (updB g i v j) := by
  funext j
  unfold upd updB
  by_cases h : j = i
  · rw [if_pos h, if_pos h]
  · rw [if_neg h, if_neg h]
theorem cpy_nI (f g : Nat → Nat) (sp dp n : Nat) : va_cpy (fun j => nI (f j)) (fun j => nI (g j)) sp dp n = fun j => nI (cpyN f g sp dp n j) := by
  funext j
  unfold va_cpy cpyN
  by_cases h : dp ≤ j ∧ j < dp + n
  · rw [if_pos h, if_pos h]
  · rw [if_neg h, if_neg h]
/-- cells -/
abbrev aI (cI : ClassId) (a n : Nat) (g : Nat → Nat) : Nat × va_E := (a, .inl (cI, n, .inl (fun j => nI (g j))))
abbrev aZ (cZ : ClassId) (a n : Nat) (g : Nat → Bool) : Nat × va_E := (a, .inl (cZ, n, .inl (fun j => bI (g j))))
abbrev aB (cB : ClassId) (a n : Nat) (f : Nat → Int32) : Nat × va_E := (a, .inl (cB, n, .inl f))
abbrev aR (cR : ClassId) (a n : Nat) (r : Nat → Nat) : Nat × va_E := (a, .inl (cR, n, .inr (.inr (.inr (.inr (fun i => if i < n then some (r i) else none))))))
/-- a class of the world, as the rows want it -/
def zCl (ci : Nat) (C : String) (T : u_T) (N : Nat) (ty : Nat → FieldType) : Prop := vwCl[ci]? = some (C, T, N) ∧ (∀ w ∈ u_ws C T N, w ∈ wsU) ∧ (∀ k, k < N → parseFieldDescriptor (T k).2.2.1 = some (ty k)) ∧ (∀ a, a < N → ∀ b, b < N → a ≠ b → (T a).2.1 ≠ (T b).2.1)
/-- a field's link: of the own class, or of a nest mate -/
def zFl (own : String) (index : Nat) (C nm ds : String) : Prop := Cond.fieldLink own index C nm ds ∈ wsU ∨ ∃ host, Cond.fieldLinkNest own index C nm ds host ∈ wsU
section ZROW
variable {p : Program} {l : Launch} {e : Env} {R : Room} {s : State} {m : MethodId} {args : Array Value} {below : List Frame} {meth : Method} {c : Code} {H : Heap} {locs : List Loc} {cells slots : Nat} {Q : State → Prop}
variable {cc : ByteArray} {pc nL : Nat} {ls : Array Slot} {rest : List Value} {own : String} {D : va_G} {cI cZ cB cR : ClassId} {A : Nat → Prop} {ws : va_W} {H0 : Heap} {a : Nat}
theorem z_top {x y : Int32} (h : x = y) (k : W p l e R s m args below meth c H locs cells slots Q (F0 m pc ls (.int y :: rest))) : W p l e R s m args below meth c H locs cells slots Q (F0 m pc ls (.int x :: rest)) := h ▸ k
theorem z_topl {x y : Int64} (h : x = y) (k : W p l e R s m args below meth c H locs cells slots Q (F0 m pc ls (.long y :: rest))) : W p l e R s m args below meth c H locs cells slots Q (F0 m pc ls (.long x :: rest)) := h ▸ k
theorem zi_add (hC : CallFix p m c cc nL s args wsU own) {x y : Nat} (hdg : decode cc pc = .ok (.iadd, 1)) (k : W p l e R s m args below meth c H locs cells slots Q (F0 m (pc + 1) ls (.int (nI (x + y)) :: rest))) : W p l e R s m args below meth c H locs cells slots Q (F0 m pc ls (.int (nI y) :: .int (nI x) :: rest)) := lv_iadd hC.1 hC.2.1 hdg (by rw [nI_add]; exact k)
theorem zi_sub (hC : CallFix p m c cc nL s args wsU own) {x y : Nat} (hdg : decode cc pc = .ok (.isub, 1)) (h : y ≤ x) (k : W p l e R s m args below meth c H locs cells slots Q (F0 m (pc + 1) ls (.int (nI (x - y)) :: rest))) : W p l e R s m args below meth c H locs cells slots Q (F0 m pc ls (.int (nI y) :: .int (nI x) :: rest)) := lv_isub hC.1 hC.2.1 hdg (by rw [pk_sub h]; exact k)
theorem zi_mul (hC : CallFix p m c cc nL s args wsU own) {x y : Nat} (hdg : decode cc pc = .ok (.imul, 1)) (k : W p l e R s m args below meth c H locs cells slots Q (F0 m (pc + 1) ls (.int (nI (x * y)) :: rest))) : W p l e R s m args below meth c H locs cells slots Q (F0 m pc ls (.int (nI y) :: .int (nI x) :: rest)) := lv_imul hC.1 hC.2.1 hdg (by rw [pk_mul]; exact k)
theorem zi_div (hC : CallFix p m c cc nL s args wsU own) {x y : Nat} (hdg : decode cc pc = .ok (.idiv, 1)) (hx : x < 2 ^ 31) (h0 : 0 < y) (hy : y < 2 ^ 31) (k : W p l e R s m args below meth c H locs cells slots Q (F0 m (pc + 1) ls (.int (nI (x / y)) :: rest))) : W p l e R s m args below meth c H locs cells slots Q (F0 m pc ls (.int (nI y) :: .int (nI x) :: rest)) := lv_idiv hC.1 hC.2.1 hdg (nI_ne0 h0 hy) (by rw [pk_div hx h0 hy]; exact k)
theorem zi_rem (hC : CallFix p m c cc nL s args wsU own) {x y : Nat} (hdg : decode cc pc = .ok (.irem, 1)) (hx : x < 2 ^ 31) (h0 : 0 < y) (hy : y < 2 ^ 31) (k : W p l e R s m args below meth c H locs cells slots Q (F0 m (pc + 1) ls (.int (nI (x % y)) :: rest))) : W p l e R s m args below meth c H locs cells slots Q (F0 m pc ls (.int (nI y) :: .int (nI x) :: rest)) := lv_irem hC.1 hC.2.1 hdg (nI_ne0 h0 hy) (by rw [pk_rem hx h0 hy]; exact k)
theorem zi_and (hC : CallFix p m c cc nL s args wsU own) {x y : Nat} (hdg : decode cc pc = .ok (.iand, 1)) (k : W p l e R s m args below meth c H locs cells slots Q (F0 m (pc + 1) ls (.int (nI (x &&& y)) :: rest))) : W p l e R s m args below meth c H locs cells slots Q (F0 m pc ls (.int (nI y) :: .int (nI x) :: rest)) := lv_iand hC.1 hC.2.1 hdg (by rw [z_andN]; exact k)
theorem zi_or (hC : CallFix p m c cc nL s args wsU own) {x y : Nat} (hdg : decode cc pc = .ok (.ior, 1)) (k : W p l e R s m args below meth c H locs cells slots Q (F0 m (pc + 1) ls (.int (nI (x ||| y)) :: rest))) : W p l e R s m args below meth c H locs cells slots Q (F0 m pc ls (.int (nI y) :: .int (nI x) :: rest)) := lv_ior hC.1 hC.2.1 hdg (by rw [z_orN]; exact k)
theorem zi_shl1 (hC : CallFix p m c cc nL s args wsU own) {d : Nat} (hdg : decode cc pc = .ok (.ishl, 1)) (h : d < 31) (k : W p l e R s m args below meth c H locs cells slots Q (F0 m (pc + 1) ls (.int (nI (2 ^ d)) :: rest))) : W p l e R s m args below meth c H locs cells slots Q (F0 m pc ls (.int (nI d) :: .int (nI 1) :: rest)) := lv_ishl hC.1 hC.2.1 hdg (by rw [show nI 1 = (1 : Int32) from rfl, z_shl1 d h]; exact k)
theorem zi_shr (hC : CallFix p m c cc nL s args wsU own) {x d : Nat} (hdg : decode cc pc = .ok (.ishr, 1)) (hx : x < 2 ^ 31) (h : d < 32) (k : W p l e R s m args below meth c H locs cells slots Q (F0 m (pc + 1) ls (.int (nI (x / 2 ^ d)) :: rest))) : W p l e R s m args below meth c H locs cells slots Q (F0 m pc ls (.int (nI d) :: .int (nI x) :: rest)) := lv_ishr hC.1 hC.2.1 hdg (by rw [z_shr hx h]; exact k)
theorem zc_lt (hC : CallFix p m c cc nL s args wsU own) {x y : Nat} {off : Int} {tgt : Nat} (hdg : decode cc pc = .ok (.if_icmp .lt off, 3)) (ht : (pc : Int) + off = (tgt : Int)) (hx : x < 2 ^ 31) (hy : y < 2 ^ 31) (kt : x < y → W p l e R s m args below meth c H locs cells slots Q (F0 m tgt ls rest)) (kf : y ≤ x → W p l e R s m args below meth c H locs cells slots Q (F0 m (pc + 3) ls rest)) : W p l e R s m args below meth c H locs cells slots Q (F0 m pc ls (.int (nI y) :: .int (nI x) :: rest)) := lv_icmp_lt hC.1 hC.2.1 hdg ht (fun h => kt ((nI_ltI hx hy).mp h)) (fun h => kf (Nat.le_of_not_lt fun q => h ((nI_ltI hx hy).mpr q)))
theorem zc_ge (hC : CallFix p m c cc nL s args wsU own) {x y : Nat} {off : Int} {tgt : Nat} (hdg : decode cc pc = .ok (.if_icmp .ge off, 3)) (ht : (pc : Int) + off = (tgt : Int)) (hx : x < 2 ^ 31) (hy : y < 2 ^ 31) (kt : y ≤ x → W p l e R s m args below meth c H locs cells slots Q (F0 m tgt ls rest)) (kf : x < y → W p l e R s m args below meth c H locs cells slots Q (F0 m (pc + 3) ls rest)) : W p l e R s m args below meth c H locs cells slots Q (F0 m pc ls (.int (nI y) :: .int (nI x) :: rest)) := lv_icmp_ge hC.1 hC.2.1 hdg ht (fun h => kt ((nI_leI hy hx).mp h)) (fun h => kf (Nat.lt_of_not_le fun q => h ((nI_leI hy hx).mpr q)))
theorem zc_gt (hC : CallFix p m c cc nL s args wsU own) {x y : Nat} {off : Int} {tgt : Nat} (hdg : decode cc pc = .ok (.if_icmp .gt off, 3)) (ht : (pc : Int) + off = (tgt : Int)) (hx : x < 2 ^ 31) (hy : y < 2 ^ 31) (kt : y < x → W p l e R s m args below meth c H locs cells slots Q (F0 m tgt ls rest)) (kf : x ≤ y → W p l e R s m args below meth c H locs cells slots Q (F0 m (pc + 3) ls rest)) : W p l e R s m args below meth c H locs cells slots Q (F0 m pc ls (.int (nI y) :: .int (nI x) :: rest)) := lv_icmp_gt hC.1 hC.2.1 hdg ht (fun h => kt ((nI_ltI hy hx).mp h)) (fun h => kf (Nat.le_of_not_lt fun q => h ((nI_ltI hy hx).mpr q)))
theorem zc_le (hC : CallFix p m c cc nL s args wsU own) {x y : Nat} {off : Int} {tgt : Nat} (hdg : decode cc pc = .ok (.if_icmp .le off, 3)) (ht : (pc : Int) + off = (tgt : Int)) (hx : x < 2 ^ 31) (hy : y < 2 ^ 31) (kt : x ≤ y → W p l e R s m args below meth c H locs cells slots Q (F0 m tgt ls rest)) (kf : y < x → W p l e R s m args below meth c H locs cells slots Q (F0 m (pc + 3) ls rest)) : W p l e R s m args below meth c H locs cells slots Q (F0 m pc ls (.int (nI y) :: .int (nI x) :: rest)) := lv_icmp_le hC.1 hC.2.1 hdg ht (fun h => kt ((nI_leI hx hy).mp h)) (fun h => kf (Nat.lt_of_not_le fun q => h ((nI_leI hx hy).mpr q)))
theorem zc_eq (hC : CallFix p m c cc nL s args wsU own) {x y : Nat} {off : Int} {tgt : Nat} (hdg : decode cc pc = .ok (.if_icmp .eq off, 3)) (ht : (pc : Int) + off = (tgt : Int)) (hx : x < 2 ^ 31) (hy : y < 2 ^ 31) (kt : x = y → W p l e R s m args below meth c H locs cells slots Q (F0 m tgt ls rest)) (kf : x ≠ y → W p l e R s m args below meth c H locs cells slots Q (F0 m (pc + 3) ls rest)) : W p l e R s m args below meth c H locs cells slots Q (F0 m pc ls (.int (nI y) :: .int (nI x) :: rest)) := lv_icmp_eq hC.1 hC.2.1 hdg ht (fun h => kt ((nI_eq hx hy).mp h)) (fun h => kf (fun q => h ((nI_eq hx hy).mpr q)))
theorem zc_ne (hC : CallFix p m c cc nL s args wsU own) {x y : Nat} {off : Int} {tgt : Nat} (hdg : decode cc pc = .ok (.if_icmp .ne off, 3)) (ht : (pc : Int) + off = (tgt : Int)) (hx : x < 2 ^ 31) (hy : y < 2 ^ 31) (kt : x ≠ y → W p l e R s m args below meth c H locs cells slots Q (F0 m tgt ls rest)) (kf : x = y → W p l e R s m args below meth c H locs cells slots Q (F0 m (pc + 3) ls rest)) : W p l e R s m args below meth c H locs cells slots Q (F0 m pc ls (.int (nI y) :: .int (nI x) :: rest)) := lv_icmp_ne hC.1 hC.2.1 hdg ht (fun h => kt (fun q => h ((nI_eq hx hy).mpr q))) (fun h => kf (by first | exact (nI_eq hx hy).mp (Decidable.not_not.mp h) | exact (nI_eq hx hy).mp h))
theorem z0_eq (hC : CallFix p m c cc nL s args wsU own) {x : Nat} {off : Int} {tgt : Nat} (hdg : decode cc pc = .ok (.ifCond .eq off, 3)) (ht : (pc : Int) + off = (tgt : Int)) (hx : x < 2 ^ 31) (kt : x = 0 → W p l e R s m args below meth c H locs cells slots Q (F0 m tgt ls rest)) (kf : 0 < x → W p l e R s m args below meth c H locs cells slots Q (F0 m (pc + 3) ls rest)) : W p l e R s m args below meth c H locs cells slots Q (F0 m pc ls (.int (nI x) :: rest)) := lv_if_eq hC.1 hC.2.1 hdg ht (fun h => kt ((nI_eq (b := 0) hx (by decide)).mp h)) (fun h => kf (Nat.pos_of_ne_zero fun q => h (by rw [q]; rfl)))
theorem z0_ne (hC : CallFix p m c cc nL s args wsU own) {x : Nat} {off : Int} {tgt : Nat} (hdg : decode cc pc = .ok (.ifCond .ne off, 3)) (ht : (pc : Int) + off = (tgt : Int)) (hx : x < 2 ^ 31) (kt : 0 < x → W p l e R s m args below meth c H locs cells slots Q (F0 m tgt ls rest)) (kf : x = 0 → W p l e R s m args below meth c H locs cells slots Q (F0 m (pc + 3) ls rest)) : W p l e R s m args below meth c H locs cells slots Q (F0 m pc ls (.int (nI x) :: rest)) := lv_if_ne hC.1 hC.2.1 hdg ht (fun h => kt (Nat.pos_of_ne_zero fun q => h (by rw [q]; rfl))) (fun h => kf ((nI_eq (b := 0) hx (by decide)).mp (by first | exact Decidable.not_not.mp h | exact h)))
theorem z0_le (hC : CallFix p m c cc nL s args wsU own) {x : Nat} {off : Int} {tgt : Nat} (hdg : decode cc pc = .ok (.ifCond .le off, 3)) (ht : (pc : Int) + off = (tgt : Int)) (hx : x < 2 ^ 31) (kt : x = 0 → W p l e R s m args below meth c H locs cells slots Q (F0 m tgt ls rest)) (kf : 0 < x → W p l e R s m args below meth c H locs cells slots Q (F0 m (pc + 3) ls rest)) : W p l e R s m args below meth c H locs cells slots Q (F0 m pc ls (.int (nI x) :: rest)) := lv_if_le hC.1 hC.2.1 hdg ht (fun h => kt (Nat.le_zero.mp ((nI_leI (b := 0) hx (by decide)).mp h))) (fun h => kf (Nat.pos_of_ne_zero fun q => h (by rw [q]; decide)))
theorem z0_gt (hC : CallFix p m c cc nL s args wsU own) {x : Nat} {off : Int} {tgt : Nat} (hdg : decode cc pc = .ok (.ifCond .gt off, 3)) (ht : (pc : Int) + off = (tgt : Int)) (hx : x < 2 ^ 31) (kt : 0 < x → W p l e R s m args below meth c H locs cells slots Q (F0 m tgt ls rest)) (kf : x = 0 → W p l e R s m args below meth c H locs cells slots Q (F0 m (pc + 3) ls rest)) : W p l e R s m args below meth c H locs cells slots Q (F0 m pc ls (.int (nI x) :: rest)) := lv_if_gt hC.1 hC.2.1 hdg ht (fun h => kt ((nI_ltI (a := 0) (by decide) hx).mp h)) (fun h => kf (Nat.eq_zero_of_not_pos fun q => h ((nI_ltI (a := 0) (by decide) hx).mpr q)))
theorem z0_lt (hC : CallFix p m c cc nL s args wsU own) {x : Nat} {off : Int} {tgt : Nat} (hdg : decode cc pc = .ok (.ifCond .lt off, 3)) (ht : (pc : Int) + off = (tgt : Int)) (hx : x < 2 ^ 31) (kf : W p l e R s m args below meth c H locs cells slots Q (F0 m (pc + 3) ls rest)) : W p l e R s m args below meth c H locs cells slots Q (F0 m pc ls (.int (nI x) :: rest)) := lv_if_lt hC.1 hC.2.1 hdg ht (fun h => absurd h (nI_pos hx)) (fun _ => kf)
theorem z0_ge (hC : CallFix p m c cc nL s args wsU own) {x : Nat} {off : Int} {tgt : Nat} (hdg : decode cc pc = .ok (.ifCond .ge off, 3)) (ht : (pc : Int) + off = (tgt : Int)) (hx : x < 2 ^ 31) (kt : W p l e R s m args below meth c H locs cells slots Q (F0 m tgt ls rest)) : W p l e R s m args below meth c H locs cells slots Q (F0 m pc ls (.int (nI x) :: rest)) := lv_if_ge hC.1 hC.2.1 hdg ht (fun _ => kt) (fun h => absurd (nI_pos' hx) h)
theorem zb_eq (hC : CallFix p m c cc nL s args wsU own) {b : Bool} {off : Int} {tgt : Nat} (hdg : decode cc pc = .ok (.ifCond .eq off, 3)) (ht : (pc : Int) + off = (tgt : Int)) (kt : b = false → W p l e R s m args below meth c H locs cells slots Q (F0 m tgt ls rest)) (kf : b = true → W p l e R s m args below meth c H locs cells slots Q (F0 m (pc + 3) ls rest)) : W p l e R s m args below meth c H locs cells slots Q (F0 m pc ls (.int (bI b) :: rest)) := lv_if_eq hC.1 hC.2.1 hdg ht (fun h => kt (z_bI0.mp h)) (fun h => kf (by cases b; exact absurd rfl h; rfl))
theorem zb_ne (hC : CallFix p m c cc nL s args wsU own) {b : Bool} {off : Int} {tgt : Nat} (hdg : decode cc pc = .ok (.ifCond .ne off, 3)) (ht : (pc : Int) + off = (tgt : Int)) (kt : b = true → W p l e R s m args below meth c H locs cells slots Q (F0 m tgt ls rest)) (kf : b = false → W p l e R s m args below meth c H locs cells slots Q (F0 m (pc + 3) ls rest)) : W p l e R s m args below meth c H locs cells slots Q (F0 m pc ls (.int (bI b) :: rest)) := lv_if_ne hC.1 hC.2.1 hdg ht (fun h => kt (by cases b; exact absurd rfl h; rfl)) (fun h => kf (z_bI0.mp (by first | exact Decidable.not_not.mp h | exact h)))
theorem z_get {ci index k N : Nat} {C : String} {T : u_T} {ty : Nat → FieldType} (hcl : zCl ci C T N ty) (hC : CallFix p m c cc nL s args wsU own) (hK : KK D cI cZ cB cR s) (hP : va_P D vwCl ws H) (q0 : Nat) {fs : List Value} (he : ws[q0]? = some (a, .inr (ci, fs))) (hk : k < N) (hF : zFl own index (T k).1 (T k).2.1 (T k).2.2.1) {v : Value} (hv : fs[k]? = some v) (hdg : decode cc pc = .ok (.getfield index, 3)) (kk : W p l e R s m args below meth c H locs cells slots Q (F0 m (pc + 3) ls (v :: rest))) : W p l e R s m args below meth c H locs cells slots Q (F0 m pc ls (.ref a :: rest)) := by
  obtain ⟨hx, hb, -, hown, hts⟩ := hC
  rcases hF with h | ⟨host, h⟩
  · exact va_get hx hb hts hcl.2.1 hown hK hP q0 he hcl.1 k hk (hts _ h) (fun _ h9 => h9) hv hdg kk
  · exact va_getN hx hb hts hcl.2.1 hown hK hP q0 he hcl.1 k hk (hts _ h) (fun _ h9 => h9) hv hdg kk
theorem z_put {ci index k N : Nat} {C : String} {T : u_T} {ty : Nat → FieldType} (hcl : zCl ci C T N ty) (hC : CallFix p m c cc nL s args wsU own) (hK : KK D cI cZ cB cR s) (hP : va_P D vwCl ws H) (hD : va_D A ws) (hS : va_S A H0 H locs) (q0 : Nat) {fs : List Value} (he : ws[q0]? = some (a, .inr (ci, fs))) (hk : k < N) (hF : zFl own index (T k).1 (T k).2.1 (T k).2.2.1) (hfin : (T k).2.2.2 = false) {v : Value} (hn : narrow (ty k) v = v) (hfit : fits (ty k) v = true) (hl : k < fs.length) (hdg : decode cc pc = .ok (.putfield index, 3))
    (kk : ∀ (H1 : Heap) (locs1 : List Loc), va_P D vwCl (ws.set q0 (a, .inr (ci, fs.set k v))) H1 → va_D A (ws.set q0 (a, .inr (ci, fs.set k v))) → va_S A H0 H1 locs1 → W p l e R s m args below meth c H1 locs1 cells slots Q (F0 m (pc + 3) ls rest)) : W p l e R s m args below meth c H locs cells slots Q (F0 m pc ls (v :: .ref a :: rest)) := by
  obtain ⟨hx, hb, -, hown, hts⟩ := hC
  rcases hF with h | ⟨host, h⟩
  · exact va_put hx hb hts hcl.2.1 ty hcl.2.2.1 hcl.2.2.2 hown hK hP hD hS q0 he hcl.1 k hk (hts _ h) (fun _ h9 => h9) hfin (hcl.2.2.1 k hk) hn hfit hl hdg kk
  · exact va_putN hx hb hts hcl.2.1 ty hcl.2.2.1 hcl.2.2.2 hown hK hP hD hS q0 he hcl.1 k hk (hts _ h) (fun _ h9 => h9) hfin (hcl.2.2.1 k hk) hn hfit hl hdg kk
theorem z_ald (hC : CallFix p m c cc nL s args wsU own) (hK : KK D cI cZ cB cR s) (hP : va_P D vwCl ws H) (q0 : Nat) {n : Nat} {g : Nat → Nat} (ha : ws[q0]? = some (aI cI a n g)) {d : Nat} (hd : d < n) (hn : n < 2 ^ 31) (hdg : decode cc pc = .ok (.iaload, 1)) (kk : W p l e R s m args below meth c H locs cells slots Q (F0 m (pc + 1) ls (.int (nI (g d)) :: rest))) : W p l e R s m args below meth c H locs cells slots Q (F0 m pc ls (.int (nI d) :: .ref a :: rest)) := by
  refine va_iald hC.1 hC.2.1 hK hP q0 0 ha rfl (vp_in_nI hd hn) hdg ?_
  rw [nI_clamp (Nat.lt_trans hd hn)]
  exact kk
theorem z_ast (hC : CallFix p m c cc nL s args wsU own) (hK : KK D cI cZ cB cR s) (hP : va_P D vwCl ws H) (hD : va_D A ws) (hS : va_S A H0 H locs) (q0 : Nat) {n : Nat} {g : Nat → Nat} (ha : ws[q0]? = some (aI cI a n g)) {d v : Nat} (hd : d < n) (hn : n < 2 ^ 31) (hdg : decode cc pc = .ok (.iastore, 1)) (kk : ∀ (H1 : Heap) (locs1 : List Loc), va_P D vwCl (ws.set q0 (aI cI a n (updN g d v))) H1 → va_D A (ws.set q0 (aI cI a n (updN g d v))) → va_S A H0 H1 locs1 → W p l e R s m args below meth c H1 locs1 cells slots Q (F0 m (pc + 1) ls rest)) : W p l e R s m args below meth c H locs cells slots Q (F0 m pc ls (.int (nI v) :: .int (nI d) :: .ref a :: rest)) := by
  refine va_iast hC.1 hC.2.1 hK hP hD hS q0 0 ha rfl (vp_in_nI hd hn) hdg ?_
  rw [nI_clamp (Nat.lt_trans hd hn), upd_nI]
  exact kk
theorem z_zld (hC : CallFix p m c cc nL s args wsU own) (hK : KK D cI cZ cB cR s) (hP : va_P D vwCl ws H) (q0 : Nat) {n : Nat} {g : Nat → Bool} (ha : ws[q0]? = some (aZ cZ a n g)) {d : Nat} (hd : d < n) (hn : n < 2 ^ 31) (hdg : decode cc pc = .ok (.baload, 1)) (kk : W p l e R s m args below meth c H locs cells slots Q (F0 m (pc + 1) ls (.int (bI (g d)) :: rest))) : W p l e R s m args below meth c H locs cells slots Q (F0 m pc ls (.int (nI d) :: .ref a :: rest)) := by
  refine va_zald hC.1 hC.2.1 hK hP q0 1 ha rfl (vp_in_nI hd hn) hdg ?_
  rw [nI_clamp (Nat.lt_trans hd hn)]
  exact kk
theorem z_zst (hC : CallFix p m c cc nL s args wsU own) (hK : KK D cI cZ cB cR s) (hP : va_P D vwCl ws H) (hD : va_D A ws) (hS : va_S A H0 H locs) (q0 : Nat) {n : Nat} {g : Nat → Bool} (ha : ws[q0]? = some (aZ cZ a n g)) {d : Nat} {v : Bool} (hd : d < n) (hn : n < 2 ^ 31) (hdg : decode cc pc = .ok (.bastore, 1)) (kk : ∀ (H1 : Heap) (locs1 : List Loc), va_P D vwCl (ws.set q0 (aZ cZ a n (updB g d v))) H1 → va_D A (ws.set q0 (aZ cZ a n (updB g d v))) → va_S A H0 H1 locs1 → W p l e R s m args below meth c H1 locs1 cells slots Q (F0 m (pc + 1) ls rest)) : W p l e R s m args below meth c H locs cells slots Q (F0 m pc ls (.int (bI v) :: .int (nI d) :: .ref a :: rest)) := by
  refine va_zast hC.1 hC.2.1 hK hP hD hS q0 1 ha rfl (vp_in_nI hd hn) hdg ?_
  rw [nI_clamp (Nat.lt_trans hd hn), show vp_nar .boolean (bI v) = bI v by cases v <;> rfl, upd_bI]
  exact kk
theorem z_bld (hC : CallFix p m c cc nL s args wsU own) (hK : KK D cI cZ cB cR s) (hP : va_P D vwCl ws H) (q0 : Nat) {n : Nat} {f : Nat → Int32} (ha : ws[q0]? = some (aB cB a n f)) {d : Nat} (hd : d < n) (hn : n < 2 ^ 31) (hdg : decode cc pc = .ok (.baload, 1)) (kk : W p l e R s m args below meth c H locs cells slots Q (F0 m (pc + 1) ls (.int (f d) :: rest))) : W p l e R s m args below meth c H locs cells slots Q (F0 m pc ls (.int (nI d) :: .ref a :: rest)) := by
  refine va_bald hC.1 hC.2.1 hK hP q0 2 ha rfl (vp_in_nI hd hn) hdg ?_
  rw [nI_clamp (Nat.lt_trans hd hn)]
  exact kk
theorem z_bst (hC : CallFix p m c cc nL s args wsU own) (hK : KK D cI cZ cB cR s) (hP : va_P D vwCl ws H) (hD : va_D A ws) (hS : va_S A H0 H locs) (q0 : Nat) {n : Nat} {f : Nat → Int32} (ha : ws[q0]? = some (aB cB a n f)) {d : Nat} {x : Int32} (hd : d < n) (hn : n < 2 ^ 31) (hdg : decode cc pc = .ok (.bastore, 1)) (kk : ∀ (H1 : Heap) (locs1 : List Loc), va_P D vwCl (ws.set q0 (aB cB a n (upd f d x.toInt8.toInt32))) H1 → va_D A (ws.set q0 (aB cB a n (upd f d x.toInt8.toInt32))) → va_S A H0 H1 locs1 → W p l e R s m args below meth c H1 locs1 cells slots Q (F0 m (pc + 1) ls rest)) : W p l e R s m args below meth c H locs cells slots Q (F0 m pc ls (.int x :: .int (nI d) :: .ref a :: rest)) := by
  refine va_bast hC.1 hC.2.1 hK hP hD hS q0 2 ha rfl (vp_in_nI hd hn) hdg ?_
  rw [nI_clamp (Nat.lt_trans hd hn), vp_nar_byte]
  exact kk
theorem z_rld (hC : CallFix p m c cc nL s args wsU own) (hK : KK D cI cZ cB cR s) (hP : va_P D vwCl ws H) (q0 : Nat) {n : Nat} {r : Nat → Nat} (ha : ws[q0]? = some (aR cR a n r)) {d : Nat} (hd : d < n) (hn : n < 2 ^ 31) (hdg : decode cc pc = .ok (.aaload, 1)) (kk : W p l e R s m args below meth c H locs cells slots Q (F0 m (pc + 1) ls (.ref (r d) :: rest))) : W p l e R s m args below meth c H locs cells slots Q (F0 m pc ls (.int (nI d) :: .ref a :: rest)) := by
  have hlt : (nI d).toNatClampNeg < n := by rw [nI_clamp (Nat.lt_trans hd hn)]; exact hd
  refine W.aald (v := .ref (r d)) (ty := .array .int) hC.1 hC.2.1 (hP q0 _ ha) ((hK.2 3 _ rfl).1 n (fun j => va_rf (if j < n then some (r j) else none))) rfl (fun q => by cases q) (by show ¬ (nI d < 0 ∨ (arrV _ _ _).slots.size ≤ _); rw [arrV_size]; exact vp_in_nI hd hn) (by show (arrV _ _ _).slots[_]? = _; rw [arrV_read _ _ hlt, nI_clamp (Nat.lt_trans hd hn)]; show some (va_rf (if d < n then some (r d) else none)) = _; rw [if_pos hd]; rfl) rfl rfl hdg kk
/-- ends -/
theorem zr_i (hC : CallFix p m c cc nL s args wsU own) (hr : meth.sig.returnType = some .int) (hlk : meth.locks = false) {v r : Int32} (hv : v = r) (hdg : decode cc pc = .ok (.ireturn, 1)) : W p l e R s m args below meth c s.heap [] 0 0 (MQ below (qR (some (.int r))) args s 0 0 (fun _ => False)) (F0 m pc ls [.int v]) := by
  subst hv
  exact W.iret hC.1 hC.2.1 hr (fun t ht _ => ⟨rfl, ht⟩) (fun _ h => by cases h) hdg hlk
theorem zr_z (hC : CallFix p m c cc nL s args wsU own) (hr : meth.sig.returnType = some .boolean) (hlk : meth.locks = false) {v b : Bool} (hv : v = b) (hdg : decode cc pc = .ok (.ireturn, 1)) : W p l e R s m args below meth c s.heap [] 0 0 (MQ below (qR (some (.int (bI b)))) args s 0 0 (fun _ => False)) (F0 m pc ls [.int (bI v)]) := by
  subst hv
  exact W.zret (ty := .boolean) hC.1 hC.2.1 hr (by cases v <;> rfl) (fun t ht _ => ⟨rfl, ht⟩) (fun _ h => by cases h) hdg hlk
theorem zr_l (hC : CallFix p m c cc nL s args wsU own) (hr : meth.sig.returnType = some .long) (hlk : meth.locks = false) {v r : Int64} (hv : v = r) (hdg : decode cc pc = .ok (.lreturn, 1)) : W p l e R s m args below meth c s.heap [] 0 0 (MQ below (qR (some (.long r))) args s 0 0 (fun _ => False)) (F0 m pc ls [.long v]) := by
  subst hv
  exact W.lret hC.1 hC.2.1 hr (fun t ht _ => ⟨rfl, ht⟩) (fun _ h => by cases h) hdg hlk
theorem zr_a {n : String} (hC : CallFix p m c cc nL s args wsU own) (hr : meth.sig.returnType = some (.object n)) (hlk : meth.locks = false) {v r : Nat} (hv : v = r) (hdg : decode cc pc = .ok (.areturn, 1)) : W p l e R s m args below meth c s.heap [] 0 0 (MQ below (qR (some (.ref r))) args s 0 0 (fun _ => False)) (F0 m pc ls [.ref v]) := by
  subst hv
  exact W.aret hC.1 hC.2.1 hr (Or.inl ⟨n, rfl⟩) (Or.inr ⟨v, rfl⟩) (fun t ht _ => ⟨rfl, ht⟩) (fun _ h => by cases h) hdg hlk
variable {ws0 ws' : va_W}
theorem zw_i (hC : CallFix p m c cc nL s args wsU own) (hr : meth.sig.returnType = some .int) (hlk : meth.locks = false) (hA : A = zA ws0) (h0 : H0 = s.heap) (hP : va_P D vwCl ws' H) (hS : va_S A H0 H locs) {v r : Int32} (hv : v = r) (hdg : decode cc pc = .ok (.ireturn, 1)) : W p l e R s m args below meth c H locs 0 0 (MQ below (qW D ws0 ws' (some (.int r))) args s 0 0 (zA ws0)) (F0 m pc ls [.int v]) := by
  subst hv hA h0
  exact W.iret hC.1 hC.2.1 hr (fun t ht _ => ⟨rfl, by rw [ht]; exact hP, hS.F ht⟩) hS.2.2 hdg hlk
theorem zw_z (hC : CallFix p m c cc nL s args wsU own) (hr : meth.sig.returnType = some .boolean) (hlk : meth.locks = false) (hA : A = zA ws0) (h0 : H0 = s.heap) (hP : va_P D vwCl ws' H) (hS : va_S A H0 H locs) {v b : Bool} (hv : v = b) (hdg : decode cc pc = .ok (.ireturn, 1)) : W p l e R s m args below meth c H locs 0 0 (MQ below (qW D ws0 ws' (some (.int (bI b)))) args s 0 0 (zA ws0)) (F0 m pc ls [.int (bI v)]) := by
  subst hv hA h0
  exact W.zret (ty := .boolean) hC.1 hC.2.1 hr (by cases v <;> rfl) (fun t ht _ => ⟨rfl, by rw [ht]; exact hP, hS.F ht⟩) hS.2.2 hdg hlk
theorem zw_v (hC : CallFix p m c cc nL s args wsU own) (hr : meth.sig.returnType = none) (hlk : meth.locks = false) (hA : A = zA ws0) (h0 : H0 = s.heap) (hP : va_P D vwCl ws' H) (hS : va_S A H0 H locs) (hdg : decode cc pc = .ok (.return_, 1)) : W p l e R s m args below meth c H locs 0 0 (MQ below (qW D ws0 ws' none) args s 0 0 (zA ws0)) (F0 m pc ls []) := by
  subst hA h0
  exact W.vret hC.1 hC.2.1 hr (fun t ht _ => ⟨rfl, by rw [ht]; exact hP, hS.F ht⟩) hS.2.2 hdg hlk
end ZROW
end
section
/-! links of fields and methods, by their places in the tables (laid by program) -/
theorem zcX0 : zCl 0 RX0 TX0 9 tyX0 := ⟨rfl, memUs [180, 182, 184, 186, 188, 190, 192, 194, 196] (by decide +kernel), tyX0_ok, nmX0⟩
theorem zcX1 : zCl 1 RX1 TX1 7 tyX1 := ⟨rfl, memUs [142, 144, 146, 148, 150, 152, 154] (by decide +kernel), tyX1_ok, nmX1⟩
theorem zcX2 : zCl 2 RX2 TX2 6 tyX2 := ⟨rfl, memUs [105, 107, 109, 111, 113, 115] (by decide +kernel), tyX2_ok, nmX2⟩
theorem zcX3 : zCl 3 RX3 TX3 11 tyX3 := ⟨rfl, memUs [210, 212, 214, 216, 218, 220, 222, 224, 226, 228, 230] (by decide +kernel), tyX3_ok, nmX3⟩
theorem zcX4 : zCl 4 RX4 TX4 21 tyX4 := ⟨rfl, memUs [606, 608, 610, 612, 614, 616, 618, 620, 622, 624, 626, 628, 630, 632, 634, 636, 638, 640, 642, 644, 646] (by decide +kernel), tyX4_ok, nmX4⟩
theorem lF_X3_10 : zFl RX3 10 "KingDrops" "text" "LKingDrops$Text;" := Or.inl (memU 199 (by decide +kernel))
theorem lF_X3_19 : zFl RX3 19 "KingDrops" "board" "LKingDrops$Sideboard;" := Or.inl (memU 200 (by decide +kernel))
theorem lF_X3_23 : zFl RX3 23 "KingDrops" "draft" "LKingDrops$Sideboard;" := Or.inl (memU 201 (by decide +kernel))
theorem lF_X3_29 : zFl RX3 29 "KingDrops" "present" "LKingDrops$Present;" := Or.inl (memU 202 (by decide +kernel))
theorem lF_X3_33 : zFl RX3 33 "KingDrops" "firstImage" "LKingDrops$Present;" := Or.inl (memU 203 (by decide +kernel))
theorem lF_X3_36 : zFl RX3 36 "KingDrops" "secondImage" "LKingDrops$Present;" := Or.inl (memU 204 (by decide +kernel))
theorem lF_X3_39 : zFl RX3 39 "KingDrops" "imagesKept" "I" := Or.inl (memU 205 (by decide +kernel))
theorem lF_X3_43 : zFl RX3 43 "KingDrops" "toldNeeds" "[I" := Or.inl (memU 206 (by decide +kernel))
theorem lF_X3_47 : zFl RX3 47 "KingDrops" "toldWell" "[Z" := Or.inl (memU 207 (by decide +kernel))
theorem lF_X3_51 : zFl RX3 51 "KingDrops" "told" "I" := Or.inl (memU 208 (by decide +kernel))
theorem lF_X3_54 : zFl RX3 54 "KingDrops" "traced" "J" := Or.inl (memU 209 (by decide +kernel))
theorem lF_X3_62 : zFl RX3 62 "KingDrops$Text" "length" "I" := Or.inr ⟨"KingDrops", memU 100 (by decide +kernel)⟩
theorem lF_X3_79 : zFl RX3 79 "KingDrops$Present" "levels" "[I" := Or.inr ⟨"KingDrops", memU 164 (by decide +kernel)⟩
theorem lF_X3_82 : zFl RX3 82 "KingDrops$Sideboard" "airs" "[I" := Or.inr ⟨"KingDrops", memU 133 (by decide +kernel)⟩
theorem lF_X3_85 : zFl RX3 85 "KingDrops$Present" "teas" "[I" := Or.inr ⟨"KingDrops", memU 166 (by decide +kernel)⟩
theorem lF_X3_88 : zFl RX3 88 "KingDrops$Present" "labels" "[I" := Or.inr ⟨"KingDrops", memU 168 (by decide +kernel)⟩
theorem lF_X3_98 : zFl RX3 98 "KingDrops$Sideboard" "worths" "[I" := Or.inr ⟨"KingDrops", memU 140 (by decide +kernel)⟩
theorem lF_X3_123 : zFl RX3 123 "KingDrops$Sideboard" "decanters" "I" := Or.inr ⟨"KingDrops", memU 129 (by decide +kernel)⟩
theorem lF_X3_133 : zFl RX3 133 "KingDrops$Present" "done" "I" := Or.inr ⟨"KingDrops", memU 172 (by decide +kernel)⟩
theorem lF_X3_136 : zFl RX3 136 "KingDrops$Present" "earned" "I" := Or.inr ⟨"KingDrops", memU 174 (by decide +kernel)⟩
theorem lF_X3_139 : zFl RX3 139 "KingDrops$Present" "blunders" "I" := Or.inr ⟨"KingDrops", memU 176 (by decide +kernel)⟩
theorem lF_X3_142 : zFl RX3 142 "KingDrops$Present" "months" "I" := Or.inr ⟨"KingDrops", memU 170 (by decide +kernel)⟩
theorem lF_X3_149 : zFl RX3 149 "KingDrops$Present" "stepsKnown" "I" := Or.inr ⟨"KingDrops", memU 179 (by decide +kernel)⟩
theorem lF_X3_162 : zFl RX3 162 "KingDrops$Sideboard" "acts" "I" := Or.inr ⟨"KingDrops", memU 138 (by decide +kernel)⟩
theorem lF_X3_236 : Cond.fieldLink RX3 236 "KingDrops" "NONE_OWN" "[I" ∈ wsU := memU 503 (by decide +kernel)
theorem lF_X0_11 : zFl RX0 11 "KingDrops$Present" "levels" "[I" := Or.inl (memU 163 (by decide +kernel))
theorem lF_X0_15 : zFl RX0 15 "KingDrops$Present" "teas" "[I" := Or.inl (memU 165 (by decide +kernel))
theorem lF_X0_18 : zFl RX0 18 "KingDrops$Present" "labels" "[I" := Or.inl (memU 167 (by decide +kernel))
theorem lF_X0_21 : zFl RX0 21 "KingDrops$Present" "months" "I" := Or.inl (memU 169 (by decide +kernel))
theorem lF_X0_25 : zFl RX0 25 "KingDrops$Present" "done" "I" := Or.inl (memU 171 (by decide +kernel))
theorem lF_X0_28 : zFl RX0 28 "KingDrops$Present" "earned" "I" := Or.inl (memU 173 (by decide +kernel))
theorem lF_X0_31 : zFl RX0 31 "KingDrops$Present" "blunders" "I" := Or.inl (memU 175 (by decide +kernel))
theorem lF_X0_34 : zFl RX0 34 "KingDrops$Present" "steps" "[I" := Or.inl (memU 177 (by decide +kernel))
theorem lF_X0_37 : zFl RX0 37 "KingDrops$Present" "stepsKnown" "I" := Or.inl (memU 178 (by decide +kernel))
theorem lF_X0_40 : zFl RX0 40 "KingDrops$Sideboard" "levels" "[I" := Or.inr ⟨"KingDrops", memU 131 (by decide +kernel)⟩
theorem lF_X0_43 : zFl RX0 43 "KingDrops$Sideboard" "labels" "[I" := Or.inr ⟨"KingDrops", memU 135 (by decide +kernel)⟩
theorem lF_X1_9 : zFl RX1 9 "KingDrops$Sideboard" "decanters" "I" := Or.inl (memU 127 (by decide +kernel))
theorem lF_X1_15 : zFl RX1 15 "KingDrops$Sideboard" "levels" "[I" := Or.inl (memU 130 (by decide +kernel))
theorem lF_X1_19 : zFl RX1 19 "KingDrops$Sideboard" "airs" "[I" := Or.inl (memU 132 (by decide +kernel))
theorem lF_X1_22 : zFl RX1 22 "KingDrops$Sideboard" "labels" "[I" := Or.inl (memU 134 (by decide +kernel))
theorem lF_X1_25 : zFl RX1 25 "KingDrops$Sideboard" "acts" "I" := Or.inl (memU 136 (by decide +kernel))
theorem lF_X1_28 : zFl RX1 28 "KingDrops$Sideboard" "worths" "[I" := Or.inl (memU 139 (by decide +kernel))
theorem lF_X1_33 : zFl RX1 33 "KingDrops$Sideboard" "drops" "[[I" := Or.inl (memU 141 (by decide +kernel))
theorem lF_X2_9 : zFl RX2 9 "KingDrops$Text" "bytes" "[I" := Or.inl (memU 98 (by decide +kernel))
theorem lF_X2_15 : zFl RX2 15 "KingDrops$Text" "length" "I" := Or.inl (memU 99 (by decide +kernel))
theorem lF_X2_19 : zFl RX2 19 "KingDrops$Text" "place" "I" := Or.inl (memU 101 (by decide +kernel))
theorem lF_X2_22 : zFl RX2 22 "KingDrops$Text" "token" "I" := Or.inl (memU 102 (by decide +kernel))
theorem lF_X2_25 : zFl RX2 25 "KingDrops$Text" "tokenAt" "I" := Or.inl (memU 103 (by decide +kernel))
theorem lF_X2_28 : zFl RX2 28 "KingDrops$Text" "value" "I" := Or.inl (memU 104 (by decide +kernel))
theorem lF_X2_38 : zFl RX2 38 "KingDrops$Sideboard" "decanters" "I" := Or.inr ⟨"KingDrops", memU 128 (by decide +kernel)⟩
theorem lF_X2_46 : zFl RX2 46 "KingDrops$Sideboard" "acts" "I" := Or.inr ⟨"KingDrops", memU 137 (by decide +kernel)⟩
theorem lF_X4_7 : zFl RX4 7 "KingDropsModel" "text" "[B" := Or.inl (memU 586 (by decide +kernel))
theorem lF_X4_13 : zFl RX4 13 "KingDropsModel" "decanters" "[I" := Or.inl (memU 588 (by decide +kernel))
theorem lF_X4_17 : zFl RX4 17 "KingDropsModel" "draftLevel" "[I" := Or.inl (memU 589 (by decide +kernel))
theorem lF_X4_20 : zFl RX4 20 "KingDropsModel" "draftLabel" "[I" := Or.inl (memU 590 (by decide +kernel))
theorem lF_X4_23 : zFl RX4 23 "KingDropsModel" "air" "[I" := Or.inl (memU 591 (by decide +kernel))
theorem lF_X4_26 : zFl RX4 26 "KingDropsModel" "acts" "[I" := Or.inl (memU 592 (by decide +kernel))
theorem lF_X4_29 : zFl RX4 29 "KingDropsModel" "worth" "[I" := Or.inl (memU 593 (by decide +kernel))
theorem lF_X4_32 : zFl RX4 32 "KingDropsModel" "need" "[I" := Or.inl (memU 594 (by decide +kernel))
theorem lF_X4_35 : zFl RX4 35 "KingDropsModel" "now" "[I" := Or.inl (memU 600 (by decide +kernel))
theorem lF_X4_38 : zFl RX4 38 "KingDropsModel" "isKept" "[Z" := Or.inl (memU 601 (by decide +kernel))
theorem lF_X4_42 : zFl RX4 42 "KingDropsModel" "toldAct" "[I" := Or.inl (memU 602 (by decide +kernel))
theorem lF_X4_45 : zFl RX4 45 "KingDropsModel" "toldWell" "[I" := Or.inl (memU 603 (by decide +kernel))
theorem lF_X4_48 : zFl RX4 48 "KingDropsModel" "hangs" "[I" := Or.inl (memU 605 (by decide +kernel))
theorem lF_X4_61 : zFl RX4 61 "KingDropsModel" "typed" "I" := Or.inl (memU 587 (by decide +kernel))
theorem lF_X4_65 : zFl RX4 65 "KingDropsModel" "at" "I" := Or.inl (memU 595 (by decide +kernel))
theorem lF_X4_72 : zFl RX4 72 "KingDropsModel" "start" "I" := Or.inl (memU 596 (by decide +kernel))
theorem lF_X4_75 : zFl RX4 75 "KingDropsModel" "value" "I" := Or.inl (memU 598 (by decide +kernel))
theorem lF_X4_78 : zFl RX4 78 "KingDropsModel" "sort" "I" := Or.inl (memU 597 (by decide +kernel))
theorem lF_X4_81 : zFl RX4 81 "KingDropsModel" "fault" "I" := Or.inl (memU 599 (by decide +kernel))
theorem lF_X4_98 : zFl RX4 98 "KingDropsModel" "told" "I" := Or.inl (memU 604 (by decide +kernel))
theorem lF_X4_164 : zFl RX4 164 "KingDropsModel" "trace" "J" := Or.inl (memU 585 (by decide +kernel))
theorem lM_X3_58 : zLkN RX3 58 yX2_takes cX2_takes 2 (some .boolean) 1 "KingDrops" := ⟨memU 238 (by decide +kernel), memU 241 (by decide +kernel), memU 77 (by decide +kernel), by decide +kernel⟩
theorem vM_X2_takes : zVi yX2_takes := ⟨memU 240 (by decide +kernel), memU 0 (by decide +kernel)⟩
theorem lM_X3_65 : zLkN RX3 65 yX1_empties cX1_empties 1 none 0 "KingDrops" := ⟨memU 250 (by decide +kernel), memU 253 (by decide +kernel), memU 78 (by decide +kernel), by decide +kernel⟩
theorem vM_X1_empties : zVi yX1_empties := ⟨memU 252 (by decide +kernel), memU 1 (by decide +kernel)⟩
theorem lM_X3_68 : zLkN RX3 68 yX2_readsInto cX2_readsInto 3 (some .int) 1 "KingDrops" := ⟨memU 254 (by decide +kernel), memU 257 (by decide +kernel), memU 77 (by decide +kernel), by decide +kernel⟩
theorem vM_X2_readsInto : zVi yX2_readsInto := ⟨memU 256 (by decide +kernel), memU 2 (by decide +kernel)⟩
theorem lM_X3_72 : zLkN RX3 72 yX0_begins cX0_begins 3 none 1 "KingDrops" := ⟨memU 313 (by decide +kernel), memU 316 (by decide +kernel), memU 79 (by decide +kernel), by decide +kernel⟩
theorem vM_X0_begins : zVi yX0_begins := ⟨memU 315 (by decide +kernel), memU 16 (by decide +kernel)⟩
theorem lM_X3_76 : zLk RX3 76 yX3_isDecanter cX3_isDecanter 2 (some .boolean) 1 := ⟨memU 321 (by decide +kernel), memU 324 (by decide +kernel), memU 76 (by decide +kernel), by decide +kernel⟩
theorem vM_X3_isDecanter : zVi yX3_isDecanter := ⟨memU 323 (by decide +kernel), memU 17 (by decide +kernel)⟩
theorem lM_X3_91 : zLk RX3 91 yX3_span cX3_span 4 (some .int) 1 := ⟨memU 325 (by decide +kernel), memU 328 (by decide +kernel), memU 76 (by decide +kernel), by decide +kernel⟩
theorem vM_X3_span : zVi yX3_span := ⟨memU 327 (by decide +kernel), memU 18 (by decide +kernel)⟩
theorem lM_X3_95 : zLk RX3 95 yX3_isAct cX3_isAct 2 (some .boolean) 1 := ⟨memU 333 (by decide +kernel), memU 336 (by decide +kernel), memU 76 (by decide +kernel), by decide +kernel⟩
theorem vM_X3_isAct : zVi yX3_isAct := ⟨memU 335 (by decide +kernel), memU 19 (by decide +kernel)⟩
theorem lM_X3_101 : zLkN RX3 101 yX1_qualitiesNeeded cX1_qualitiesNeeded 4 (some .int) 1 "KingDrops" := ⟨memU 337 (by decide +kernel), memU 340 (by decide +kernel), memU 78 (by decide +kernel), by decide +kernel⟩
theorem vM_X1_qualitiesNeeded : zVi yX1_qualitiesNeeded := ⟨memU 339 (by decide +kernel), memU 20 (by decide +kernel)⟩
theorem lM_X3_104 : zLk RX3 104 yX3_isDone cX3_isDone 2 (some .boolean) 1 := ⟨memU 345 (by decide +kernel), memU 348 (by decide +kernel), memU 76 (by decide +kernel), by decide +kernel⟩
theorem vM_X3_isDone : zVi yX3_isDone := ⟨memU 347 (by decide +kernel), memU 22 (by decide +kernel)⟩
theorem lM_X3_107 : zLk RX3 107 yX3_lastMonth cX3_lastMonth 6 (some .int) 1 := ⟨memU 352 (by decide +kernel), memU 355 (by decide +kernel), memU 76 (by decide +kernel), by decide +kernel⟩
theorem vM_X3_lastMonth : zVi yX3_lastMonth := ⟨memU 354 (by decide +kernel), memU 23 (by decide +kernel)⟩
theorem lM_X3_110 : zLkN RX3 110 yX1_dropsNeeded cX1_dropsNeeded 3 (some .int) 2 "KingDrops" := ⟨memU 368 (by decide +kernel), memU 344 (by decide +kernel), memU 78 (by decide +kernel), by decide +kernel⟩
theorem vM_X1_dropsNeeded : zVi yX1_dropsNeeded := ⟨memU 343 (by decide +kernel), memU 21 (by decide +kernel)⟩
theorem lM_X3_114 : zLk RX3 114 yX3_isEnoughFor cX3_isEnoughFor 2 (some .boolean) 1 := ⟨memU 356 (by decide +kernel), memU 359 (by decide +kernel), memU 76 (by decide +kernel), by decide +kernel⟩
theorem vM_X3_isEnoughFor : zVi yX3_isEnoughFor := ⟨memU 358 (by decide +kernel), memU 24 (by decide +kernel)⟩
theorem lM_X3_117 : zLkN RX3 117 yX0_remembers cX0_remembers 2 none 0 "KingDrops" := ⟨memU 380 (by decide +kernel), memU 383 (by decide +kernel), memU 79 (by decide +kernel), by decide +kernel⟩
theorem vM_X0_remembers : zVi yX0_remembers := ⟨memU 382 (by decide +kernel), memU 27 (by decide +kernel)⟩
theorem lM_X3_120 : zLk RX3 120 yX3_wouldGoWell cX3_wouldGoWell 3 (some .boolean) 1 := ⟨memU 387 (by decide +kernel), memU 390 (by decide +kernel), memU 76 (by decide +kernel), by decide +kernel⟩
theorem vM_X3_wouldGoWell : zVi yX3_wouldGoWell := ⟨memU 389 (by decide +kernel), memU 28 (by decide +kernel)⟩
theorem lM_X3_126 : zLk RX3 126 yX3_dropsFrom cX3_dropsFrom 3 (some .int) 2 := ⟨memU 364 (by decide +kernel), memU 367 (by decide +kernel), memU 76 (by decide +kernel), by decide +kernel⟩
theorem vM_X3_dropsFrom : zVi yX3_dropsFrom := ⟨memU 366 (by decide +kernel), memU 26 (by decide +kernel)⟩
theorem lM_X3_129 : zLkN RX3 129 yX0_loses cX0_loses 3 none 2 "KingDrops" := ⟨memU 391 (by decide +kernel), memU 394 (by decide +kernel), memU 79 (by decide +kernel), by decide +kernel⟩
theorem vM_X0_loses : zVi yX0_loses := ⟨memU 393 (by decide +kernel), memU 29 (by decide +kernel)⟩
theorem lM_X3_145 : zLkN RX3 145 yX0_stepsBack cX0_stepsBack 2 (some .boolean) 0 "KingDrops" := ⟨memU 415 (by decide +kernel), memU 418 (by decide +kernel), memU 79 (by decide +kernel), by decide +kernel⟩
theorem vM_X0_stepsBack : zVi yX0_stepsBack := ⟨memU 417 (by decide +kernel), memU 30 (by decide +kernel)⟩
theorem lM_X3_152 : zLk RX3 152 yX3_actsThatCan cX3_actsThatCan 3 (some .int) 0 := ⟨memU 423 (by decide +kernel), memU 426 (by decide +kernel), memU 76 (by decide +kernel), by decide +kernel⟩
theorem vM_X3_actsThatCan : zVi yX3_actsThatCan := ⟨memU 425 (by decide +kernel), memU 31 (by decide +kernel)⟩
theorem lM_X3_156 : zLk RX3 156 yX3_levelsTogether cX3_levelsTogether 3 (some .int) 0 := ⟨memU 427 (by decide +kernel), memU 430 (by decide +kernel), memU 76 (by decide +kernel), by decide +kernel⟩
theorem vM_X3_levelsTogether : zVi yX3_levelsTogether := ⟨memU 429 (by decide +kernel), memU 32 (by decide +kernel)⟩
theorem lM_X3_159 : zLk RX3 159 yX3_isNoughtOrOne cX3_isNoughtOrOne 1 (some .boolean) 1 := ⟨memU 435 (by decide +kernel), memU 437 (by decide +kernel), memU 76 (by decide +kernel), by decide +kernel⟩
theorem sM_X3_isNoughtOrOne : zSt yX3_isNoughtOrOne := memU 436 (by decide +kernel)
theorem lM_X3_165 : zLkN RX3 165 yX1_worthOf cX1_worthOf 4 (some .int) 1 "KingDrops" := ⟨memU 438 (by decide +kernel), memU 441 (by decide +kernel), memU 78 (by decide +kernel), by decide +kernel⟩
theorem vM_X1_worthOf : zVi yX1_worthOf := ⟨memU 440 (by decide +kernel), memU 33 (by decide +kernel)⟩
theorem lM_X3_168 : zLk RX3 168 yX3_isEnoughForAll cX3_isEnoughForAll 5 (some .boolean) 1 := ⟨memU 360 (by decide +kernel), memU 363 (by decide +kernel), memU 76 (by decide +kernel), by decide +kernel⟩
theorem vM_X3_isEnoughForAll : zVi yX3_isEnoughForAll := ⟨memU 362 (by decide +kernel), memU 25 (by decide +kernel)⟩
theorem lM_X3_171 : zLk RX3 171 yX3_fewestChanges cX3_fewestChanges 4 (some .int) 0 := ⟨memU 447 (by decide +kernel), memU 450 (by decide +kernel), memU 76 (by decide +kernel), by decide +kernel⟩
theorem vM_X3_fewestChanges : zVi yX3_fewestChanges := ⟨memU 449 (by decide +kernel), memU 34 (by decide +kernel)⟩
theorem lM_X3_174 : zLk RX3 174 yX3_firstChange cX3_firstChange 3 (some .int) 0 := ⟨memU 455 (by decide +kernel), memU 458 (by decide +kernel), memU 76 (by decide +kernel), by decide +kernel⟩
theorem vM_X3_firstChange : zVi yX3_firstChange := ⟨memU 457 (by decide +kernel), memU 36 (by decide +kernel)⟩
theorem lM_X3_177 : zLk RX3 177 yX3_differenceOf cX3_differenceOf 4 (some .int) 1 := ⟨memU 463 (by decide +kernel), memU 466 (by decide +kernel), memU 76 (by decide +kernel), by decide +kernel⟩
theorem vM_X3_differenceOf : zVi yX3_differenceOf := ⟨memU 465 (by decide +kernel), memU 37 (by decide +kernel)⟩
theorem lM_X3_180 : zLk RX3 180 yX3_inLeastTerms cX3_inLeastTerms 3 (some .int) 2 := ⟨memU 474 (by decide +kernel), memU 476 (by decide +kernel), memU 76 (by decide +kernel), by decide +kernel⟩
theorem sM_X3_inLeastTerms : zSt yX3_inLeastTerms := memU 475 (by decide +kernel)
theorem lM_X3_183 : zLk RX3 183 yJ6_bitCount_0f7a4 cJ6_bitCount_0f7a4 1 (some .int) 1 := ⟨memU 477 (by decide +kernel), memU 479 (by decide +kernel), memU 83 (by decide +kernel), by decide +kernel⟩
theorem sM_J6_bitCount_0f7a4 : zSt yJ6_bitCount_0f7a4 := memU 478 (by decide +kernel)
theorem lM_X3_188 : zLk RX3 188 yX3_waysThatFit cX3_waysThatFit 3 (some .int) 0 := ⟨memU 495 (by decide +kernel), memU 498 (by decide +kernel), memU 76 (by decide +kernel), by decide +kernel⟩
theorem vM_X3_waysThatFit : zVi yX3_waysThatFit := ⟨memU 497 (by decide +kernel), memU 38 (by decide +kernel)⟩
theorem lM_X3_191 : zLk RX3 191 yX3_sureLabel cX3_sureLabel 5 (some .int) 1 := ⟨memU 509 (by decide +kernel), memU 512 (by decide +kernel), memU 76 (by decide +kernel), by decide +kernel⟩
theorem vM_X3_sureLabel : zVi yX3_sureLabel := ⟨memU 511 (by decide +kernel), memU 41 (by decide +kernel)⟩
theorem lM_X3_195 : zLk RX3 195 yX3_markOfAct cX3_markOfAct 2 (some .int) 1 := ⟨memU 518 (by decide +kernel), memU 521 (by decide +kernel), memU 76 (by decide +kernel), by decide +kernel⟩
theorem vM_X3_markOfAct : zVi yX3_markOfAct := ⟨memU 520 (by decide +kernel), memU 42 (by decide +kernel)⟩
theorem lM_X3_198 : zLk RX3 198 yX3_markOfTreaty cX3_markOfTreaty 2 (some .int) 1 := ⟨memU 522 (by decide +kernel), memU 525 (by decide +kernel), memU 76 (by decide +kernel), by decide +kernel⟩
theorem vM_X3_markOfTreaty : zVi yX3_markOfTreaty := ⟨memU 524 (by decide +kernel), memU 43 (by decide +kernel)⟩
theorem lM_X3_201 : zLk RX3 201 yX3_markOfWar cX3_markOfWar 4 (some .int) 1 := ⟨memU 527 (by decide +kernel), memU 530 (by decide +kernel), memU 76 (by decide +kernel), by decide +kernel⟩
theorem vM_X3_markOfWar : zVi yX3_markOfWar := ⟨memU 529 (by decide +kernel), memU 44 (by decide +kernel)⟩
theorem lM_X3_204 : zLk RX3 204 yX3_markOfPardon cX3_markOfPardon 2 (some .int) 1 := ⟨memU 532 (by decide +kernel), memU 535 (by decide +kernel), memU 76 (by decide +kernel), by decide +kernel⟩
theorem vM_X3_markOfPardon : zVi yX3_markOfPardon := ⟨memU 534 (by decide +kernel), memU 45 (by decide +kernel)⟩
theorem lM_X3_207 : zLk RX3 207 yX3_markOfHunt cX3_markOfHunt 2 (some .int) 1 := ⟨memU 537 (by decide +kernel), memU 540 (by decide +kernel), memU 76 (by decide +kernel), by decide +kernel⟩
theorem vM_X3_markOfHunt : zVi yX3_markOfHunt := ⟨memU 539 (by decide +kernel), memU 46 (by decide +kernel)⟩
theorem lM_X3_210 : zLk RX3 210 yX3_markOfBreath cX3_markOfBreath 2 (some .int) 1 := ⟨memU 542 (by decide +kernel), memU 545 (by decide +kernel), memU 76 (by decide +kernel), by decide +kernel⟩
theorem vM_X3_markOfBreath : zVi yX3_markOfBreath := ⟨memU 544 (by decide +kernel), memU 47 (by decide +kernel)⟩
theorem lM_X3_213 : zLk RX3 213 yX3_imageOf cX3_imageOf 2 (some (.object "KingDrops$Present")) 1 := ⟨memU 551 (by decide +kernel), memU 554 (by decide +kernel), memU 76 (by decide +kernel), by decide +kernel⟩
theorem vM_X3_imageOf : zVi yX3_imageOf := ⟨memU 553 (by decide +kernel), memU 48 (by decide +kernel)⟩
theorem lM_X3_217 : zLkN RX3 217 yX0_becomes cX0_becomes 2 none 1 "KingDrops" := ⟨memU 555 (by decide +kernel), memU 558 (by decide +kernel), memU 79 (by decide +kernel), by decide +kernel⟩
theorem vM_X0_becomes : zVi yX0_becomes := ⟨memU 557 (by decide +kernel), memU 49 (by decide +kernel)⟩
theorem lM_X3_221 : zLk RX3 221 yX3_has cX3_has 2 (some .boolean) 2 := ⟨memU 349 (by decide +kernel), memU 351 (by decide +kernel), memU 76 (by decide +kernel), by decide +kernel⟩
theorem sM_X3_has : zSt yX3_has := memU 350 (by decide +kernel)
theorem lM_X3_230 : zLk RX3 230 yX3_ringOf cX3_ringOf 5 (some .int) 1 := ⟨memU 451 (by decide +kernel), memU 454 (by decide +kernel), memU 76 (by decide +kernel), by decide +kernel⟩
theorem vM_X3_ringOf : zVi yX3_ringOf := ⟨memU 453 (by decide +kernel), memU 35 (by decide +kernel)⟩
theorem lM_X3_239 : zLk RX3 239 yX3_agreesWithTold cX3_agreesWithTold 4 (some .boolean) 1 := ⟨memU 505 (by decide +kernel), memU 508 (by decide +kernel), memU 76 (by decide +kernel), by decide +kernel⟩
theorem vM_X3_agreesWithTold : zVi yX3_agreesWithTold := ⟨memU 507 (by decide +kernel), memU 40 (by decide +kernel)⟩
theorem lM_X3_242 : zLk RX3 242 yX3_waysWithOwn cX3_waysWithOwn 3 (some .int) 1 := ⟨memU 499 (by decide +kernel), memU 502 (by decide +kernel), memU 76 (by decide +kernel), by decide +kernel⟩
theorem vM_X3_waysWithOwn : zVi yX3_waysWithOwn := ⟨memU 501 (by decide +kernel), memU 39 (by decide +kernel)⟩
theorem lM_X1_36 : zLk RX1 36 yX1_dropsNeeded cX1_dropsNeeded 3 (some .int) 2 := ⟨memU 341 (by decide +kernel), memU 344 (by decide +kernel), memU 78 (by decide +kernel), by decide +kernel⟩
theorem lM_X1_40 : zLkN RX1 40 yX3_has cX3_has 2 (some .boolean) 2 "KingDrops" := ⟨memU 442 (by decide +kernel), memU 351 (by decide +kernel), memU 76 (by decide +kernel), by decide +kernel⟩
theorem lM_X2_31 : zLk RX2 31 yX2_advances cX2_advances 4 none 0 := ⟨memU 258 (by decide +kernel), memU 261 (by decide +kernel), memU 77 (by decide +kernel), by decide +kernel⟩
theorem vM_X2_advances : zVi yX2_advances := ⟨memU 260 (by decide +kernel), memU 3 (by decide +kernel)⟩
theorem lM_X2_34 : zLk RX2 34 yX2_readsItem cX2_readsItem 2 (some .boolean) 1 := ⟨memU 273 (by decide +kernel), memU 276 (by decide +kernel), memU 77 (by decide +kernel), by decide +kernel⟩
theorem vM_X2_readsItem : zVi yX2_readsItem := ⟨memU 275 (by decide +kernel), memU 6 (by decide +kernel)⟩
theorem lM_X2_43 : zLk RX2 43 yX2_readsDecanter cX2_readsDecanter 3 (some .boolean) 1 := ⟨memU 277 (by decide +kernel), memU 280 (by decide +kernel), memU 77 (by decide +kernel), by decide +kernel⟩
theorem vM_X2_readsDecanter : zVi yX2_readsDecanter := ⟨memU 279 (by decide +kernel), memU 7 (by decide +kernel)⟩
theorem lM_X2_49 : zLk RX2 49 yX2_readsAct cX2_readsAct 4 (some .boolean) 1 := ⟨memU 293 (by decide +kernel), memU 296 (by decide +kernel), memU 77 (by decide +kernel), by decide +kernel⟩
theorem vM_X2_readsAct : zVi yX2_readsAct := ⟨memU 295 (by decide +kernel), memU 11 (by decide +kernel)⟩
theorem lM_X2_52 : zLk RX2 52 yX2_readsExchange cX2_readsExchange 3 (some .boolean) 1 := ⟨memU 305 (by decide +kernel), memU 308 (by decide +kernel), memU 77 (by decide +kernel), by decide +kernel⟩
theorem vM_X2_readsExchange : zVi yX2_readsExchange := ⟨memU 307 (by decide +kernel), memU 14 (by decide +kernel)⟩
theorem lM_X2_55 : zLk RX2 55 yX2_readsNumber cX2_readsNumber 2 (some .boolean) 1 := ⟨memU 281 (by decide +kernel), memU 284 (by decide +kernel), memU 77 (by decide +kernel), by decide +kernel⟩
theorem vM_X2_readsNumber : zVi yX2_readsNumber := ⟨memU 283 (by decide +kernel), memU 8 (by decide +kernel)⟩
theorem lM_X2_59 : zLkN RX2 59 yX1_addsDecanter cX1_addsDecanter 3 none 2 "KingDrops" := ⟨memU 285 (by decide +kernel), memU 288 (by decide +kernel), memU 78 (by decide +kernel), by decide +kernel⟩
theorem vM_X1_addsDecanter : zVi yX1_addsDecanter := ⟨memU 287 (by decide +kernel), memU 9 (by decide +kernel)⟩
theorem lM_X2_63 : zLk RX2 63 yX2_readsStop cX2_readsStop 1 (some .boolean) 0 := ⟨memU 289 (by decide +kernel), memU 292 (by decide +kernel), memU 77 (by decide +kernel), by decide +kernel⟩
theorem vM_X2_readsStop : zVi yX2_readsStop := ⟨memU 291 (by decide +kernel), memU 10 (by decide +kernel)⟩
theorem lM_X2_67 : zLkN RX2 67 yX1_addsAct cX1_addsAct 3 none 1 "KingDrops" := ⟨memU 297 (by decide +kernel), memU 300 (by decide +kernel), memU 78 (by decide +kernel), by decide +kernel⟩
theorem vM_X1_addsAct : zVi yX1_addsAct := ⟨memU 299 (by decide +kernel), memU 12 (by decide +kernel)⟩
theorem lM_X2_71 : zLkN RX2 71 yX1_latestActNeeds cX1_latestActNeeds 3 none 2 "KingDrops" := ⟨memU 301 (by decide +kernel), memU 304 (by decide +kernel), memU 78 (by decide +kernel), by decide +kernel⟩
theorem vM_X1_latestActNeeds : zVi yX1_latestActNeeds := ⟨memU 303 (by decide +kernel), memU 13 (by decide +kernel)⟩
theorem lM_X2_74 : zLkN RX2 74 yX1_exchangesLabels cX1_exchangesLabels 4 none 2 "KingDrops" := ⟨memU 309 (by decide +kernel), memU 312 (by decide +kernel), memU 78 (by decide +kernel), by decide +kernel⟩
theorem vM_X1_exchangesLabels : zVi yX1_exchangesLabels := ⟨memU 311 (by decide +kernel), memU 15 (by decide +kernel)⟩
theorem lM_X2_77 : zLk RX2 77 yX2_byteAt cX2_byteAt 2 (some .int) 1 := ⟨memU 262 (by decide +kernel), memU 265 (by decide +kernel), memU 77 (by decide +kernel), by decide +kernel⟩
theorem vM_X2_byteAt : zVi yX2_byteAt := ⟨memU 264 (by decide +kernel), memU 4 (by decide +kernel)⟩
theorem lM_X2_81 : zLk RX2 81 yX2_sortOf cX2_sortOf 1 (some .int) 1 := ⟨memU 266 (by decide +kernel), memU 268 (by decide +kernel), memU 77 (by decide +kernel), by decide +kernel⟩
theorem sM_X2_sortOf : zSt yX2_sortOf := memU 267 (by decide +kernel)
theorem lM_X2_84 : zLk RX2 84 yX2_setsValue cX2_setsValue 4 none 3 := ⟨memU 269 (by decide +kernel), memU 272 (by decide +kernel), memU 77 (by decide +kernel), by decide +kernel⟩
theorem vM_X2_setsValue : zVi yX2_setsValue := ⟨memU 271 (by decide +kernel), memU 5 (by decide +kernel)⟩
theorem lM_L_13 : zLk RL 13 yX3_type cX3_type 2 (some .int) 1 := ⟨memU 234 (by decide +kernel), memU 237 (by decide +kernel), memU 76 (by decide +kernel), by decide +kernel⟩
theorem vM_X3_type : zVi yX3_type := ⟨memU 235 (by decide +kernel), memU 236 (by decide +kernel)⟩
theorem lM_L_17 : zLk RL 17 yX4_type cX4_type 2 (some .int) 1 := ⟨memU 650 (by decide +kernel), memU 653 (by decide +kernel), memU 80 (by decide +kernel), by decide +kernel⟩
theorem vM_X4_type : zVi yX4_type := ⟨memU 651 (by decide +kernel), memU 652 (by decide +kernel)⟩
theorem lM_L_18 : zLk RL 18 yX3_clear cX3_clear 2 (some .int) 0 := ⟨memU 242 (by decide +kernel), memU 245 (by decide +kernel), memU 76 (by decide +kernel), by decide +kernel⟩
theorem vM_X3_clear : zVi yX3_clear := ⟨memU 243 (by decide +kernel), memU 244 (by decide +kernel)⟩
theorem lM_L_22 : zLk RL 22 yX4_clear cX4_clear 2 (some .int) 0 := ⟨memU 657 (by decide +kernel), memU 660 (by decide +kernel), memU 80 (by decide +kernel), by decide +kernel⟩
theorem vM_X4_clear : zVi yX4_clear := ⟨memU 658 (by decide +kernel), memU 659 (by decide +kernel)⟩
theorem lM_L_23 : zLk RL 23 yX3_sideboard cX3_sideboard 3 (some .int) 0 := ⟨memU 246 (by decide +kernel), memU 249 (by decide +kernel), memU 76 (by decide +kernel), by decide +kernel⟩
theorem vM_X3_sideboard : zVi yX3_sideboard := ⟨memU 247 (by decide +kernel), memU 248 (by decide +kernel)⟩
theorem lM_L_26 : zLk RL 26 yX4_sideboard cX4_sideboard 3 (some .int) 0 := ⟨memU 661 (by decide +kernel), memU 664 (by decide +kernel), memU 80 (by decide +kernel), by decide +kernel⟩
theorem vM_X4_sideboard : zVi yX4_sideboard := ⟨memU 662 (by decide +kernel), memU 663 (by decide +kernel)⟩
theorem lM_L_27 : zLk RL 27 yX3_decanter cX3_decanter 3 (some .int) 2 := ⟨memU 317 (by decide +kernel), memU 320 (by decide +kernel), memU 76 (by decide +kernel), by decide +kernel⟩
theorem vM_X3_decanter : zVi yX3_decanter := ⟨memU 318 (by decide +kernel), memU 319 (by decide +kernel)⟩
theorem lM_L_31 : zLk RL 31 yX4_decanter cX4_decanter 3 (some .int) 2 := ⟨memU 693 (by decide +kernel), memU 696 (by decide +kernel), memU 80 (by decide +kernel), by decide +kernel⟩
theorem vM_X4_decanter : zVi yX4_decanter := ⟨memU 694 (by decide +kernel), memU 695 (by decide +kernel)⟩
theorem lM_L_32 : zLk RL 32 yX3_act cX3_act 3 (some .int) 2 := ⟨memU 329 (by decide +kernel), memU 332 (by decide +kernel), memU 76 (by decide +kernel), by decide +kernel⟩
theorem vM_X3_act : zVi yX3_act := ⟨memU 330 (by decide +kernel), memU 331 (by decide +kernel)⟩
theorem lM_L_35 : zLk RL 35 yX4_act cX4_act 3 (some .int) 2 := ⟨memU 705 (by decide +kernel), memU 708 (by decide +kernel), memU 80 (by decide +kernel), by decide +kernel⟩
theorem vM_X4_act : zVi yX4_act := ⟨memU 706 (by decide +kernel), memU 707 (by decide +kernel)⟩
theorem lM_L_36 : zLk RL 36 yX3_needs cX3_needs 3 (some .int) 2 := ⟨memU 372 (by decide +kernel), memU 375 (by decide +kernel), memU 76 (by decide +kernel), by decide +kernel⟩
theorem vM_X3_needs : zVi yX3_needs := ⟨memU 373 (by decide +kernel), memU 374 (by decide +kernel)⟩
theorem lM_L_39 : zLk RL 39 yX4_needs cX4_needs 3 (some .int) 2 := ⟨memU 741 (by decide +kernel), memU 744 (by decide +kernel), memU 80 (by decide +kernel), by decide +kernel⟩
theorem vM_X4_needs : zVi yX4_needs := ⟨memU 742 (by decide +kernel), memU 743 (by decide +kernel)⟩
theorem lM_L_40 : zLk RL 40 yX3_pours cX3_pours 4 (some .int) 1 := ⟨memU 376 (by decide +kernel), memU 379 (by decide +kernel), memU 76 (by decide +kernel), by decide +kernel⟩
theorem vM_X3_pours : zVi yX3_pours := ⟨memU 377 (by decide +kernel), memU 378 (by decide +kernel)⟩
theorem lM_L_43 : zLk RL 43 yX4_pours cX4_pours 5 (some .int) 1 := ⟨memU 745 (by decide +kernel), memU 748 (by decide +kernel), memU 80 (by decide +kernel), by decide +kernel⟩
theorem vM_X4_pours : zVi yX4_pours := ⟨memU 746 (by decide +kernel), memU 747 (by decide +kernel)⟩
theorem lM_L_44 : zLk RL 44 yX3_month cX3_month 2 (some .int) 0 := ⟨memU 399 (by decide +kernel), memU 402 (by decide +kernel), memU 76 (by decide +kernel), by decide +kernel⟩
theorem vM_X3_month : zVi yX3_month := ⟨memU 400 (by decide +kernel), memU 401 (by decide +kernel)⟩
theorem lM_L_47 : zLk RL 47 yX4_month cX4_month 2 (some .int) 0 := ⟨memU 757 (by decide +kernel), memU 760 (by decide +kernel), memU 80 (by decide +kernel), by decide +kernel⟩
theorem vM_X4_month : zVi yX4_month := ⟨memU 758 (by decide +kernel), memU 759 (by decide +kernel)⟩
theorem lM_L_48 : zLk RL 48 yX3_tops cX3_tops 3 (some .int) 2 := ⟨memU 403 (by decide +kernel), memU 406 (by decide +kernel), memU 76 (by decide +kernel), by decide +kernel⟩
theorem vM_X3_tops : zVi yX3_tops := ⟨memU 404 (by decide +kernel), memU 405 (by decide +kernel)⟩
theorem lM_L_51 : zLk RL 51 yX4_tops cX4_tops 3 (some .int) 2 := ⟨memU 761 (by decide +kernel), memU 764 (by decide +kernel), memU 80 (by decide +kernel), by decide +kernel⟩
theorem vM_X4_tops : zVi yX4_tops := ⟨memU 762 (by decide +kernel), memU 763 (by decide +kernel)⟩
theorem lM_L_52 : zLk RL 52 yX3_labels cX3_labels 6 (some .int) 2 := ⟨memU 407 (by decide +kernel), memU 410 (by decide +kernel), memU 76 (by decide +kernel), by decide +kernel⟩
theorem vM_X3_labels : zVi yX3_labels := ⟨memU 408 (by decide +kernel), memU 409 (by decide +kernel)⟩
theorem lM_L_55 : zLk RL 55 yX4_labels cX4_labels 4 (some .int) 2 := ⟨memU 765 (by decide +kernel), memU 768 (by decide +kernel), memU 80 (by decide +kernel), by decide +kernel⟩
theorem vM_X4_labels : zVi yX4_labels := ⟨memU 766 (by decide +kernel), memU 767 (by decide +kernel)⟩
theorem lM_L_56 : zLk RL 56 yX3_undo cX3_undo 1 (some .int) 0 := ⟨memU 411 (by decide +kernel), memU 414 (by decide +kernel), memU 76 (by decide +kernel), by decide +kernel⟩
theorem vM_X3_undo : zVi yX3_undo := ⟨memU 412 (by decide +kernel), memU 413 (by decide +kernel)⟩
theorem lM_L_59 : zLk RL 59 yX4_undo cX4_undo 2 (some .int) 0 := ⟨memU 773 (by decide +kernel), memU 776 (by decide +kernel), memU 80 (by decide +kernel), by decide +kernel⟩
theorem vM_X4_undo : zVi yX4_undo := ⟨memU 774 (by decide +kernel), memU 775 (by decide +kernel)⟩
theorem lM_L_60 : zLk RL 60 yX3_now cX3_now 2 (some .int) 1 := ⟨memU 419 (by decide +kernel), memU 422 (by decide +kernel), memU 76 (by decide +kernel), by decide +kernel⟩
theorem vM_X3_now : zVi yX3_now := ⟨memU 420 (by decide +kernel), memU 421 (by decide +kernel)⟩
theorem lM_L_63 : zLk RL 63 yX4_now cX4_now 4 (some .int) 1 := ⟨memU 777 (by decide +kernel), memU 780 (by decide +kernel), memU 80 (by decide +kernel), by decide +kernel⟩
theorem vM_X4_now : zVi yX4_now := ⟨memU 778 (by decide +kernel), memU 779 (by decide +kernel)⟩
theorem lM_L_64 : zLk RL 64 yX3_tray cX3_tray 4 (some .int) 1 := ⟨memU 431 (by decide +kernel), memU 434 (by decide +kernel), memU 76 (by decide +kernel), by decide +kernel⟩
theorem vM_X3_tray : zVi yX3_tray := ⟨memU 432 (by decide +kernel), memU 433 (by decide +kernel)⟩
theorem lM_L_67 : zLk RL 67 yX4_tray cX4_tray 6 (some .int) 1 := ⟨memU 781 (by decide +kernel), memU 784 (by decide +kernel), memU 80 (by decide +kernel), by decide +kernel⟩
theorem vM_X4_tray : zVi yX4_tray := ⟨memU 782 (by decide +kernel), memU 783 (by decide +kernel)⟩
theorem lM_L_68 : zLk RL 68 yX3_right cX3_right 2 (some .int) 1 := ⟨memU 443 (by decide +kernel), memU 446 (by decide +kernel), memU 76 (by decide +kernel), by decide +kernel⟩
theorem vM_X3_right : zVi yX3_right := ⟨memU 444 (by decide +kernel), memU 445 (by decide +kernel)⟩
theorem lM_L_71 : zLk RL 71 yX4_right cX4_right 7 (some .int) 1 := ⟨memU 789 (by decide +kernel), memU 792 (by decide +kernel), memU 80 (by decide +kernel), by decide +kernel⟩
theorem vM_X4_right : zVi yX4_right := ⟨memU 790 (by decide +kernel), memU 791 (by decide +kernel)⟩
theorem lM_L_72 : zLk RL 72 yX3_share cX3_share 4 (some .int) 1 := ⟨memU 459 (by decide +kernel), memU 462 (by decide +kernel), memU 76 (by decide +kernel), by decide +kernel⟩
theorem vM_X3_share : zVi yX3_share := ⟨memU 460 (by decide +kernel), memU 461 (by decide +kernel)⟩
theorem lM_L_75 : zLk RL 75 yX4_share cX4_share 7 (some .int) 1 := ⟨memU 793 (by decide +kernel), memU 796 (by decide +kernel), memU 80 (by decide +kernel), by decide +kernel⟩
theorem vM_X4_share : zVi yX4_share := ⟨memU 794 (by decide +kernel), memU 795 (by decide +kernel)⟩
theorem lM_L_76 : zLk RL 76 yX3_odds cX3_odds 7 (some .int) 3 := ⟨memU 470 (by decide +kernel), memU 473 (by decide +kernel), memU 76 (by decide +kernel), by decide +kernel⟩
theorem vM_X3_odds : zVi yX3_odds := ⟨memU 471 (by decide +kernel), memU 472 (by decide +kernel)⟩
theorem lM_L_80 : zLk RL 80 yX4_odds cX4_odds 9 (some .int) 3 := ⟨memU 797 (by decide +kernel), memU 800 (by decide +kernel), memU 80 (by decide +kernel), by decide +kernel⟩
theorem vM_X4_odds : zVi yX4_odds := ⟨memU 798 (by decide +kernel), memU 799 (by decide +kernel)⟩
theorem lM_L_81 : zLk RL 81 yX3_tells cX3_tells 3 (some .int) 2 := ⟨memU 483 (by decide +kernel), memU 486 (by decide +kernel), memU 76 (by decide +kernel), by decide +kernel⟩
theorem vM_X3_tells : zVi yX3_tells := ⟨memU 484 (by decide +kernel), memU 485 (by decide +kernel)⟩
theorem lM_L_84 : zLk RL 84 yX4_tells cX4_tells 3 (some .int) 2 := ⟨memU 801 (by decide +kernel), memU 804 (by decide +kernel), memU 80 (by decide +kernel), by decide +kernel⟩
theorem vM_X4_tells : zVi yX4_tells := ⟨memU 802 (by decide +kernel), memU 803 (by decide +kernel)⟩
theorem lM_L_85 : zLk RL 85 yX3_forget cX3_forget 2 (some .int) 0 := ⟨memU 487 (by decide +kernel), memU 490 (by decide +kernel), memU 76 (by decide +kernel), by decide +kernel⟩
theorem vM_X3_forget : zVi yX3_forget := ⟨memU 488 (by decide +kernel), memU 489 (by decide +kernel)⟩
theorem lM_L_88 : zLk RL 88 yX4_forget cX4_forget 2 (some .int) 0 := ⟨memU 805 (by decide +kernel), memU 808 (by decide +kernel), memU 80 (by decide +kernel), by decide +kernel⟩
theorem vM_X4_forget : zVi yX4_forget := ⟨memU 806 (by decide +kernel), memU 807 (by decide +kernel)⟩
theorem lM_L_89 : zLk RL 89 yX3_fits cX3_fits 2 (some .int) 1 := ⟨memU 491 (by decide +kernel), memU 494 (by decide +kernel), memU 76 (by decide +kernel), by decide +kernel⟩
theorem vM_X3_fits : zVi yX3_fits := ⟨memU 492 (by decide +kernel), memU 493 (by decide +kernel)⟩
theorem lM_L_92 : zLk RL 92 yX4_fits cX4_fits 7 (some .int) 1 := ⟨memU 809 (by decide +kernel), memU 812 (by decide +kernel), memU 80 (by decide +kernel), by decide +kernel⟩
theorem vM_X4_fits : zVi yX4_fits := ⟨memU 810 (by decide +kernel), memU 811 (by decide +kernel)⟩
theorem lM_L_93 : zLk RL 93 yX3_mark cX3_mark 3 (some .int) 2 := ⟨memU 513 (by decide +kernel), memU 516 (by decide +kernel), memU 76 (by decide +kernel), by decide +kernel⟩
theorem vM_X3_mark : zVi yX3_mark := ⟨memU 514 (by decide +kernel), memU 515 (by decide +kernel)⟩
theorem lM_L_96 : zLk RL 96 yX4_mark cX4_mark 6 (some .int) 2 := ⟨memU 821 (by decide +kernel), memU 824 (by decide +kernel), memU 80 (by decide +kernel), by decide +kernel⟩
theorem vM_X4_mark : zVi yX4_mark := ⟨memU 822 (by decide +kernel), memU 823 (by decide +kernel)⟩
theorem lM_L_97 : zLk RL 97 yX3_keep cX3_keep 2 (some .int) 1 := ⟨memU 547 (by decide +kernel), memU 550 (by decide +kernel), memU 76 (by decide +kernel), by decide +kernel⟩
theorem vM_X3_keep : zVi yX3_keep := ⟨memU 548 (by decide +kernel), memU 549 (by decide +kernel)⟩
theorem lM_L_100 : zLk RL 100 yX4_keep cX4_keep 3 (some .int) 1 := ⟨memU 834 (by decide +kernel), memU 837 (by decide +kernel), memU 80 (by decide +kernel), by decide +kernel⟩
theorem vM_X4_keep : zVi yX4_keep := ⟨memU 835 (by decide +kernel), memU 836 (by decide +kernel)⟩
theorem lM_L_101 : zLk RL 101 yX3_back cX3_back 2 (some .int) 1 := ⟨memU 559 (by decide +kernel), memU 562 (by decide +kernel), memU 76 (by decide +kernel), by decide +kernel⟩
theorem vM_X3_back : zVi yX3_back := ⟨memU 560 (by decide +kernel), memU 561 (by decide +kernel)⟩
theorem lM_L_104 : zLk RL 104 yX4_back cX4_back 3 (some .int) 1 := ⟨memU 838 (by decide +kernel), memU 841 (by decide +kernel), memU 80 (by decide +kernel), by decide +kernel⟩
theorem vM_X4_back : zVi yX4_back := ⟨memU 839 (by decide +kernel), memU 840 (by decide +kernel)⟩
theorem lM_L_105 : zLk RL 105 yX3_count cX3_count 2 (some .int) 1 := ⟨memU 563 (by decide +kernel), memU 566 (by decide +kernel), memU 76 (by decide +kernel), by decide +kernel⟩
theorem vM_X3_count : zVi yX3_count := ⟨memU 564 (by decide +kernel), memU 565 (by decide +kernel)⟩
theorem lM_L_108 : zLk RL 108 yX4_count cX4_count 2 (some .int) 1 := ⟨memU 842 (by decide +kernel), memU 845 (by decide +kernel), memU 80 (by decide +kernel), by decide +kernel⟩
theorem vM_X4_count : zVi yX4_count := ⟨memU 843 (by decide +kernel), memU 844 (by decide +kernel)⟩
theorem lM_L_109 : zLk RL 109 yX3_trace cX3_trace 1 (some .long) 0 := ⟨memU 567 (by decide +kernel), memU 570 (by decide +kernel), memU 76 (by decide +kernel), by decide +kernel⟩
theorem vM_X3_trace : zVi yX3_trace := ⟨memU 568 (by decide +kernel), memU 569 (by decide +kernel)⟩
theorem lM_L_113 : zLk RL 113 yX4_trace cX4_trace 1 (some .long) 0 := ⟨memU 846 (by decide +kernel), memU 849 (by decide +kernel), memU 80 (by decide +kernel), by decide +kernel⟩
theorem vM_X4_trace : zVi yX4_trace := ⟨memU 847 (by decide +kernel), memU 848 (by decide +kernel)⟩
theorem lM_X4_51 : zLk RX4 51 yX4_plain cX4_plain 1 none 0 := ⟨memU 577 (by decide +kernel), memU 580 (by decide +kernel), memU 80 (by decide +kernel), by decide +kernel⟩
theorem vM_X4_plain : zVi yX4_plain := ⟨memU 579 (by decide +kernel), memU 50 (by decide +kernel)⟩
theorem lM_X4_54 : zLk RX4 54 yX4_takeDraft cX4_takeDraft 3 none 0 := ⟨memU 581 (by decide +kernel), memU 584 (by decide +kernel), memU 80 (by decide +kernel), by decide +kernel⟩
theorem vM_X4_takeDraft : zVi yX4_takeDraft := ⟨memU 583 (by decide +kernel), memU 51 (by decide +kernel)⟩
theorem lM_X4_57 : zLk RX4 57 yX4_in cX4_in 3 (some .boolean) 3 := ⟨memU 654 (by decide +kernel), memU 656 (by decide +kernel), memU 80 (by decide +kernel), by decide +kernel⟩
theorem sM_X4_in : zSt yX4_in := memU 655 (by decide +kernel)
theorem lM_X4_68 : zLk RX4 68 yX4_here cX4_here 1 (some .int) 0 := ⟨memU 669 (by decide +kernel), memU 672 (by decide +kernel), memU 80 (by decide +kernel), by decide +kernel⟩
theorem vM_X4_here : zVi yX4_here := ⟨memU 671 (by decide +kernel), memU 53 (by decide +kernel)⟩
theorem lM_X4_84 : zLk RX4 84 yX4_step cX4_step 2 none 0 := ⟨memU 665 (by decide +kernel), memU 668 (by decide +kernel), memU 80 (by decide +kernel), by decide +kernel⟩
theorem vM_X4_step : zVi yX4_step := ⟨memU 667 (by decide +kernel), memU 52 (by decide +kernel)⟩
theorem lM_X4_87 : zLk RX4 87 yX4_due cX4_due 3 (some .int) 1 := ⟨memU 677 (by decide +kernel), memU 680 (by decide +kernel), memU 80 (by decide +kernel), by decide +kernel⟩
theorem vM_X4_due : zVi yX4_due := ⟨memU 679 (by decide +kernel), memU 55 (by decide +kernel)⟩
theorem lM_X4_91 : zLk RX4 91 yX4_number cX4_number 3 (some .int) 2 := ⟨memU 685 (by decide +kernel), memU 688 (by decide +kernel), memU 80 (by decide +kernel), by decide +kernel⟩
theorem vM_X4_number : zVi yX4_number := ⟨memU 687 (by decide +kernel), memU 57 (by decide +kernel)⟩
theorem lM_X4_95 : zLk RX4 95 yX4_readAct cX4_readAct 5 none 0 := ⟨memU 689 (by decide +kernel), memU 692 (by decide +kernel), memU 80 (by decide +kernel), by decide +kernel⟩
theorem vM_X4_readAct : zVi yX4_readAct := ⟨memU 691 (by decide +kernel), memU 58 (by decide +kernel)⟩
theorem lM_X4_101 : zLk RX4 101 yX4_mayBe cX4_mayBe 2 (some .boolean) 1 := ⟨memU 673 (by decide +kernel), memU 676 (by decide +kernel), memU 80 (by decide +kernel), by decide +kernel⟩
theorem vM_X4_mayBe : zVi yX4_mayBe := ⟨memU 675 (by decide +kernel), memU 54 (by decide +kernel)⟩
theorem lM_X4_105 : zLk RX4 105 yX4_readRow cX4_readRow 5 none 1 := ⟨memU 681 (by decide +kernel), memU 684 (by decide +kernel), memU 80 (by decide +kernel), by decide +kernel⟩
theorem vM_X4_readRow : zVi yX4_readRow := ⟨memU 683 (by decide +kernel), memU 56 (by decide +kernel)⟩
theorem lM_X4_109 : zLk RX4 109 yX4_with cX4_with 3 (some .int) 1 := ⟨memU 733 (by decide +kernel), memU 736 (by decide +kernel), memU 80 (by decide +kernel), by decide +kernel⟩
theorem vM_X4_with : zVi yX4_with := ⟨memU 735 (by decide +kernel), memU 67 (by decide +kernel)⟩
theorem lM_X4_113 : zLk RX4 113 yX4_levelIn cX4_levelIn 4 (some .int) 2 := ⟨memU 737 (by decide +kernel), memU 740 (by decide +kernel), memU 80 (by decide +kernel), by decide +kernel⟩
theorem vM_X4_levelIn : zVi yX4_levelIn := ⟨memU 739 (by decide +kernel), memU 68 (by decide +kernel)⟩
theorem lM_X4_116 : zLk RX4 116 yX4_needOf cX4_needOf 3 (some .int) 2 := ⟨memU 717 (by decide +kernel), memU 720 (by decide +kernel), memU 80 (by decide +kernel), by decide +kernel⟩
theorem vM_X4_needOf : zVi yX4_needOf := ⟨memU 719 (by decide +kernel), memU 63 (by decide +kernel)⟩
theorem lM_X4_119 : zLk RX4 119 yX4_isDone cX4_isDone 2 (some .boolean) 1 := ⟨memU 721 (by decide +kernel), memU 724 (by decide +kernel), memU 80 (by decide +kernel), by decide +kernel⟩
theorem vM_X4_isDone : zVi yX4_isDone := ⟨memU 723 (by decide +kernel), memU 64 (by decide +kernel)⟩
theorem lM_X4_122 : zLk RX4 122 yX4_can cX4_can 5 (some .boolean) 2 := ⟨memU 729 (by decide +kernel), memU 732 (by decide +kernel), memU 80 (by decide +kernel), by decide +kernel⟩
theorem vM_X4_can : zVi yX4_can := ⟨memU 731 (by decide +kernel), memU 66 (by decide +kernel)⟩
theorem lM_X4_126 : zLk RX4 126 yX4_isDecanter cX4_isDecanter 2 (some .boolean) 1 := ⟨memU 697 (by decide +kernel), memU 700 (by decide +kernel), memU 80 (by decide +kernel), by decide +kernel⟩
theorem vM_X4_isDecanter : zVi yX4_isDecanter := ⟨memU 699 (by decide +kernel), memU 59 (by decide +kernel)⟩
theorem lM_X4_129 : zLk RX4 129 yX4_span cX4_span 2 (some .int) 1 := ⟨memU 701 (by decide +kernel), memU 704 (by decide +kernel), memU 80 (by decide +kernel), by decide +kernel⟩
theorem vM_X4_span : zVi yX4_span := ⟨memU 703 (by decide +kernel), memU 60 (by decide +kernel)⟩
theorem lM_X4_132 : zLk RX4 132 yX4_isAct cX4_isAct 2 (some .boolean) 1 := ⟨memU 709 (by decide +kernel), memU 712 (by decide +kernel), memU 80 (by decide +kernel), by decide +kernel⟩
theorem vM_X4_isAct : zVi yX4_isAct := ⟨memU 711 (by decide +kernel), memU 61 (by decide +kernel)⟩
theorem lM_X4_135 : zLk RX4 135 yX4_qualities cX4_qualities 4 (some .int) 1 := ⟨memU 713 (by decide +kernel), memU 716 (by decide +kernel), memU 80 (by decide +kernel), by decide +kernel⟩
theorem vM_X4_qualities : zVi yX4_qualities := ⟨memU 715 (by decide +kernel), memU 62 (by decide +kernel)⟩
theorem lM_X4_138 : zLk RX4 138 yX4_lastOf cX4_lastOf 3 (some .int) 1 := ⟨memU 725 (by decide +kernel), memU 728 (by decide +kernel), memU 80 (by decide +kernel), by decide +kernel⟩
theorem vM_X4_lastOf : zVi yX4_lastOf := ⟨memU 727 (by decide +kernel), memU 65 (by decide +kernel)⟩
theorem lM_X4_141 : zLk RX4 141 yX4_know cX4_know 2 none 0 := ⟨memU 749 (by decide +kernel), memU 752 (by decide +kernel), memU 80 (by decide +kernel), by decide +kernel⟩
theorem vM_X4_know : zVi yX4_know := ⟨memU 751 (by decide +kernel), memU 69 (by decide +kernel)⟩
theorem lM_X4_144 : zLk RX4 144 yX4_settle cX4_settle 2 none 0 := ⟨memU 753 (by decide +kernel), memU 756 (by decide +kernel), memU 80 (by decide +kernel), by decide +kernel⟩
theorem vM_X4_settle : zVi yX4_settle := ⟨memU 755 (by decide +kernel), memU 70 (by decide +kernel)⟩
theorem lM_X4_147 : zLk RX4 147 yX4_rightOnes cX4_rightOnes 3 (some .int) 0 := ⟨memU 769 (by decide +kernel), memU 772 (by decide +kernel), memU 80 (by decide +kernel), by decide +kernel⟩
theorem vM_X4_rightOnes : zVi yX4_rightOnes := ⟨memU 771 (by decide +kernel), memU 71 (by decide +kernel)⟩
theorem lM_X4_150 : zLk RX4 150 yX4_worthOf cX4_worthOf 6 (some .int) 1 := ⟨memU 785 (by decide +kernel), memU 788 (by decide +kernel), memU 80 (by decide +kernel), by decide +kernel⟩
theorem vM_X4_worthOf : zVi yX4_worthOf := ⟨memU 787 (by decide +kernel), memU 72 (by decide +kernel)⟩
theorem lM_X4_153 : zLk RX4 153 yX4_isAsTold cX4_isAsTold 5 (some .boolean) 0 := ⟨memU 813 (by decide +kernel), memU 816 (by decide +kernel), memU 80 (by decide +kernel), by decide +kernel⟩
theorem vM_X4_isAsTold : zVi yX4_isAsTold := ⟨memU 815 (by decide +kernel), memU 73 (by decide +kernel)⟩
theorem lM_X4_157 : zLk RX4 157 yX4_goOn cX4_goOn 6 (some .boolean) 0 := ⟨memU 817 (by decide +kernel), memU 820 (by decide +kernel), memU 80 (by decide +kernel), by decide +kernel⟩
theorem vM_X4_goOn : zVi yX4_goOn := ⟨memU 819 (by decide +kernel), memU 74 (by decide +kernel)⟩
theorem lM_X4_161 : zLk RX4 161 yX4_manyOf cX4_manyOf 3 (some .int) 1 := ⟨memU 826 (by decide +kernel), memU 828 (by decide +kernel), memU 80 (by decide +kernel), by decide +kernel⟩
theorem sM_X4_manyOf : zSt yX4_manyOf := memU 827 (by decide +kernel)
theorem lK_X3_194 : Cond.constant RX3 194 (-1000000) ∈ wsU := memU 517 (by decide +kernel)
theorem lK_X3_245 : Cond.constantLong RX3 245 (10) ∈ wsU := memU 526 (by decide +kernel)
theorem lK_X3_247 : Cond.constantLong RX3 247 (100) ∈ wsU := memU 531 (by decide +kernel)
theorem lK_X3_249 : Cond.constantLong RX3 249 (1000) ∈ wsU := memU 536 (by decide +kernel)
theorem lK_X3_251 : Cond.constantLong RX3 251 (10000) ∈ wsU := memU 541 (by decide +kernel)
theorem lK_X3_253 : Cond.constantLong RX3 253 (100000) ∈ wsU := memU 546 (by decide +kernel)
theorem lK_X4_160 : Cond.constant RX4 160 (-1000000) ∈ wsU := memU 825 (by decide +kernel)
theorem lK_X4_168 : Cond.constantLong RX4 168 (11) ∈ wsU := memU 829 (by decide +kernel)
theorem lK_X4_170 : Cond.constantLong RX4 170 (101) ∈ wsU := memU 830 (by decide +kernel)
theorem lK_X4_172 : Cond.constantLong RX4 172 (1011) ∈ wsU := memU 831 (by decide +kernel)
theorem lK_X4_174 : Cond.constantLong RX4 174 (10101) ∈ wsU := memU 832 (by decide +kernel)
theorem lK_X4_176 : Cond.constantLong RX4 176 (100001) ∈ wsU := memU 833 (by decide +kernel)
theorem lK_J6_265 : Cond.constant RJ6 265 (1431655765) ∈ wsU := memU 480 (by decide +kernel)
theorem lK_J6_266 : Cond.constant RJ6 266 (858993459) ∈ wsU := memU 481 (by decide +kernel)
theorem lK_J6_267 : Cond.constant RJ6 267 (252645135) ∈ wsU := memU 482 (by decide +kernel)
theorem lX_X3_225 : Cond.methodLink RX3 225 Lib.Math.min.name ∈ wsU := memU 369 (by decide +kernel)
theorem sX_min : Cond.static Lib.Math.min.name ∈ wsU := memU 370 (by decide +kernel)
theorem kX_min : Cond.code Lib.Math.min.name Lib.Math.min.code 2 (some .int) ∈ wsU := memU 371 (by decide +kernel)
theorem lX_X3_233 : Cond.methodLink RX3 233 Lib.Math.abs.name ∈ wsU := memU 467 (by decide +kernel)
theorem sX_abs : Cond.static Lib.Math.abs.name ∈ wsU := memU 468 (by decide +kernel)
theorem kX_abs : Cond.code Lib.Math.abs.name Lib.Math.abs.code 1 (some .int) ∈ wsU := memU 469 (by decide +kernel)
theorem lX_X0_44 : Cond.methodLink RX0 44 Lib.Math.max.name ∈ wsU := memU 395 (by decide +kernel)
theorem sX_max : Cond.static Lib.Math.max.name ∈ wsU := memU 396 (by decide +kernel)
theorem kX_max : Cond.code Lib.Math.max.name Lib.Math.max.code 2 (some .int) ∈ wsU := memU 397 (by decide +kernel)
theorem lX_X0_50 : Cond.methodLink RX0 50 Lib.Math.min.name ∈ wsU := memU 398 (by decide +kernel)
theorem iX_Math : Cond.initialized "java/lang/Math" ∈ wsU := memU 81 (by decide +kernel)
theorem iX_System : Cond.initialized "java/lang/System" ∈ wsU := memU 82 (by decide +kernel)
theorem lX_X0_53 : Cond.methodLink RX0 53 arraycopyName ∈ wsU := memU 384 (by decide +kernel)
theorem sX_copy : Cond.static arraycopyName ∈ wsU := memU 385 (by decide +kernel)
theorem nX_copy : Cond.native arraycopyName ∈ wsU := memU 386 (by decide +kernel)
end
section
/-! pictures of the objects; rows for two bits, for copies -/
abbrev oP (p lvA teA laA : Nat) (mo dn ea bn : Nat) (stA k : Nat) : Nat × va_E := (p, .inr (0, [.ref lvA, .ref teA, .ref laA, .int (nI mo), .int (nI dn), .int (nI ea), .int (nI bn), .ref stA, .int (nI k)]))
abbrev oB (b n lvA aiA laA ac woA drA : Nat) : Nat × va_E := (b, .inr (1, [.int (nI n), .ref lvA, .ref aiA, .ref laA, .int (nI ac), .ref woA, .ref drA]))
abbrev oT (t byA len pl tk ta : Nat) (va : Int32) : Nat × va_E := (t, .inr (2, [.ref byA, .int (nI len), .int (nI pl), .int (nI tk), .int (nI ta), .int va]))
abbrev oK (q t b b2 p i1 i2 kept tn tw td : Nat) (tr : Int64) : Nat × va_E := (q, .inr (3, [.ref t, .ref b, .ref b2, .ref p, .ref i1, .ref i2, .int (nI kept), .ref tn, .ref tw, .int (nI td), .long tr]))
abbrev oM (q : Nat) (tr : Int64) (tx ty dec dlv dla air acts wo nd at9 sta sor val : Nat) (fau : Int32) (now kep tac twe td hg : Nat) : Nat × va_E := (q, .inr (4, [.long tr, .ref tx, .int (nI ty), .ref dec, .ref dlv, .ref dla, .ref air, .ref acts, .ref wo, .ref nd, .int (nI at9), .int (nI sta), .int (nI sor), .int (nI val), .int fau, .ref now, .ref kep, .ref tac, .ref twe, .int (nI td), .ref hg]))
theorem row5 {X : va_W} {cI : ClassId} {r : Nat → Nat} {dr : Nat → Nat → Nat} {i : Nat} (h : i < 5) : (X ++ [aI cI (r 0) 6 (dr 0), aI cI (r 1) 6 (dr 1), aI cI (r 2) 6 (dr 2), aI cI (r 3) 6 (dr 3), aI cI (r 4) 6 (dr 4)])[X.length + i]? = some (aI cI (r i) 6 (dr i)) := by
  rw [List.getElem?_append_right (Nat.le_add_right _ _), Nat.add_sub_cancel_left]
  match i, h with
  | 0, _ => rfl
  | 1, _ => rfl
  | 2, _ => rfl
  | 3, _ => rfl
  | 4, _ => rfl
theorem z_bit (b i : Nat) : nI (b / 2 ^ i &&& 1) = nI (b.testBit i).toNat := by
  congr 1
  rw [Nat.and_one_is_mod, Nat.toNat_testBit]
theorem z_bt1 {b : Bool} : b.toNat = 1 ↔ b = true := by cases b <;> decide
theorem z_bt0 {b : Bool} : b.toNat = 0 ↔ b = false := by cases b <;> decide
section ZST
variable {p : Program} {l : Launch} {e : Env} {R : Room} {s : State} {m : MethodId} {args : Array Value} {below : List Frame} {meth : Method} {c : Code} {H : Heap} {locs : List Loc} {cells slots : Nat} {Q : State → Prop}
variable {cc : ByteArray} {pc nL : Nat} {ls : Array Slot} {rest : List Value} {own : String} {D : va_G} {cI cZ cB cR : ClassId} {A : Nat → Prop} {ws : va_W} {H0 : Heap} {a : Nat}
theorem zbb_eq (hC : CallFix p m c cc nL s args wsU own) {x y : Bool} {off : Int} {tgt : Nat} (hdg : decode cc pc = .ok (.if_icmp .eq off, 3)) (ht : (pc : Int) + off = (tgt : Int)) (kt : x = y → W p l e R s m args below meth c H locs cells slots Q (F0 m tgt ls rest)) (kf : x ≠ y → W p l e R s m args below meth c H locs cells slots Q (F0 m (pc + 3) ls rest)) : W p l e R s m args below meth c H locs cells slots Q (F0 m pc ls (.int (bI y) :: .int (bI x) :: rest)) := lv_icmp_eq hC.1 hC.2.1 hdg ht (fun h => kt (by cases x <;> cases y <;> first | rfl | exact absurd h (by decide))) (fun h => kf (fun q => h (by rw [q])))
theorem zbb_ne (hC : CallFix p m c cc nL s args wsU own) {x y : Bool} {off : Int} {tgt : Nat} (hdg : decode cc pc = .ok (.if_icmp .ne off, 3)) (ht : (pc : Int) + off = (tgt : Int)) (kt : x ≠ y → W p l e R s m args below meth c H locs cells slots Q (F0 m tgt ls rest)) (kf : x = y → W p l e R s m args below meth c H locs cells slots Q (F0 m (pc + 3) ls rest)) : W p l e R s m args below meth c H locs cells slots Q (F0 m pc ls (.int (bI y) :: .int (bI x) :: rest)) := lv_icmp_ne hC.1 hC.2.1 hdg ht (fun h => kt (fun q => h (by rw [q]))) (fun h => kf (by cases x <;> cases y <;> first | rfl | exact absurd h (by decide) | exact absurd (by decide) h))
theorem z_copy (hC : CallFix p m c cc nL s args wsU own) (hK : KK D cI cZ cB cR s) (hP : va_P D vwCl ws H) (hD : va_D A ws) (hS : va_S A H0 H locs) (q0 q1 : Nat) {a0 n0 n1 : Nat} {f g : Nat → Nat} (ha0 : ws[q0]? = some (aI cI a0 n0 f)) (ha1 : ws[q1]? = some (aI cI a n1 g)) {sp dp n : Nat} (h4 : sp + n ≤ n0) (h5 : dp + n ≤ n1) (hb0 : n0 < 2 ^ 31) (hb1 : n1 < 2 ^ 31) (hframes : 1 ≤ R.frames) (hlocals : (rest.map fun v => v.category).sum + (nativeFrameWords "java/lang/System" "arraycopy" 5 + 11) ≤ R.locals) {index : Nat} (hlk : Cond.methodLink own index arraycopyName ∈ wsU) (hsz : ls.size = nL) (hdg : decode cc pc = .ok (.invokestatic index, 3))
    (kk : ∀ (H1 : Heap) (locs1 : List Loc), va_P D vwCl (ws.set q1 (aI cI a n1 (cpyN f g sp dp n))) H1 → va_D A (ws.set q1 (aI cI a n1 (cpyN f g sp dp n))) → va_S A H0 H1 locs1 → W p l e R s m args below meth c H1 locs1 cells slots Q (F0 m (pc + 3) ls rest)) : W p l e R s m args below meth c H locs cells slots Q (F0 m pc ls (.int (nI n) :: .int (nI dp) :: .ref a :: .int (nI sp) :: .ref a0 :: rest)) := by
  obtain ⟨hx, hb, hml, hown, hts⟩ := hC
  have e1 : (nI sp).toNatClampNeg = sp := nI_clamp (by omega)
  have e2 : (nI dp).toNatClampNeg = dp := nI_clamp (by omega)
  have e3 : (nI n).toNatClampNeg = n := nI_clamp (by omega)
  refine va_copyi hx hb (hml.trans hsz.symm) hown (hts _ hlk) (hts _ nX_copy) (hts _ sX_copy) (hts _ iX_System) hK hP hD hS q0 q1 0 0 ha0 ha1 rfl rfl rfl (nI_pos (by omega)) (nI_pos (by omega)) (nI_pos (by omega)) (by rw [e1, e3]; exact h4) (by rw [e2, e3]; exact h5) (fun _ _ => rfl) hframes hlocals hdg ?_
  rw [e1, e2, e3, cpy_nI]
  exact kk
end ZST
end
section
theorem z_in {x : Int32} {n : Nat} (h : ¬ x < 0) (h2 : ¬ nI n ≤ x) (hn : n < 2 ^ 31) : vp_in x n := by
  obtain ⟨j, hj, rfl⟩ := nI_of h
  have h3 : ¬ n ≤ j := fun q => h2 ((nI_leI hn hj).mpr q)
  exact vp_in_nI (by omega) hn
theorem z_out0 {x : Int32} {n : Nat} (h : x < 0) : ¬ vp_in x n := fun q => q (Or.inl h)
theorem z_out1 {x : Int32} {n : Nat} (h : nI n ≤ x) (hn : n < 2 ^ 31) : ¬ vp_in x n := fun q => by
  obtain ⟨j, hj, rfl⟩ := vp_in_of q hn
  exact absurd ((nI_leI hn (by omega)).mp h) (by omega)
set_option maxHeartbeats 4000000 in
set_option maxRecDepth 100000 in
/-- has: a bit -/
theorem c_X3_has {l : Launch} {D : va_G} {cI cZ cB cR : ClassId} {b i : Nat} (hb9 : b < 2 ^ 31) (hi : i < 31) : mR l yX3_has cX3_has 2 (some .boolean) 0 0 D cI cZ cB cR [] [.int (nI b), .int (nI i)] (some (.int (bI (b.testBit i)))) := by
  refine mR_of rfl (Nat.le_of_ble_eq_true rfl) ?_
  intro p e s m args below meth c hC hr hlk hK hP ls hl
  have hl : lv_has ls 2 [(0, .int (nI b)), (1, .int (nI i))] := hl
  obtain ⟨hx, hb, hml, hown, hts⟩ := id hC
  refine lv_iload_n hx hb dX3_has_0 rfl (lv_at hl 0 rfl) ?_
  refine lv_iload_n hx hb dX3_has_1 rfl (lv_at hl 1 rfl) ?_
  refine zi_shr hC dX3_has_2 (by omega) (by omega) ?_
  refine lv_iconst (v := nI 1) hx hb dX3_has_3 (by decide) ?_
  refine zi_and hC dX3_has_4 ?_
  have b5 : (b.testBit i).toNat < 2 := Bool.toNat_lt _
  refine z_top (show (nI ((b / 2 ^ i) &&& 1)) = nI ((b.testBit i).toNat) from by exact z_bit b i) ?_
  refine lv_iconst (v := nI 1) hx hb dX3_has_5 (by decide) ?_
  refine zc_ne (tgt := 13) hC dX3_has_6 (by decide) (by omega) (by omega) (fun c6 => ?_) (fun c6 => ?_)
  · skip
    refine lv_iconst (v := nI 0) hx hb dX3_has_13 (by decide) ?_
    refine z_top (y := bI false) rfl ?_
    exact zr_z hC hr hlk (by revert c6; cases b.testBit i <;> simp) dX3_has_14
  · skip
    refine lv_iconst (v := nI 1) hx hb dX3_has_9 (by decide) ?_
    refine lv_goto (tgt := 14) hx hb dX3_has_10 (by decide) ?_
    refine z_top (y := bI true) rfl ?_
    exact zr_z hC hr hlk (by revert c6; cases b.testBit i <;> simp) dX3_has_14
set_option maxHeartbeats 4000000 in
set_option maxRecDepth 100000 in
theorem c_X3_isNoughtOrOne {l : Launch} {D : va_G} {cI cZ cB cR : ClassId} {x : Int32} {b : Bool} (hb9 : b = true ↔ x = 0 ∨ x = nI 1) : mR l yX3_isNoughtOrOne cX3_isNoughtOrOne 1 (some .boolean) 0 0 D cI cZ cB cR [] [.int x] (some (.int (bI b))) := by
  refine mR_of rfl (Nat.le_of_ble_eq_true rfl) ?_
  intro p e s m args below meth c hC hr hlk hK hP ls hl
  have hl : lv_has ls 1 [(0, .int x)] := hl
  obtain ⟨hx, hb, hml, hown, hts⟩ := id hC
  refine lv_iload_n hx hb dX3_isNoughtOrOne_0 rfl (lv_at hl 0 rfl) ?_
  refine lv_if_eq (tgt := 9) hx hb dX3_isNoughtOrOne_1 (by decide) (fun c1 => ?_) (fun c1 => ?_)
  · skip
    refine lv_iconst (v := nI 1) hx hb dX3_isNoughtOrOne_9 (by decide) ?_
    refine lv_goto (tgt := 14) hx hb dX3_isNoughtOrOne_10 (by decide) ?_
    refine z_top (y := bI true) rfl ?_
    exact zr_z hC hr hlk (by first | exact (hb9.mpr (Or.inl c1)).symm | exact (hb9.mpr (Or.inr c6)).symm | exact (hb9.mpr (Or.inr (Decidable.not_not.mp c6))).symm | (cases b with | false => rfl | true => exact absurd (hb9.mp rfl) (by rintro (h | h); exact c1 h; exact c6 h))) dX3_isNoughtOrOne_14
  · skip
    refine lv_iload_n hx hb dX3_isNoughtOrOne_4 rfl (lv_at hl 0 rfl) ?_
    refine lv_iconst (v := nI 1) hx hb dX3_isNoughtOrOne_5 (by decide) ?_
    refine lv_icmp_ne (tgt := 13) hx hb dX3_isNoughtOrOne_6 (by decide) (fun c6 => ?_) (fun c6 => ?_)
    · skip
      refine lv_iconst (v := nI 0) hx hb dX3_isNoughtOrOne_13 (by decide) ?_
      refine z_top (y := bI false) rfl ?_
      exact zr_z hC hr hlk (by first | exact (hb9.mpr (Or.inl c1)).symm | exact (hb9.mpr (Or.inr c6)).symm | exact (hb9.mpr (Or.inr (Decidable.not_not.mp c6))).symm | (cases b with | false => rfl | true => exact absurd (hb9.mp rfl) (by rintro (h | h); exact c1 h; exact c6 h))) dX3_isNoughtOrOne_14
    · skip
      refine lv_iconst (v := nI 1) hx hb dX3_isNoughtOrOne_9 (by decide) ?_
      refine lv_goto (tgt := 14) hx hb dX3_isNoughtOrOne_10 (by decide) ?_
      refine z_top (y := bI true) rfl ?_
      exact zr_z hC hr hlk (by first | exact (hb9.mpr (Or.inl c1)).symm | exact (hb9.mpr (Or.inr c6)).symm | exact (hb9.mpr (Or.inr (Decidable.not_not.mp c6))).symm | (cases b with | false => rfl | true => exact absurd (hb9.mp rfl) (by rintro (h | h); exact c1 h; exact c6 h))) dX3_isNoughtOrOne_14
set_option maxHeartbeats 4000000 in
set_option maxRecDepth 100000 in
theorem c_X3_isDecanter {l : Launch} {D : va_G} {cI cZ cB cR : ClassId} {q t b b2 pp i1 i2 kept tn tw td : Nat} {tr : Int64} {n lvA aiA laA ac woA drA : Nat} {x : Int32} {g : Bool} (hn : n < 2 ^ 31) (hg : g = true ↔ vp_in x n) : mR l yX3_isDecanter cX3_isDecanter 2 (some .boolean) 0 0 D cI cZ cB cR [oK q t b b2 pp i1 i2 kept tn tw td tr, oB b n lvA aiA laA ac woA drA] [.ref q, .int x] (some (.int (bI g))) := by
  refine mR_of rfl (Nat.le_of_ble_eq_true rfl) ?_
  intro p e s m args below meth c hC hr hlk hK hP ls hl
  have hl : lv_has ls 2 [(0, .ref q), (1, .int x)] := hl
  obtain ⟨hx, hb, hml, hown, hts⟩ := id hC
  refine lv_iload_n hx hb dX3_isDecanter_0 rfl (lv_at hl 1 rfl) ?_
  refine lv_if_lt (tgt := 19) hx hb dX3_isDecanter_1 (by decide) (fun c1 => ?_) (fun c1 => ?_)
  · skip
    refine lv_iconst (v := nI 0) hx hb dX3_isDecanter_19 (by decide) ?_
    refine z_top (y := bI false) rfl ?_
    exact zr_z hC hr hlk (by first | exact (hg.mpr (z_in (by assumption) c12 hn)).symm | (cases g with | false => rfl | true => exact absurd (hg.mp rfl) (by first | exact z_out0 c1 | exact z_out1 c12 hn))) dX3_isDecanter_20
  · skip
    refine lv_iload_n hx hb dX3_isDecanter_4 rfl (lv_at hl 1 rfl) ?_
    refine lv_aload_n hx hb dX3_isDecanter_5 rfl (lv_at hl 0 rfl) ?_
    refine z_get (k := 1) zcX3 hC hK hP 0 rfl (by decide) lF_X3_19 rfl dX3_isDecanter_6 ?_
    refine z_get (k := 0) zcX1 hC hK hP 1 rfl (by decide) lF_X3_123 rfl dX3_isDecanter_9 ?_
    refine lv_icmp_ge (tgt := 19) hx hb dX3_isDecanter_12 (by decide) (fun c12 => ?_) (fun c12 => ?_)
    · skip
      refine lv_iconst (v := nI 0) hx hb dX3_isDecanter_19 (by decide) ?_
      refine z_top (y := bI false) rfl ?_
      exact zr_z hC hr hlk (by first | exact (hg.mpr (z_in (by assumption) c12 hn)).symm | (cases g with | false => rfl | true => exact absurd (hg.mp rfl) (by first | exact z_out0 c1 | exact z_out1 c12 hn))) dX3_isDecanter_20
    · skip
      refine lv_iconst (v := nI 1) hx hb dX3_isDecanter_15 (by decide) ?_
      refine lv_goto (tgt := 20) hx hb dX3_isDecanter_16 (by decide) ?_
      refine z_top (y := bI true) rfl ?_
      exact zr_z hC hr hlk (by first | exact (hg.mpr (z_in (by assumption) c12 hn)).symm | (cases g with | false => rfl | true => exact absurd (hg.mp rfl) (by first | exact z_out0 c1 | exact z_out1 c12 hn))) dX3_isDecanter_20
set_option maxHeartbeats 4000000 in
set_option maxRecDepth 100000 in
theorem c_X3_isAct {l : Launch} {D : va_G} {cI cZ cB cR : ClassId} {q t b b2 pp i1 i2 kept tn tw td : Nat} {tr : Int64} {n lvA aiA laA ac woA drA : Nat} {x : Int32} {g : Bool} (hn : ac < 2 ^ 31) (hg : g = true ↔ vp_in x ac) : mR l yX3_isAct cX3_isAct 2 (some .boolean) 0 0 D cI cZ cB cR [oK q t b b2 pp i1 i2 kept tn tw td tr, oB b n lvA aiA laA ac woA drA] [.ref q, .int x] (some (.int (bI g))) := by
  refine mR_of rfl (Nat.le_of_ble_eq_true rfl) ?_
  intro p e s m args below meth c hC hr hlk hK hP ls hl
  have hl : lv_has ls 2 [(0, .ref q), (1, .int x)] := hl
  obtain ⟨hx, hb, hml, hown, hts⟩ := id hC
  refine lv_iload_n hx hb dX3_isAct_0 rfl (lv_at hl 1 rfl) ?_
  refine lv_if_lt (tgt := 19) hx hb dX3_isAct_1 (by decide) (fun c1 => ?_) (fun c1 => ?_)
  · skip
    refine lv_iconst (v := nI 0) hx hb dX3_isAct_19 (by decide) ?_
    refine z_top (y := bI false) rfl ?_
    exact zr_z hC hr hlk (by first | exact (hg.mpr (z_in (by assumption) c12 hn)).symm | (cases g with | false => rfl | true => exact absurd (hg.mp rfl) (by first | exact z_out0 c1 | exact z_out1 c12 hn))) dX3_isAct_20
  · skip
    refine lv_iload_n hx hb dX3_isAct_4 rfl (lv_at hl 1 rfl) ?_
    refine lv_aload_n hx hb dX3_isAct_5 rfl (lv_at hl 0 rfl) ?_
    refine z_get (k := 1) zcX3 hC hK hP 0 rfl (by decide) lF_X3_19 rfl dX3_isAct_6 ?_
    refine z_get (k := 4) zcX1 hC hK hP 1 rfl (by decide) lF_X3_162 rfl dX3_isAct_9 ?_
    refine lv_icmp_ge (tgt := 19) hx hb dX3_isAct_12 (by decide) (fun c12 => ?_) (fun c12 => ?_)
    · skip
      refine lv_iconst (v := nI 0) hx hb dX3_isAct_19 (by decide) ?_
      refine z_top (y := bI false) rfl ?_
      exact zr_z hC hr hlk (by first | exact (hg.mpr (z_in (by assumption) c12 hn)).symm | (cases g with | false => rfl | true => exact absurd (hg.mp rfl) (by first | exact z_out0 c1 | exact z_out1 c12 hn))) dX3_isAct_20
    · skip
      refine lv_iconst (v := nI 1) hx hb dX3_isAct_15 (by decide) ?_
      refine lv_goto (tgt := 20) hx hb dX3_isAct_16 (by decide) ?_
      refine z_top (y := bI true) rfl ?_
      exact zr_z hC hr hlk (by first | exact (hg.mpr (z_in (by assumption) c12 hn)).symm | (cases g with | false => rfl | true => exact absurd (hg.mp rfl) (by first | exact z_out0 c1 | exact z_out1 c12 hn))) dX3_isAct_20
set_option maxHeartbeats 4000000 in
set_option maxRecDepth 100000 in
theorem c_X1_dropsNeeded {l : Launch} {D : va_G} {cI cZ cB cR : ClassId} {b : Nat} {n lvA aiA laA ac woA drA : Nat} {r : Nat → Nat} {dr : Nat → Nat → Nat} {a d : Nat} (hn : n ≤ 6) (hac : ac ≤ 5) (ha : a < ac) (hd : d < n) : mR l yX1_dropsNeeded cX1_dropsNeeded 3 (some .int) 0 0 D cI cZ cB cR [oB b n lvA aiA laA ac woA drA, aR cR drA 5 r, aI cI (r 0) 6 (dr 0), aI cI (r 1) 6 (dr 1), aI cI (r 2) 6 (dr 2), aI cI (r 3) 6 (dr 3), aI cI (r 4) 6 (dr 4)] [.ref b, .int (nI a), .int (nI d)] (some (.int (nI (dr a d)))) := by
  refine mR_of rfl (Nat.le_of_ble_eq_true rfl) ?_
  intro p e s m args below meth c hC hr hlk hK hP ls hl
  have hl : lv_has ls 3 [(0, .ref b), (1, .int (nI a)), (2, .int (nI d))] := hl
  obtain ⟨hx, hb, hml, hown, hts⟩ := id hC
  refine lv_iload_n hx hb dX1_dropsNeeded_0 rfl (lv_at hl 1 rfl) ?_
  refine z0_lt (tgt := 35) hC dX1_dropsNeeded_1 (by decide) (by omega) ?_
  refine lv_iload_n hx hb dX1_dropsNeeded_4 rfl (lv_at hl 1 rfl) ?_
  refine lv_aload_n hx hb dX1_dropsNeeded_5 rfl (lv_at hl 0 rfl) ?_
  refine z_get (k := 4) zcX1 hC hK hP 0 rfl (by decide) lF_X1_25 rfl dX1_dropsNeeded_6 ?_
  refine zc_ge (tgt := 35) hC dX1_dropsNeeded_9 (by decide) (by omega) (by omega) (fun c9 => by exfalso; omega) (fun c9 => ?_)
  refine lv_iload_n hx hb dX1_dropsNeeded_12 rfl (lv_at hl 2 rfl) ?_
  refine z0_lt (tgt := 35) hC dX1_dropsNeeded_13 (by decide) (by omega) ?_
  refine lv_iload_n hx hb dX1_dropsNeeded_16 rfl (lv_at hl 2 rfl) ?_
  refine lv_aload_n hx hb dX1_dropsNeeded_17 rfl (lv_at hl 0 rfl) ?_
  refine z_get (k := 0) zcX1 hC hK hP 0 rfl (by decide) lF_X1_9 rfl dX1_dropsNeeded_18 ?_
  refine zc_ge (tgt := 35) hC dX1_dropsNeeded_21 (by decide) (by omega) (by omega) (fun c21 => by exfalso; omega) (fun c21 => ?_)
  refine lv_aload_n hx hb dX1_dropsNeeded_24 rfl (lv_at hl 0 rfl) ?_
  refine z_get (k := 6) zcX1 hC hK hP 0 rfl (by decide) lF_X1_33 rfl dX1_dropsNeeded_25 ?_
  refine lv_iload_n hx hb dX1_dropsNeeded_28 rfl (lv_at hl 1 rfl) ?_
  refine z_rld hC hK hP 1 rfl (by omega) (by decide) dX1_dropsNeeded_29 ?_
  refine lv_iload_n hx hb dX1_dropsNeeded_30 rfl (lv_at hl 2 rfl) ?_
  refine z_ald hC hK hP (2 + a) (row5 (X := [oB b n lvA aiA laA ac woA drA, aR cR drA 5 r]) (by omega)) (by omega) (by decide) dX1_dropsNeeded_31 ?_
  refine lv_goto (tgt := 36) hx hb dX1_dropsNeeded_32 (by decide) ?_
  exact zr_i hC hr hlk (by first | rfl | omega) dX1_dropsNeeded_36
set_option maxHeartbeats 4000000 in
set_option maxRecDepth 100000 in
theorem c_X3_dropsFrom {l : Launch} {D : va_G} {cI cZ cB cR : ClassId} {q t b b2 pp i1 i2 kept tn tw td : Nat} {tr : Int64} {n lvA aiA laA ac woA drA : Nat} {r : Nat → Nat} {dr : Nat → Nat → Nat} {pl pt pa mo dn ea bn stA k : Nat} {la : Nat → Nat} {d a : Nat} (hn : n ≤ 6) (hac : ac ≤ 5) (ha : a < ac) (hd : d < n) (hla : la d < n) : mR l yX3_dropsFrom cX3_dropsFrom 3 (some .int) 1 22 D cI cZ cB cR [oK q t b b2 pp i1 i2 kept tn tw td tr, oB b n lvA aiA laA ac woA drA, aR cR drA 5 r, aI cI (r 0) 6 (dr 0), aI cI (r 1) 6 (dr 1), aI cI (r 2) 6 (dr 2), aI cI (r 3) 6 (dr 3), aI cI (r 4) 6 (dr 4), oP pp pl pt pa mo dn ea bn stA k, aI cI pa 6 la] [.ref q, .int (nI d), .int (nI a)] (some (.int (nI (dr a (la d))))) := by
  refine mR_of rfl (Nat.le_of_ble_eq_true rfl) ?_
  intro p e s m args below meth c hC hr hlk hK hP ls hl
  have hl : lv_has ls 3 [(0, .ref q), (1, .int (nI d)), (2, .int (nI a))] := hl
  obtain ⟨hx, hb, hml, hown, hts⟩ := id hC
  refine lv_aload_n hx hb dX3_dropsFrom_0 rfl (lv_at hl 0 rfl) ?_
  refine z_get (k := 1) zcX3 hC hK hP 0 rfl (by decide) lF_X3_19 rfl dX3_dropsFrom_1 ?_
  refine lv_iload_n hx hb dX3_dropsFrom_4 rfl (lv_at hl 2 rfl) ?_
  refine lv_aload_n hx hb dX3_dropsFrom_5 rfl (lv_at hl 0 rfl) ?_
  refine z_get (k := 3) zcX3 hC hK hP 0 rfl (by decide) lF_X3_29 rfl dX3_dropsFrom_6 ?_
  refine z_get (k := 2) zcX0 hC hK hP 8 rfl (by decide) lF_X3_88 rfl dX3_dropsFrom_9 ?_
  refine lv_iload_n hx hb dX3_dropsFrom_12 rfl (lv_at hl 1 rfl) ?_
  refine z_ald hC hK hP 9 rfl (by omega) (by decide) dX3_dropsFrom_13 ?_
  refine zRVN (As := [.int (nI a), .int (nI (la d))]) (b := b) (rest := []) hC (c_X1_dropsNeeded (l := l) (hn := hn) (hac := hac) (ha := ha) (hd := hla)) lM_X3_110 vM_X1_dropsNeeded (by decide) hK hP [1, 2, 3, 4, 5, 6, 7] rfl ⟨rfl, rfl, rfl⟩ rfl hl.1 rfl (Nat.le_of_ble_eq_true rfl) dX3_dropsFrom_14 (by decide) ?_
  show W _ _ _ _ _ _ _ _ _ _ _ _ _ _ _ (F0 m 17 ls [.int (nI (dr a (la d)))])
  exact zr_i hC hr hlk (by first | rfl | omega) dX3_dropsFrom_17
end
section
/-! numbers: sums, sets of bits, rings, what the class reckons -/
def sm (f : Nat → Nat) : Nat → Nat
  | 0 => 0
  | k + 1 => sm f k + f k
theorem sm_s (f : Nat → Nat) (k : Nat) : sm f (k + 1) = sm f k + f k := rfl
theorem sm_cong {f g : Nat → Nat} : ∀ {k : Nat}, (∀ i, i < k → f i = g i) → sm f k = sm g k
  | 0, _ => rfl
  | k + 1, h => by rw [sm_s, sm_s, sm_cong (fun i hi => h i (by omega)), h k (by omega)]
theorem sm_le {f : Nat → Nat} {c : Nat} : ∀ {k : Nat}, (∀ i, i < k → f i ≤ c) → sm f k ≤ c * k
  | 0, _ => Nat.zero_le _
  | k + 1, h => by
    have h1 := sm_le (f := f) (c := c) (k := k) (fun i hi => h i (by omega))
    have h2 := h k (by omega)
    rw [sm_s, Nat.mul_succ]
    omega
theorem sm_zero {f : Nat → Nat} : ∀ {k : Nat}, (∀ i, i < k → f i = 0) → sm f k = 0
  | 0, _ => rfl
  | k + 1, h => by rw [sm_s, sm_zero (fun i hi => h i (by omega)), h k (by omega)]
theorem sm_one {f : Nat → Nat} {a : Nat} : ∀ {k : Nat}, a < k → (∀ i, i < k → i ≠ a → f i = 0) → sm f k = f a
  | 0, h, _ => absurd h (Nat.not_lt_zero _)
  | k + 1, h, h2 => by
    rw [sm_s]
    by_cases e : a = k
    · subst e
      rw [sm_zero (fun i hi => h2 i (by omega) (by omega)), Nat.zero_add]
    · rw [sm_one (a := a) (k := k) (by omega) (fun i hi => h2 i (by omega)), h2 k (by omega) (by omega), Nat.add_zero]
theorem z_pow_bit (a i : Nat) : (2 ^ a).testBit i = decide (a = i) := by
  by_cases h : a = i
  · subst h; simp
  · simp [Nat.testBit_two_pow_of_ne h, h]
theorem z_pow31 {a : Nat} (h : a < 31) : 2 ^ a < 2 ^ 31 := Nat.pow_lt_pow_right (by decide) h
theorem z_pow6 {a : Nat} (h : a < 6) : 2 ^ a < 64 := Nat.lt_of_lt_of_le (Nat.pow_lt_pow_right (by decide) h) (by decide)
theorem z_pow5 {a : Nat} (h : a < 5) : 2 ^ a < 32 := Nat.lt_of_lt_of_le (Nat.pow_lt_pow_right (by decide) h) (by decide)
theorem z_powL6 {a : Nat} (h : a ≤ 6) : 2 ^ a ≤ 64 := Nat.le_trans (Nat.pow_le_pow_right (by decide) h) (by decide)
theorem z_powL5 {a : Nat} (h : a ≤ 5) : 2 ^ a ≤ 32 := Nat.le_trans (Nat.pow_le_pow_right (by decide) h) (by decide)
theorem z_or64 {a b : Nat} (h : a < 64) (h2 : b < 64) : a ||| b < 64 := Nat.or_lt_two_pow (n := 6) h h2
theorem z_or32 {a b : Nat} (h : a < 32) (h2 : b < 32) : a ||| b < 32 := Nat.or_lt_two_pow (n := 5) h h2
/-- the set of those below k that have P -/
def orr (P : Nat → Bool) : Nat → Nat
  | 0 => 0
  | k + 1 => if P k then orr P k ||| 2 ^ k else orr P k
theorem orr_s (P : Nat → Bool) (k : Nat) : orr P (k + 1) = if P k then orr P k ||| 2 ^ k else orr P k := rfl
theorem orr_cong {P Q : Nat → Bool} : ∀ {k : Nat}, (∀ i, i < k → P i = Q i) → orr P k = orr Q k
  | 0, _ => rfl
  | k + 1, h => by rw [orr_s, orr_s, orr_cong (fun i hi => h i (by omega)), h k (by omega)]
theorem orr_lt (P : Nat → Bool) : ∀ k, orr P k < 2 ^ k
  | 0 => Nat.zero_lt_one
  | k + 1 => by
    have h := orr_lt P k
    have h1 : 2 ^ k < 2 ^ (k + 1) := Nat.pow_lt_pow_right (by decide) (Nat.lt_succ_self k)
    rw [orr_s]
    split
    · exact Nat.or_lt_two_pow (by omega) h1
    · omega
theorem orr_bit (P : Nat → Bool) : ∀ k i, (orr P k).testBit i = (decide (i < k) && P i)
  | 0, i => by simp [orr]
  | k + 1, i => by
    rw [orr_s]
    by_cases hP : P k = true
    · rw [if_pos hP, Nat.testBit_or, orr_bit P k i, z_pow_bit]
      by_cases e : k = i
      · subst e; simp [hP]
      · have h1 : decide (i < k) = decide (i < k + 1) := by
          by_cases h : i < k
          · simp [h, Nat.lt_succ_of_lt h]
          · simp [h, show ¬ i < k + 1 by omega]
        simp [e, h1]
    · rw [if_neg hP, orr_bit P k i]
      by_cases e : i = k
      · subst e; simp [hP]
      · have h1 : decide (i < k) = decide (i < k + 1) := by
          by_cases h : i < k
          · simp [h, Nat.lt_succ_of_lt h]
          · simp [h, show ¬ i < k + 1 by omega]
        simp [h1]
def spanF (x y : Nat) : Int32 := if x = 0 then 0 else if y = 0 then -9 else nI ((x + y - 1) / y)
/-- how long an act still can be: the least over the decanters, 60 at most -/
def lmin (lv ai nd : Nat → Nat) : Nat → Nat
  | 0 => 60
  | d + 1 => if 0 < nd d ∧ 0 < ai d then min (lmin lv ai nd d) ((lv d - nd d) / ai d) else lmin lv ai nd d
theorem lmin_le (lv ai nd : Nat → Nat) : ∀ d, lmin lv ai nd d ≤ 60
  | 0 => Nat.le_refl _
  | d + 1 => by
    have h := lmin_le lv ai nd d
    unfold lmin
    split
    · exact Nat.le_trans (Nat.min_le_left _ _) h
    · exact h
/-- k steps of a ring from e on -/
def rg (la : Nat → Nat) : Nat → Nat → Nat → Nat
  | 0, _, acc => acc
  | k + 1, e, acc => rg la k (la e) (acc ||| 2 ^ e)
def fcS (la : Nat → Nat) (n : Nat) : Nat → Nat × Nat
  | 0 => (n, 0)
  | d + 1 => if (fcS la n d).2.testBit d then fcS la n d else ((fcS la n d).1 - 1, (fcS la n d).2 ||| rg la n d 0)
def fin9 (la : Nat → Nat) (d : Nat) : Nat → Nat → Option Nat
  | _, 0 => none
  | e, k + 1 => if la d = e ∨ la e = d then some (10 * d + e) else fin9 la d (e + 1) k
def fou9 (la : Nat → Nat) (n : Nat) : Nat → Nat → Option Nat
  | _, 0 => none
  | d, k + 1 => match fin9 la d (d + 1) (n - (d + 1)) with
    | some v => some v
    | none => fou9 la n (d + 1) k
def oI (o : Option Nat) : Int32 := match o with
  | some v => nI v
  | none => -9
def dabs (lv : Nat → Nat) (st n : Nat) : Nat := if sm (fun i => if st.testBit i then lv i else 0) n < sm (fun i => if st.testBit i then 0 else lv i) n then sm (fun i => if st.testBit i then 0 else lv i) n - sm (fun i => if st.testBit i then lv i else 0) n else sm (fun i => if st.testBit i then lv i else 0) n - sm (fun i => if st.testBit i then 0 else lv i) n
def iltL (num x : Nat) : Nat → Nat
  | 0 => num
  | d + 1 => if d = 0 then num else if 10 % (d + 1) = 0 ∧ x % (d + 1) = 0 then num / (d + 1) else iltL num x d
theorem iltL_1 (num x : Nat) : iltL num x 1 = num := rfl
theorem iltL_s (num x d : Nat) (h : 1 < d) : iltL num x d = if 10 % d = 0 ∧ x % d = 0 then num / d else iltL num x (d - 1) := by
  obtain ⟨k, rfl⟩ : ∃ k, d = k + 1 := ⟨d - 1, by omega⟩
  show (if k = 0 then num else _) = _
  rw [if_neg (by omega)]
  rfl
def popc (x : Nat) : Nat := sm (fun i => (x.testBit i).toNat) 6
theorem popc_le (x : Nat) : popc x ≤ 6 := sm_le (c := 1) (fun _ _ => by have := Bool.toNat_lt (x.testBit ‹_›); omega)
theorem z_andnot {a o : Nat} (ha : a < 64) : nI a &&& (nI o ^^^ (-1)) = nI (a ^^^ (a &&& o)) := by
  apply Int32.toBitVec_inj.mp
  show BitVec.ofNat 32 a &&& (BitVec.ofNat 32 o ^^^ BitVec.allOnes 32) = BitVec.ofNat 32 (a ^^^ (a &&& o))
  apply BitVec.eq_of_getLsbD_eq
  intro i hi
  simp only [BitVec.getLsbD_and, BitVec.getLsbD_xor, BitVec.getLsbD_ofNat, BitVec.getLsbD_allOnes, Nat.testBit_xor, Nat.testBit_and, hi, decide_true, Bool.true_and]
  cases a.testBit i <;> cases o.testBit i <;> rfl
theorem z_min {a b : Nat} (ha : a < 2 ^ 31) (hb : b < 2 ^ 31) : (if nI b < nI a then nI b else nI a) = nI (min a b) := by
  by_cases h : b < a
  · rw [if_pos ((nI_ltI hb ha).mpr h), Nat.min_eq_right (by omega)]
  · rw [if_neg (fun q => h ((nI_ltI hb ha).mp q)), Nat.min_eq_left (by omega)]
theorem z_abs {a b : Nat} (ha : a < 2 ^ 30) (hb : b < 2 ^ 30) : (if 0 ≤ nI a - nI b then nI a - nI b else 0 - (nI a - nI b)) = nI (if a < b then b - a else a - b) := by
  have e : ∀ x y : Int32, 0 - (x - y) = y - x := by intro x y; grind
  by_cases h : a < b
  · have h1 := pk_sneg hb h
    have h2 : ¬ (0 : Int32) ≤ nI a - nI b := fun q => by
      have h3 := Int32.lt_iff_toInt_lt.mp h1
      have h4 := Int32.le_iff_toInt_le.mp q
      omega
    rw [if_neg h2, if_pos h, e, pk_sub (by omega)]
  · rw [pk_sub (by omega), if_pos (nI_pos' (by omega)), if_neg h]
theorem z_max0 {a b : Nat} (ha : a < 2 ^ 30) (hb : b < 2 ^ 30) : (if (0 : Int32) < nI a - nI b then nI a - nI b else 0) = nI (a - b) := by
  by_cases h : a < b
  · have h1 := pk_sneg hb h
    have h2 : ¬ (0 : Int32) < nI a - nI b := fun q => by
      have h3 := Int32.lt_iff_toInt_lt.mp h1
      have h4 := Int32.lt_iff_toInt_lt.mp q
      have h5 : (0 : Int32).toInt = 0 := rfl
      omega
    rw [if_neg h2, show a - b = 0 by omega]
    rfl
  · rw [pk_sub (by omega)]
    by_cases h0 : a - b = 0
    · rw [h0]; decide
    · rw [if_pos (show (0 : Int32) < nI (a - b) from (nI_ltI (a := 0) (b := a - b) (by decide) (by omega)).mpr (by omega))]
end
section
set_option maxHeartbeats 4000000 in
set_option maxRecDepth 100000 in
theorem c_X3_isEnoughForAll {l : Launch} {D : va_G} {cI cZ cB cR : ClassId} {q t b b2 pp i1 i2 kept tn tw td : Nat} {tr : Int64} {n lvA aiA laA ac woA drA : Nat} {r : Nat → Nat} {dr : Nat → Nat → Nat} {pl pt pa mo dn ea bn stA k : Nat} {la : Nat → Nat} {lv : Nat → Nat} {st9 : Nat} {g : Bool} (hn : n ≤ 6) (hac : ac ≤ 5) (hla : ∀ i, i < n → la i < n) (hdr : ∀ i j, dr i j ≤ 9) (hlv : ∀ i, lv i ≤ 40) (hst : st9 < 2 ^ 31) (hg : g = true ↔ ∀ d, d < n → sm (fun i => if st9.testBit i then dr i (la d) else 0) ac ≤ lv d) : mR l yX3_isEnoughForAll cX3_isEnoughForAll 5 (some .boolean) 2 44 D cI cZ cB cR [oK q t b b2 pp i1 i2 kept tn tw td tr, oB b n lvA aiA laA ac woA drA, aR cR drA 5 r, aI cI (r 0) 6 (dr 0), aI cI (r 1) 6 (dr 1), aI cI (r 2) 6 (dr 2), aI cI (r 3) 6 (dr 3), aI cI (r 4) 6 (dr 4), oP pp pl pt pa mo dn ea bn stA k, aI cI pa 6 la, aI cI pl 6 lv] [.ref q, .int (nI st9)] (some (.int (bI g))) := by
  refine mR_of rfl (Nat.le_of_ble_eq_true rfl) ?_
  intro p e s m args below meth c hC hr hlk hK hP ls hl
  have hl : lv_has ls 5 [(0, .ref q), (1, .int (nI st9))] := hl
  obtain ⟨hx, hb, hml, hown, hts⟩ := id hC
  refine lv_iconst (v := nI 0) hx hb dX3_isEnoughForAll_0 (by decide) ?_
  refine lv_istore_n (lv' := [(2, .int (nI 0)), (0, .ref q), (1, .int (nI st9))]) hx hb dX3_isEnoughForAll_1 rfl hl (by decide) rfl (fun ls hl => ?_)
  have hL2 : ∀ (z2 : Nat) (d : Nat), n - d = z2 → d ≤ n → (∀ i, i < d → sm (fun j => if st9.testBit j then dr j (la i) else 0) ac ≤ lv i) → ∀ ls : Array Slot, lv_has ls 5 [(0, .ref q), (1, .int (nI st9)), (2, .int (nI d))] → W p l e { frames := 2, cells := 0, slots := 0, locals := 44 } s m args below meth c s.heap [] 0 0 (MQ below (qR (some (.int (bI g)))) args s 0 0 (fun _ => False)) (F0 m 2 ls []) := by
    intro z2
    induction z2 using Nat.strongRecOn with
    | _ z2 ih2 =>
    intro d hz2 hd hall ls hl
    refine lv_iload_n hx hb dX3_isEnoughForAll_2 rfl (lv_at hl 2 rfl) ?_
    refine lv_aload_n hx hb dX3_isEnoughForAll_3 rfl (lv_at hl 0 rfl) ?_
    refine z_get (k := 1) zcX3 hC hK hP 0 rfl (by decide) lF_X3_19 rfl dX3_isEnoughForAll_4 ?_
    refine z_get (k := 0) zcX1 hC hK hP 1 rfl (by decide) lF_X3_123 rfl dX3_isEnoughForAll_7 ?_
    refine zc_ge (tgt := 76) hC dX3_isEnoughForAll_10 (by decide) (by omega) (by omega) (fun c10 => ?_) (fun c10 => ?_)
    · skip
      refine lv_iconst (v := nI 1) hx hb dX3_isEnoughForAll_76 (by decide) ?_
      refine z_top (y := bI true) rfl ?_
      exact zr_z hC hr hlk (by exact (hg.mpr (fun i hi => hall i (by omega))).symm) dX3_isEnoughForAll_77
    · skip
      refine lv_iconst (v := nI 0) hx hb dX3_isEnoughForAll_13 (by decide) ?_
      refine lv_istore_n (lv' := [(3, .int (nI 0)), (0, .ref q), (1, .int (nI st9)), (2, .int (nI d))]) hx hb dX3_isEnoughForAll_14 rfl hl (by decide) rfl (fun ls hl => ?_)
      refine lv_iconst (v := nI 0) hx hb dX3_isEnoughForAll_15 (by decide) ?_
      refine lv_istore (lv' := [(4, .int (nI 0)), (3, .int (nI 0)), (0, .ref q), (1, .int (nI st9)), (2, .int (nI d))]) hx hb dX3_isEnoughForAll_16 hl (by decide) rfl (fun ls hl => ?_)
      have hL18 : ∀ (z18 : Nat) (a : Nat) (x : Nat), ac - a = z18 → a ≤ ac → x = sm (fun i => if st9.testBit i then dr i (la d) else 0) a → x ≤ 9 * a → ∀ ls : Array Slot, lv_has ls 5 [(0, .ref q), (1, .int (nI st9)), (2, .int (nI d)), (3, .int (nI x)), (4, .int (nI a))] → W p l e { frames := 2, cells := 0, slots := 0, locals := 44 } s m args below meth c s.heap [] 0 0 (MQ below (qR (some (.int (bI g)))) args s 0 0 (fun _ => False)) (F0 m 18 ls []) := by
        intro z18
        induction z18 using Nat.strongRecOn with
        | _ z18 ih18 =>
        intro a x hz18 ha hx9 hxb ls hl
        refine lv_iload hx hb dX3_isEnoughForAll_18 (lv_at hl 4 rfl) ?_
        refine lv_aload_n hx hb dX3_isEnoughForAll_20 rfl (lv_at hl 0 rfl) ?_
        refine z_get (k := 1) zcX3 hC hK hP 0 rfl (by decide) lF_X3_19 rfl dX3_isEnoughForAll_21 ?_
        refine z_get (k := 4) zcX1 hC hK hP 1 rfl (by decide) lF_X3_162 rfl dX3_isEnoughForAll_24 ?_
        refine zc_ge (tgt := 55) hC dX3_isEnoughForAll_27 (by decide) (by omega) (by omega) (fun c27 => ?_) (fun c27 => ?_)
        · skip
          have e27 : a = ac := by omega
          rw [e27] at hx9
          refine lv_iload_n hx hb dX3_isEnoughForAll_55 rfl (lv_at hl 3 rfl) ?_
          refine lv_aload_n hx hb dX3_isEnoughForAll_56 rfl (lv_at hl 0 rfl) ?_
          refine z_get (k := 3) zcX3 hC hK hP 0 rfl (by decide) lF_X3_29 rfl dX3_isEnoughForAll_57 ?_
          refine z_get (k := 0) zcX0 hC hK hP 8 rfl (by decide) lF_X3_79 rfl dX3_isEnoughForAll_60 ?_
          refine lv_iload_n hx hb dX3_isEnoughForAll_63 rfl (lv_at hl 2 rfl) ?_
          refine z_ald hC hK hP 10 rfl (by omega) (by decide) dX3_isEnoughForAll_64 ?_
          have b64 := hlv d
          refine zc_le (tgt := 70) hC dX3_isEnoughForAll_65 (by decide) (by omega) (by omega) (fun c65 => ?_) (fun c65 => ?_)
          · skip
            refine lv_iinc (v := nI (d + 1)) (lv' := [(2, .int (nI (d + 1))), (0, .ref q), (1, .int (nI st9)), (3, .int (nI x)), (4, .int (nI a))]) hx hb dX3_isEnoughForAll_70 hl (k := 2) rfl (z_inc d 1) (by decide) rfl (fun ls hl => ?_)
            refine lv_goto (tgt := 2) hx hb dX3_isEnoughForAll_73 (by decide) ?_
            exact ih2 (n - (d + 1)) (by omega) (d + 1) rfl (by omega) (by intro i hi; rcases Nat.lt_succ_iff_lt_or_eq.mp hi with h | h; exact hall i h; subst h; rw [hx9] at c65; exact c65) ls (lv_sub hl [1, 2, 0] rfl)
          · skip
            refine lv_iconst (v := nI 0) hx hb dX3_isEnoughForAll_68 (by decide) ?_
            refine z_top (y := bI false) rfl ?_
            exact zr_z hC hr hlk (by cases g with | false => rfl | true => exact absurd (hg.mp rfl d c10) (by rw [← hx9]; omega)) dX3_isEnoughForAll_69
        · skip
          refine lv_iload_n hx hb dX3_isEnoughForAll_30 rfl (lv_at hl 1 rfl) ?_
          refine lv_iload hx hb dX3_isEnoughForAll_31 (lv_at hl 4 rfl) ?_
          refine zRS (As := [.int (nI st9), .int (nI a)]) (rest := []) hC (c_X3_has (l := l) (b := st9) (i := a) (hb9 := by omega) (hi := by omega)) lM_X3_221 sM_X3_has (by decide) hK rfl hl.1 rfl (Nat.le_of_ble_eq_true rfl) dX3_isEnoughForAll_33 (by decide) ?_
          show W _ _ _ _ _ _ _ _ _ _ _ _ _ _ _ (F0 m 36 ls [.int (bI (st9.testBit a))])
          refine zb_eq (tgt := 49) hC dX3_isEnoughForAll_36 (by decide) (fun c36 => ?_) (fun c36 => ?_)
          · skip
            refine lv_iinc (v := nI (a + 1)) (lv' := [(4, .int (nI (a + 1))), (0, .ref q), (1, .int (nI st9)), (2, .int (nI d)), (3, .int (nI x))]) hx hb dX3_isEnoughForAll_49 hl (k := 4) rfl (z_inc a 1) (by decide) rfl (fun ls hl => ?_)
            refine lv_goto (tgt := 18) hx hb dX3_isEnoughForAll_52 (by decide) ?_
            exact ih18 (ac - (a + 1)) (by omega) (a + 1) x rfl (by omega) (by rw [hx9, sm_s]; simp [c36]) (by omega) ls (lv_sub hl [1, 2, 3, 4, 0] rfl)
          · skip
            have b36 := hdr a (la d)
            refine lv_iload_n hx hb dX3_isEnoughForAll_39 rfl (lv_at hl 3 rfl) ?_
            refine lv_aload_n hx hb dX3_isEnoughForAll_40 rfl (lv_at hl 0 rfl) ?_
            refine lv_iload_n hx hb dX3_isEnoughForAll_41 rfl (lv_at hl 2 rfl) ?_
            refine lv_iload hx hb dX3_isEnoughForAll_42 (lv_at hl 4 rfl) ?_
            refine zRV (As := [.int (nI d), .int (nI a)]) (b := q) (rest := [.int (nI x)]) hC (c_X3_dropsFrom (l := l) (hn := hn) (hac := hac) (ha := by omega) (hd := by omega) (hla := hla _ (by omega))) lM_X3_126 vM_X3_dropsFrom (by decide) hK hP [0, 1, 2, 3, 4, 5, 6, 7, 8, 9] rfl ⟨rfl, rfl, rfl⟩ rfl hl.1 rfl (Nat.le_of_ble_eq_true rfl) dX3_isEnoughForAll_44 (by decide) ?_
            show W _ _ _ _ _ _ _ _ _ _ _ _ _ _ _ (F0 m 47 ls [.int (nI (dr a (la d))), .int (nI x)])
            refine zi_add hC dX3_isEnoughForAll_47 ?_
            refine lv_istore_n (lv' := [(3, .int (nI (x + (dr a (la d))))), (0, .ref q), (1, .int (nI st9)), (2, .int (nI d)), (4, .int (nI a))]) hx hb dX3_isEnoughForAll_48 rfl hl (by decide) rfl (fun ls hl => ?_)
            refine lv_iinc (v := nI (a + 1)) (lv' := [(4, .int (nI (a + 1))), (3, .int (nI (x + (dr a (la d))))), (0, .ref q), (1, .int (nI st9)), (2, .int (nI d))]) hx hb dX3_isEnoughForAll_49 hl (k := 4) rfl (z_inc a 1) (by decide) rfl (fun ls hl => ?_)
            refine lv_goto (tgt := 18) hx hb dX3_isEnoughForAll_52 (by decide) ?_
            exact ih18 (ac - (a + 1)) (by omega) (a + 1) (x + (dr a (la d))) rfl (by omega) (by rw [hx9, sm_s]; simp [c36]) (by omega) ls (lv_sub hl [2, 3, 4, 1, 0] rfl)
      exact hL18 _ 0 0 rfl (by omega) (by rfl) (by omega) ls (lv_sub hl [2, 3, 4, 1, 0] rfl)
  exact hL2 _ 0 rfl (by omega) (by intro i hi; omega) ls (lv_sub hl [1, 2, 0] rfl)
set_option maxHeartbeats 4000000 in
set_option maxRecDepth 100000 in
theorem c_X3_isEnoughFor {l : Launch} {D : va_G} {cI cZ cB cR : ClassId} {q t b b2 pp i1 i2 kept tn tw td : Nat} {tr : Int64} {n lvA aiA laA ac woA drA : Nat} {r : Nat → Nat} {dr : Nat → Nat → Nat} {pl pt pa mo dn ea bn stA k : Nat} {la : Nat → Nat} {lv : Nat → Nat} {a : Nat} {g : Bool} (hn : n ≤ 6) (hac : ac ≤ 5) (hla : ∀ i, i < n → la i < n) (hdr : ∀ i j, dr i j ≤ 9) (hlv : ∀ i, lv i ≤ 40) (ha : a < ac) (hg : g = true ↔ ∀ d, d < n → dr a (la d) ≤ lv d) : mR l yX3_isEnoughFor cX3_isEnoughFor 2 (some .boolean) 3 68 D cI cZ cB cR [oK q t b b2 pp i1 i2 kept tn tw td tr, oB b n lvA aiA laA ac woA drA, aR cR drA 5 r, aI cI (r 0) 6 (dr 0), aI cI (r 1) 6 (dr 1), aI cI (r 2) 6 (dr 2), aI cI (r 3) 6 (dr 3), aI cI (r 4) 6 (dr 4), oP pp pl pt pa mo dn ea bn stA k, aI cI pa 6 la, aI cI pl 6 lv] [.ref q, .int (nI a)] (some (.int (bI g))) := by
  refine mR_of rfl (Nat.le_of_ble_eq_true rfl) ?_
  intro p e s m args below meth c hC hr hlk hK hP ls hl
  have hl : lv_has ls 2 [(0, .ref q), (1, .int (nI a))] := hl
  obtain ⟨hx, hb, hml, hown, hts⟩ := id hC
  refine lv_aload_n hx hb dX3_isEnoughFor_0 rfl (lv_at hl 0 rfl) ?_
  refine lv_iconst (v := nI 1) hx hb dX3_isEnoughFor_1 (by decide) ?_
  refine lv_iload_n hx hb dX3_isEnoughFor_2 rfl (lv_at hl 1 rfl) ?_
  refine zi_shl1 hC dX3_isEnoughFor_3 (by omega) ?_
  refine zRV (As := [.int (nI (2 ^ a))]) (b := q) (rest := []) hC (c_X3_isEnoughForAll (l := l) (g := g) (hn := hn) (hac := hac) (hla := hla) (hdr := hdr) (hlv := hlv) (hst := z_pow31 (by omega)) (hg := by rw [hg]; refine forall_congr' fun d => ⟨fun h hd => ?_, fun h hd => ?_⟩; rw [sm_one (a := a) ha (fun i _ hi => by rw [z_pow_bit]; simp [Ne.symm hi]), z_pow_bit]; simpa using h hd; have h9 := h hd; rw [sm_one (a := a) ha (fun i _ hi => by rw [z_pow_bit]; simp [Ne.symm hi]), z_pow_bit] at h9; simpa using h9)) lM_X3_168 vM_X3_isEnoughForAll (by decide) hK hP [0, 1, 2, 3, 4, 5, 6, 7, 8, 9, 10] rfl ⟨rfl, rfl, rfl⟩ rfl hl.1 rfl (Nat.le_of_ble_eq_true rfl) dX3_isEnoughFor_4 (by decide) ?_
  show W _ _ _ _ _ _ _ _ _ _ _ _ _ _ _ (F0 m 7 ls [.int (bI g)])
  exact zr_z hC hr hlk (by first | rfl | omega) dX3_isEnoughFor_7
set_option maxHeartbeats 4000000 in
set_option maxRecDepth 100000 in
theorem c_X3_isDone {l : Launch} {D : va_G} {cI cZ cB cR : ClassId} {q t b b2 pp i1 i2 kept tn tw td : Nat} {tr : Int64} {pl pt pa mo dn ea bn stA k : Nat} {a : Nat} (ha : a < 31) (hdn : dn < 2 ^ 31) : mR l yX3_isDone cX3_isDone 2 (some .boolean) 1 21 D cI cZ cB cR [oK q t b b2 pp i1 i2 kept tn tw td tr, oP pp pl pt pa mo dn ea bn stA k] [.ref q, .int (nI a)] (some (.int (bI (dn.testBit a)))) := by
  refine mR_of rfl (Nat.le_of_ble_eq_true rfl) ?_
  intro p e s m args below meth c hC hr hlk hK hP ls hl
  have hl : lv_has ls 2 [(0, .ref q), (1, .int (nI a))] := hl
  obtain ⟨hx, hb, hml, hown, hts⟩ := id hC
  refine lv_aload_n hx hb dX3_isDone_0 rfl (lv_at hl 0 rfl) ?_
  refine z_get (k := 3) zcX3 hC hK hP 0 rfl (by decide) lF_X3_29 rfl dX3_isDone_1 ?_
  refine z_get (k := 4) zcX0 hC hK hP 1 rfl (by decide) lF_X3_133 rfl dX3_isDone_4 ?_
  refine lv_iload_n hx hb dX3_isDone_7 rfl (lv_at hl 1 rfl) ?_
  refine zRS (As := [.int (nI dn), .int (nI a)]) (rest := []) hC (c_X3_has (l := l) (b := dn) (i := a) (hb9 := by omega) (hi := by omega)) lM_X3_221 sM_X3_has (by decide) hK rfl hl.1 rfl (Nat.le_of_ble_eq_true rfl) dX3_isDone_8 (by decide) ?_
  show W _ _ _ _ _ _ _ _ _ _ _ _ _ _ _ (F0 m 11 ls [.int (bI (dn.testBit a))])
  exact zr_z hC hr hlk (by first | rfl | omega) dX3_isDone_11
set_option maxHeartbeats 4000000 in
set_option maxRecDepth 100000 in
theorem c_X3_wouldGoWell {l : Launch} {D : va_G} {cI cZ cB cR : ClassId} {q t b b2 pp i1 i2 kept tn tw td : Nat} {tr : Int64} {n lvA aiA laA ac woA drA : Nat} {r : Nat → Nat} {dr : Nat → Nat → Nat} {pl pt pa mo dn ea bn stA k : Nat} {la : Nat → Nat} {te : Nat → Nat} {a : Nat} {g : Bool} (hn : n ≤ 6) (hac : ac ≤ 5) (hla : ∀ i, i < n → la i < n) (hdr : ∀ i j, dr i j ≤ 9) (hte : ∀ i, te i ≤ 40) (ha : a < ac) (hg : g = true ↔ ∀ d, d < n → dr a (la d) = 0 ∨ la d = d ∧ te d = 0) : mR l yX3_wouldGoWell cX3_wouldGoWell 3 (some .boolean) 2 44 D cI cZ cB cR [oK q t b b2 pp i1 i2 kept tn tw td tr, oB b n lvA aiA laA ac woA drA, aR cR drA 5 r, aI cI (r 0) 6 (dr 0), aI cI (r 1) 6 (dr 1), aI cI (r 2) 6 (dr 2), aI cI (r 3) 6 (dr 3), aI cI (r 4) 6 (dr 4), oP pp pl pt pa mo dn ea bn stA k, aI cI pa 6 la, aI cI pt 6 te] [.ref q, .int (nI a)] (some (.int (bI g))) := by
  refine mR_of rfl (Nat.le_of_ble_eq_true rfl) ?_
  intro p e s m args below meth c hC hr hlk hK hP ls hl
  have hl : lv_has ls 3 [(0, .ref q), (1, .int (nI a))] := hl
  obtain ⟨hx, hb, hml, hown, hts⟩ := id hC
  refine lv_iconst (v := nI 0) hx hb dX3_wouldGoWell_0 (by decide) ?_
  refine lv_istore_n (lv' := [(2, .int (nI 0)), (0, .ref q), (1, .int (nI a))]) hx hb dX3_wouldGoWell_1 rfl hl (by decide) rfl (fun ls hl => ?_)
  have hL2 : ∀ (z2 : Nat) (d : Nat), n - d = z2 → d ≤ n → (∀ i, i < d → dr a (la i) = 0 ∨ la i = i ∧ te i = 0) → ∀ ls : Array Slot, lv_has ls 3 [(0, .ref q), (1, .int (nI a)), (2, .int (nI d))] → W p l e { frames := 2, cells := 0, slots := 0, locals := 44 } s m args below meth c s.heap [] 0 0 (MQ below (qR (some (.int (bI g)))) args s 0 0 (fun _ => False)) (F0 m 2 ls []) := by
    intro z2
    induction z2 using Nat.strongRecOn with
    | _ z2 ih2 =>
    intro d hz2 hd hall ls hl
    refine lv_iload_n hx hb dX3_wouldGoWell_2 rfl (lv_at hl 2 rfl) ?_
    refine lv_aload_n hx hb dX3_wouldGoWell_3 rfl (lv_at hl 0 rfl) ?_
    refine z_get (k := 1) zcX3 hC hK hP 0 rfl (by decide) lF_X3_19 rfl dX3_wouldGoWell_4 ?_
    refine z_get (k := 0) zcX1 hC hK hP 1 rfl (by decide) lF_X3_123 rfl dX3_wouldGoWell_7 ?_
    refine zc_ge (tgt := 55) hC dX3_wouldGoWell_10 (by decide) (by omega) (by omega) (fun c10 => ?_) (fun c10 => ?_)
    · skip
      refine lv_iconst (v := nI 1) hx hb dX3_wouldGoWell_55 (by decide) ?_
      refine z_top (y := bI true) rfl ?_
      exact zr_z hC hr hlk (by exact (hg.mpr (fun i hi => hall i (by omega))).symm) dX3_wouldGoWell_56
    · skip
      refine lv_aload_n hx hb dX3_wouldGoWell_13 rfl (lv_at hl 0 rfl) ?_
      refine lv_iload_n hx hb dX3_wouldGoWell_14 rfl (lv_at hl 2 rfl) ?_
      refine lv_iload_n hx hb dX3_wouldGoWell_15 rfl (lv_at hl 1 rfl) ?_
      refine zRV (As := [.int (nI d), .int (nI a)]) (b := q) (rest := []) hC (c_X3_dropsFrom (l := l) (hn := hn) (hac := hac) (ha := by omega) (hd := by omega) (hla := hla _ (by omega))) lM_X3_126 vM_X3_dropsFrom (by decide) hK hP [0, 1, 2, 3, 4, 5, 6, 7, 8, 9] rfl ⟨rfl, rfl, rfl⟩ rfl hl.1 rfl (Nat.le_of_ble_eq_true rfl) dX3_wouldGoWell_16 (by decide) ?_
      show W _ _ _ _ _ _ _ _ _ _ _ _ _ _ _ (F0 m 19 ls [.int (nI (dr a (la d)))])
      have b19 := hdr a (la d)
      refine z0_le (tgt := 49) hC dX3_wouldGoWell_19 (by decide) (by omega) (fun c19 => ?_) (fun c19 => ?_)
      · skip
        refine lv_iinc (v := nI (d + 1)) (lv' := [(2, .int (nI (d + 1))), (0, .ref q), (1, .int (nI a))]) hx hb dX3_wouldGoWell_49 hl (k := 2) rfl (z_inc d 1) (by decide) rfl (fun ls hl => ?_)
        refine lv_goto (tgt := 2) hx hb dX3_wouldGoWell_52 (by decide) ?_
        exact ih2 (n - (d + 1)) (by omega) (d + 1) rfl (by omega) (by intro i hi; rcases Nat.lt_succ_iff_lt_or_eq.mp hi with h | h; exact hall i h; subst h; first | exact Or.inl c19 | exact Or.inr ⟨c32, c44⟩) ls (lv_sub hl [1, 2, 0] rfl)
      · skip
        refine lv_aload_n hx hb dX3_wouldGoWell_22 rfl (lv_at hl 0 rfl) ?_
        refine z_get (k := 3) zcX3 hC hK hP 0 rfl (by decide) lF_X3_29 rfl dX3_wouldGoWell_23 ?_
        refine z_get (k := 2) zcX0 hC hK hP 8 rfl (by decide) lF_X3_88 rfl dX3_wouldGoWell_26 ?_
        refine lv_iload_n hx hb dX3_wouldGoWell_29 rfl (lv_at hl 2 rfl) ?_
        refine z_ald hC hK hP 9 rfl (by omega) (by decide) dX3_wouldGoWell_30 ?_
        refine lv_iload_n hx hb dX3_wouldGoWell_31 rfl (lv_at hl 2 rfl) ?_
        have b32 := hla d c10
        refine zc_ne (tgt := 47) hC dX3_wouldGoWell_32 (by decide) (by omega) (by omega) (fun c32 => ?_) (fun c32 => ?_)
        · skip
          refine lv_iconst (v := nI 0) hx hb dX3_wouldGoWell_47 (by decide) ?_
          refine z_top (y := bI false) rfl ?_
          exact zr_z hC hr hlk (by cases g with | false => rfl | true => exact absurd (hg.mp rfl d c10) (by rintro (h | ⟨h, h2⟩) <;> omega)) dX3_wouldGoWell_48
        · skip
          refine lv_aload_n hx hb dX3_wouldGoWell_35 rfl (lv_at hl 0 rfl) ?_
          refine z_get (k := 3) zcX3 hC hK hP 0 rfl (by decide) lF_X3_29 rfl dX3_wouldGoWell_36 ?_
          refine z_get (k := 1) zcX0 hC hK hP 8 rfl (by decide) lF_X3_85 rfl dX3_wouldGoWell_39 ?_
          refine lv_iload_n hx hb dX3_wouldGoWell_42 rfl (lv_at hl 2 rfl) ?_
          refine z_ald hC hK hP 10 rfl (by omega) (by decide) dX3_wouldGoWell_43 ?_
          have b44 := hte d
          refine z0_le (tgt := 49) hC dX3_wouldGoWell_44 (by decide) (by omega) (fun c44 => ?_) (fun c44 => ?_)
          · skip
            refine lv_iinc (v := nI (d + 1)) (lv' := [(2, .int (nI (d + 1))), (0, .ref q), (1, .int (nI a))]) hx hb dX3_wouldGoWell_49 hl (k := 2) rfl (z_inc d 1) (by decide) rfl (fun ls hl => ?_)
            refine lv_goto (tgt := 2) hx hb dX3_wouldGoWell_52 (by decide) ?_
            exact ih2 (n - (d + 1)) (by omega) (d + 1) rfl (by omega) (by intro i hi; rcases Nat.lt_succ_iff_lt_or_eq.mp hi with h | h; exact hall i h; subst h; first | exact Or.inl c19 | exact Or.inr ⟨c32, c44⟩) ls (lv_sub hl [1, 2, 0] rfl)
          · skip
            refine lv_iconst (v := nI 0) hx hb dX3_wouldGoWell_47 (by decide) ?_
            refine z_top (y := bI false) rfl ?_
            exact zr_z hC hr hlk (by cases g with | false => rfl | true => exact absurd (hg.mp rfl d c10) (by rintro (h | ⟨h, h2⟩) <;> omega)) dX3_wouldGoWell_48
  exact hL2 _ 0 rfl (by omega) (by intro i hi; omega) ls (lv_sub hl [1, 2, 0] rfl)
set_option maxHeartbeats 4000000 in
set_option maxRecDepth 100000 in
theorem c_X3_actsThatCan {l : Launch} {D : va_G} {cI cZ cB cR : ClassId} {q t b b2 pp i1 i2 kept tn tw td : Nat} {tr : Int64} {n lvA aiA laA ac woA drA : Nat} {r : Nat → Nat} {dr : Nat → Nat → Nat} {pl pt pa mo dn ea bn stA k : Nat} {la : Nat → Nat} {lv : Nat → Nat} {E : Nat → Bool} (hn : n ≤ 6) (hac : ac ≤ 5) (hla : ∀ i, i < n → la i < n) (hdr : ∀ i j, dr i j ≤ 9) (hlv : ∀ i, lv i ≤ 40) (hE : ∀ a, a < ac → (E a = true ↔ ∀ d, d < n → dr a (la d) ≤ lv d)) (hdn : dn < 32)  : mR l yX3_actsThatCan cX3_actsThatCan 3 (some .int) 4 89 D cI cZ cB cR [oK q t b b2 pp i1 i2 kept tn tw td tr, oB b n lvA aiA laA ac woA drA, aR cR drA 5 r, aI cI (r 0) 6 (dr 0), aI cI (r 1) 6 (dr 1), aI cI (r 2) 6 (dr 2), aI cI (r 3) 6 (dr 3), aI cI (r 4) 6 (dr 4), oP pp pl pt pa mo dn ea bn stA k, aI cI pa 6 la, aI cI pl 6 lv] [.ref q] (some (.int (nI (orr (fun a => !dn.testBit a && E a) ac)))) := by
  refine mR_of rfl (Nat.le_of_ble_eq_true rfl) ?_
  intro p e s m args below meth c hC hr hlk hK hP ls hl
  have hl : lv_has ls 3 [(0, .ref q)] := hl
  obtain ⟨hx, hb, hml, hown, hts⟩ := id hC
  refine lv_iconst (v := nI 0) hx hb dX3_actsThatCan_0 (by decide) ?_
  refine lv_istore_n (lv' := [(1, .int (nI 0)), (0, .ref q)]) hx hb dX3_actsThatCan_1 rfl hl (by decide) rfl (fun ls hl => ?_)
  refine lv_iconst (v := nI 0) hx hb dX3_actsThatCan_2 (by decide) ?_
  refine lv_istore_n (lv' := [(2, .int (nI 0)), (1, .int (nI 0)), (0, .ref q)]) hx hb dX3_actsThatCan_3 rfl hl (by decide) rfl (fun ls hl => ?_)
  have hL4 : ∀ (z4 : Nat) (a : Nat) (x : Nat), ac - a = z4 → a ≤ ac → x = orr (fun a => !dn.testBit a && E a) a → ∀ ls : Array Slot, lv_has ls 3 [(0, .ref q), (1, .int (nI x)), (2, .int (nI a))] → W p l e { frames := 4, cells := 0, slots := 0, locals := 89 } s m args below meth c s.heap [] 0 0 (MQ below (qR (some (.int (nI (orr (fun a => !dn.testBit a && E a) ac))))) args s 0 0 (fun _ => False)) (F0 m 4 ls []) := by
    intro z4
    induction z4 using Nat.strongRecOn with
    | _ z4 ih4 =>
    intro a x hz4 ha hx9 ls hl
    refine lv_iload_n hx hb dX3_actsThatCan_4 rfl (lv_at hl 2 rfl) ?_
    refine lv_aload_n hx hb dX3_actsThatCan_5 rfl (lv_at hl 0 rfl) ?_
    refine z_get (k := 1) zcX3 hC hK hP 0 rfl (by decide) lF_X3_19 rfl dX3_actsThatCan_6 ?_
    refine z_get (k := 4) zcX1 hC hK hP 1 rfl (by decide) lF_X3_162 rfl dX3_actsThatCan_9 ?_
    refine zc_ge (tgt := 43) hC dX3_actsThatCan_12 (by decide) (by omega) (by omega) (fun c12 => ?_) (fun c12 => ?_)
    · skip
      refine lv_iload_n hx hb dX3_actsThatCan_43 rfl (lv_at hl 1 rfl) ?_
      exact zr_i hC hr hlk (by rw [hx9, show a = ac by omega]) dX3_actsThatCan_44
    · skip
      refine lv_aload_n hx hb dX3_actsThatCan_15 rfl (lv_at hl 0 rfl) ?_
      refine lv_iload_n hx hb dX3_actsThatCan_16 rfl (lv_at hl 2 rfl) ?_
      refine zRV (As := [.int (nI a)]) (b := q) (rest := []) hC (c_X3_isDone (l := l) (a := a) (ha := by omega) (hdn := by omega)) lM_X3_104 vM_X3_isDone (by decide) hK hP [0, 8] rfl ⟨rfl, rfl, rfl⟩ rfl hl.1 rfl (Nat.le_of_ble_eq_true rfl) dX3_actsThatCan_17 (by decide) ?_
      show W _ _ _ _ _ _ _ _ _ _ _ _ _ _ _ (F0 m 20 ls [.int (bI (dn.testBit a))])
      refine zb_ne (tgt := 37) hC dX3_actsThatCan_20 (by decide) (fun c20 => ?_) (fun c20 => ?_)
      · skip
        refine lv_iinc (v := nI (a + 1)) (lv' := [(2, .int (nI (a + 1))), (0, .ref q), (1, .int (nI x))]) hx hb dX3_actsThatCan_37 hl (k := 2) rfl (z_inc a 1) (by decide) rfl (fun ls hl => ?_)
        refine lv_goto (tgt := 4) hx hb dX3_actsThatCan_40 (by decide) ?_
        exact ih4 (ac - (a + 1)) (by omega) (a + 1) x rfl (by omega) (by rw [hx9, orr_s]; first | simp [c20, c28] | simp [c20]) ls (lv_sub hl [1, 2, 0] rfl)
      · skip
        refine lv_aload_n hx hb dX3_actsThatCan_23 rfl (lv_at hl 0 rfl) ?_
        refine lv_iload_n hx hb dX3_actsThatCan_24 rfl (lv_at hl 2 rfl) ?_
        refine zRV (As := [.int (nI a)]) (b := q) (rest := []) hC (c_X3_isEnoughFor (l := l) (g := E a) (hn := hn) (hac := hac) (hla := hla) (hdr := hdr) (hlv := hlv) (ha := by omega) (hg := hE _ (by omega))) lM_X3_114 vM_X3_isEnoughFor (by decide) hK hP [0, 1, 2, 3, 4, 5, 6, 7, 8, 9, 10] rfl ⟨rfl, rfl, rfl⟩ rfl hl.1 rfl (Nat.le_of_ble_eq_true rfl) dX3_actsThatCan_25 (by decide) ?_
        show W _ _ _ _ _ _ _ _ _ _ _ _ _ _ _ (F0 m 28 ls [.int (bI (E a))])
        refine zb_eq (tgt := 37) hC dX3_actsThatCan_28 (by decide) (fun c28 => ?_) (fun c28 => ?_)
        · skip
          refine lv_iinc (v := nI (a + 1)) (lv' := [(2, .int (nI (a + 1))), (0, .ref q), (1, .int (nI x))]) hx hb dX3_actsThatCan_37 hl (k := 2) rfl (z_inc a 1) (by decide) rfl (fun ls hl => ?_)
          refine lv_goto (tgt := 4) hx hb dX3_actsThatCan_40 (by decide) ?_
          exact ih4 (ac - (a + 1)) (by omega) (a + 1) x rfl (by omega) (by rw [hx9, orr_s]; first | simp [c20, c28] | simp [c20]) ls (lv_sub hl [1, 2, 0] rfl)
        · skip
          refine lv_iload_n hx hb dX3_actsThatCan_31 rfl (lv_at hl 1 rfl) ?_
          refine lv_iconst (v := nI 1) hx hb dX3_actsThatCan_32 (by decide) ?_
          refine lv_iload_n hx hb dX3_actsThatCan_33 rfl (lv_at hl 2 rfl) ?_
          refine zi_shl1 hC dX3_actsThatCan_34 (by omega) ?_
          refine zi_or hC dX3_actsThatCan_35 ?_
          refine lv_istore_n (lv' := [(1, .int (nI (x ||| (2 ^ a)))), (0, .ref q), (2, .int (nI a))]) hx hb dX3_actsThatCan_36 rfl hl (by decide) rfl (fun ls hl => ?_)
          refine lv_iinc (v := nI (a + 1)) (lv' := [(2, .int (nI (a + 1))), (1, .int (nI (x ||| (2 ^ a)))), (0, .ref q)]) hx hb dX3_actsThatCan_37 hl (k := 2) rfl (z_inc a 1) (by decide) rfl (fun ls hl => ?_)
          refine lv_goto (tgt := 4) hx hb dX3_actsThatCan_40 (by decide) ?_
          exact ih4 (ac - (a + 1)) (by omega) (a + 1) (x ||| (2 ^ a)) rfl (by omega) (by rw [hx9, orr_s]; first | simp [c20, c28] | simp [c20]) ls (lv_sub hl [2, 1, 0] rfl)
  exact hL4 _ 0 0 rfl (by omega) (by rfl) ls (lv_sub hl [2, 1, 0] rfl)
set_option maxHeartbeats 4000000 in
set_option maxRecDepth 100000 in
theorem c_X3_span {l : Launch} {D : va_G} {cI cZ cB cR : ClassId} {q t b b2 pp i1 i2 kept tn tw td : Nat} {tr : Int64} {n lvA aiA laA ac woA drA : Nat} {pl pt pa mo dn ea bn stA k : Nat} {lv : Nat → Nat} {ai : Nat → Nat} {d : Nat} (hn : n ≤ 6) (hd : d < n) (hlv : ∀ i, lv i ≤ 40) (hai : ∀ i, ai i ≤ 5) : mR l yX3_span cX3_span 4 (some .int) 0 0 D cI cZ cB cR [oK q t b b2 pp i1 i2 kept tn tw td tr, oB b n lvA aiA laA ac woA drA, aI cI aiA 6 ai, oP pp pl pt pa mo dn ea bn stA k, aI cI pl 6 lv] [.ref q, .int (nI d)] (some (.int (spanF (lv d) (ai d)))) := by
  refine mR_of rfl (Nat.le_of_ble_eq_true rfl) ?_
  intro p e s m args below meth c hC hr hlk hK hP ls hl
  have hl : lv_has ls 4 [(0, .ref q), (1, .int (nI d))] := hl
  obtain ⟨hx, hb, hml, hown, hts⟩ := id hC
  refine lv_aload_n hx hb dX3_span_0 rfl (lv_at hl 0 rfl) ?_
  refine z_get (k := 3) zcX3 hC hK hP 0 rfl (by decide) lF_X3_29 rfl dX3_span_1 ?_
  refine z_get (k := 0) zcX0 hC hK hP 3 rfl (by decide) lF_X3_79 rfl dX3_span_4 ?_
  refine lv_iload_n hx hb dX3_span_7 rfl (lv_at hl 1 rfl) ?_
  refine z_ald hC hK hP 4 rfl (by omega) (by decide) dX3_span_8 ?_
  have b8 := hlv d
  refine lv_istore_n (lv' := [(2, .int (nI (lv d))), (0, .ref q), (1, .int (nI d))]) hx hb dX3_span_9 rfl hl (by decide) rfl (fun ls hl => ?_)
  refine lv_aload_n hx hb dX3_span_10 rfl (lv_at hl 1 rfl) ?_
  refine z_get (k := 1) zcX3 hC hK hP 0 rfl (by decide) lF_X3_19 rfl dX3_span_11 ?_
  refine z_get (k := 2) zcX1 hC hK hP 1 rfl (by decide) lF_X3_82 rfl dX3_span_14 ?_
  refine lv_iload_n hx hb dX3_span_17 rfl (lv_at hl 2 rfl) ?_
  refine z_ald hC hK hP 2 rfl (by omega) (by decide) dX3_span_18 ?_
  have b18 := hai d
  refine lv_istore_n (lv' := [(3, .int (nI (ai d))), (2, .int (nI (lv d))), (0, .ref q), (1, .int (nI d))]) hx hb dX3_span_19 rfl hl (by decide) rfl (fun ls hl => ?_)
  refine lv_iload_n hx hb dX3_span_20 rfl (lv_at hl 1 rfl) ?_
  refine z0_ne (tgt := 26) hC dX3_span_21 (by decide) (by omega) (fun c21 => ?_) (fun c21 => ?_)
  · skip
    refine lv_iload_n hx hb dX3_span_26 rfl (lv_at hl 0 rfl) ?_
    refine z0_le (tgt := 40) hC dX3_span_27 (by decide) (by omega) (fun c27 => ?_) (fun c27 => ?_)
    · skip
      refine lv_bipush (v := (-9)) hx hb dX3_span_40 (by decide) ?_
      exact zr_i hC hr hlk (by unfold spanF; rw [if_neg (by omega)]; first | rw [if_neg (by omega)] | (rw [if_pos c27])) dX3_span_42
    · skip
      refine lv_iload_n hx hb dX3_span_30 rfl (lv_at hl 1 rfl) ?_
      refine lv_iload_n hx hb dX3_span_31 rfl (lv_at hl 0 rfl) ?_
      refine zi_add hC dX3_span_32 ?_
      refine lv_iconst (v := nI 1) hx hb dX3_span_33 (by decide) ?_
      refine zi_sub hC dX3_span_34 (by omega) ?_
      refine lv_iload_n hx hb dX3_span_35 rfl (lv_at hl 0 rfl) ?_
      refine zi_div hC dX3_span_36 (by omega) (by omega) (by omega) ?_
      refine lv_goto (tgt := 42) hx hb dX3_span_37 (by decide) ?_
      exact zr_i hC hr hlk (by unfold spanF; rw [if_neg (by omega)]; first | rw [if_neg (by omega)] | (rw [if_pos c27])) dX3_span_42
  · skip
    refine lv_iconst (v := nI 0) hx hb dX3_span_24 (by decide) ?_
    exact zr_i hC hr hlk (by unfold spanF; rw [if_pos c21]; rfl) dX3_span_25
set_option maxHeartbeats 4000000 in
set_option maxRecDepth 100000 in
theorem c_X3_lastMonth {l : Launch} {D : va_G} {cI cZ cB cR : ClassId} {q t b b2 pp i1 i2 kept tn tw td : Nat} {tr : Int64} {n lvA aiA laA ac woA drA : Nat} {r : Nat → Nat} {dr : Nat → Nat → Nat} {pl pt pa mo dn ea bn stA k : Nat} {la : Nat → Nat} {lv : Nat → Nat} {ai : Nat → Nat} {a : Nat} {E : Nat → Bool} (hn : n ≤ 6) (hac : ac ≤ 5) (hla : ∀ i, i < n → la i < n) (hdr : ∀ i j, dr i j ≤ 9) (hlv : ∀ i, lv i ≤ 40) (hai : ∀ i, ai i ≤ 5) (ha : a < ac) (hE : ∀ a, a < ac → (E a = true ↔ ∀ d, d < n → dr a (la d) ≤ lv d)) (hdn : dn < 32)  : mR l yX3_lastMonth cX3_lastMonth 6 (some .int) 4 89 D cI cZ cB cR [oK q t b b2 pp i1 i2 kept tn tw td tr, oB b n lvA aiA laA ac woA drA, aR cR drA 5 r, aI cI (r 0) 6 (dr 0), aI cI (r 1) 6 (dr 1), aI cI (r 2) 6 (dr 2), aI cI (r 3) 6 (dr 3), aI cI (r 4) 6 (dr 4), oP pp pl pt pa mo dn ea bn stA k, aI cI pa 6 la, aI cI pl 6 lv, aI cI aiA 6 ai] [.ref q, .int (nI a)] (some (.int (if dn.testBit a || !E a then -9 else nI (lmin lv ai (fun d => dr a (la d)) n)))) := by
  refine mR_of rfl (Nat.le_of_ble_eq_true rfl) ?_
  intro p e s m args below meth c hC hr hlk hK hP ls hl
  have hl : lv_has ls 6 [(0, .ref q), (1, .int (nI a))] := hl
  obtain ⟨hx, hb, hml, hown, hts⟩ := id hC
  refine lv_aload_n hx hb dX3_lastMonth_0 rfl (lv_at hl 0 rfl) ?_
  refine lv_iload_n hx hb dX3_lastMonth_1 rfl (lv_at hl 1 rfl) ?_
  refine zRV (As := [.int (nI a)]) (b := q) (rest := []) hC (c_X3_isDone (l := l) (a := a) (ha := by omega) (hdn := by omega)) lM_X3_104 vM_X3_isDone (by decide) hK hP [0, 8] rfl ⟨rfl, rfl, rfl⟩ rfl hl.1 rfl (Nat.le_of_ble_eq_true rfl) dX3_lastMonth_2 (by decide) ?_
  show W _ _ _ _ _ _ _ _ _ _ _ _ _ _ _ (F0 m 5 ls [.int (bI (dn.testBit a))])
  refine zb_ne (tgt := 16) hC dX3_lastMonth_5 (by decide) (fun c5 => ?_) (fun c5 => ?_)
  · skip
    refine lv_bipush (v := (-9)) hx hb dX3_lastMonth_16 (by decide) ?_
    exact zr_i hC hr hlk (by first | simp [c13] | simp [c5]) dX3_lastMonth_18
  · skip
    refine lv_aload_n hx hb dX3_lastMonth_8 rfl (lv_at hl 0 rfl) ?_
    refine lv_iload_n hx hb dX3_lastMonth_9 rfl (lv_at hl 1 rfl) ?_
    refine zRV (As := [.int (nI a)]) (b := q) (rest := []) hC (c_X3_isEnoughFor (l := l) (g := E a) (hn := hn) (hac := hac) (hla := hla) (hdr := hdr) (hlv := hlv) (ha := by omega) (hg := hE _ (by omega))) lM_X3_114 vM_X3_isEnoughFor (by decide) hK hP [0, 1, 2, 3, 4, 5, 6, 7, 8, 9, 10] rfl ⟨rfl, rfl, rfl⟩ rfl hl.1 rfl (Nat.le_of_ble_eq_true rfl) dX3_lastMonth_10 (by decide) ?_
    show W _ _ _ _ _ _ _ _ _ _ _ _ _ _ _ (F0 m 13 ls [.int (bI (E a))])
    refine zb_ne (tgt := 19) hC dX3_lastMonth_13 (by decide) (fun c13 => ?_) (fun c13 => ?_)
    · skip
      refine lv_bipush (v := nI 60) hx hb dX3_lastMonth_19 (by decide) ?_
      refine lv_istore_n (lv' := [(2, .int (nI 60)), (0, .ref q), (1, .int (nI a))]) hx hb dX3_lastMonth_21 rfl hl (by decide) rfl (fun ls hl => ?_)
      refine lv_iconst (v := nI 0) hx hb dX3_lastMonth_22 (by decide) ?_
      refine lv_istore_n (lv' := [(3, .int (nI 0)), (2, .int (nI 60)), (0, .ref q), (1, .int (nI a))]) hx hb dX3_lastMonth_23 rfl hl (by decide) rfl (fun ls hl => ?_)
      have hL24 : ∀ (z24 : Nat) (d : Nat) (x : Nat), n - d = z24 → d ≤ n → x = lmin lv ai (fun d => dr a (la d)) d → x ≤ 60 → ∀ ls : Array Slot, lv_has ls 6 [(0, .ref q), (1, .int (nI a)), (2, .int (nI x)), (3, .int (nI d))] → W p l e { frames := 4, cells := 0, slots := 0, locals := 89 } s m args below meth c s.heap [] 0 0 (MQ below (qR (some (.int (if dn.testBit a || !E a then -9 else nI (lmin lv ai (fun d => dr a (la d)) n))))) args s 0 0 (fun _ => False)) (F0 m 24 ls []) := by
        intro z24
        induction z24 using Nat.strongRecOn with
        | _ z24 ih24 =>
        intro d x hz24 hd hx9 hxb ls hl
        refine lv_iload_n hx hb dX3_lastMonth_24 rfl (lv_at hl 3 rfl) ?_
        refine lv_aload_n hx hb dX3_lastMonth_25 rfl (lv_at hl 0 rfl) ?_
        refine z_get (k := 1) zcX3 hC hK hP 0 rfl (by decide) lF_X3_19 rfl dX3_lastMonth_26 ?_
        refine z_get (k := 0) zcX1 hC hK hP 1 rfl (by decide) lF_X3_123 rfl dX3_lastMonth_29 ?_
        refine zc_ge (tgt := 90) hC dX3_lastMonth_32 (by decide) (by omega) (by omega) (fun c32 => ?_) (fun c32 => ?_)
        · skip
          refine lv_iload_n hx hb dX3_lastMonth_90 rfl (lv_at hl 2 rfl) ?_
          exact zr_i hC hr hlk (by rw [hx9, show d = n by omega]; simp [c5, c13]) dX3_lastMonth_91
        · skip
          refine lv_aload_n hx hb dX3_lastMonth_35 rfl (lv_at hl 0 rfl) ?_
          refine lv_iload_n hx hb dX3_lastMonth_36 rfl (lv_at hl 3 rfl) ?_
          refine lv_iload_n hx hb dX3_lastMonth_37 rfl (lv_at hl 1 rfl) ?_
          refine zRV (As := [.int (nI d), .int (nI a)]) (b := q) (rest := []) hC (c_X3_dropsFrom (l := l) (hn := hn) (hac := hac) (ha := by omega) (hd := by omega) (hla := hla _ (by omega))) lM_X3_126 vM_X3_dropsFrom (by decide) hK hP [0, 1, 2, 3, 4, 5, 6, 7, 8, 9] rfl ⟨rfl, rfl, rfl⟩ rfl hl.1 rfl (Nat.le_of_ble_eq_true rfl) dX3_lastMonth_38 (by decide) ?_
          show W _ _ _ _ _ _ _ _ _ _ _ _ _ _ _ (F0 m 41 ls [.int (nI (dr a (la d)))])
          refine lv_istore (lv' := [(4, .int (nI (dr a (la d)))), (0, .ref q), (1, .int (nI a)), (2, .int (nI x)), (3, .int (nI d))]) hx hb dX3_lastMonth_41 hl (by decide) rfl (fun ls hl => ?_)
          refine lv_aload_n hx hb dX3_lastMonth_43 rfl (lv_at hl 1 rfl) ?_
          refine z_get (k := 1) zcX3 hC hK hP 0 rfl (by decide) lF_X3_19 rfl dX3_lastMonth_44 ?_
          refine z_get (k := 2) zcX1 hC hK hP 1 rfl (by decide) lF_X3_82 rfl dX3_lastMonth_47 ?_
          refine lv_iload_n hx hb dX3_lastMonth_50 rfl (lv_at hl 4 rfl) ?_
          refine z_ald hC hK hP 11 rfl (by omega) (by decide) dX3_lastMonth_51 ?_
          have b51 := hai d
          refine lv_istore (lv' := [(5, .int (nI (ai d))), (4, .int (nI (dr a (la d)))), (0, .ref q), (1, .int (nI a)), (2, .int (nI x)), (3, .int (nI d))]) hx hb dX3_lastMonth_52 hl (by decide) rfl (fun ls hl => ?_)
          refine lv_iload hx hb dX3_lastMonth_54 (lv_at hl 1 rfl) ?_
          have b56 := hdr a (la d)
          refine z0_le (tgt := 84) hC dX3_lastMonth_56 (by decide) (by omega) (fun c56 => ?_) (fun c56 => ?_)
          · skip
            refine lv_iinc (v := nI (d + 1)) (lv' := [(3, .int (nI (d + 1))), (5, .int (nI (ai d))), (4, .int (nI (dr a (la d)))), (0, .ref q), (1, .int (nI a)), (2, .int (nI x))]) hx hb dX3_lastMonth_84 hl (k := 5) rfl (z_inc d 1) (by decide) rfl (fun ls hl => ?_)
            refine lv_goto (tgt := 24) hx hb dX3_lastMonth_87 (by decide) ?_
            exact ih24 (n - (d + 1)) (by omega) (d + 1) x rfl (by omega) (by rw [hx9]; first | exact (if_pos ⟨c56, c61⟩).symm | exact (if_neg (by rintro ⟨h1, h2⟩; have h1 : 0 < dr a (la d) := h1; omega)).symm) (by omega) ls (lv_sub hl [3, 4, 5, 0] rfl)
          · skip
            refine lv_iload hx hb dX3_lastMonth_59 (lv_at hl 0 rfl) ?_
            refine z0_le (tgt := 84) hC dX3_lastMonth_61 (by decide) (by omega) (fun c61 => ?_) (fun c61 => ?_)
            · skip
              refine lv_iinc (v := nI (d + 1)) (lv' := [(3, .int (nI (d + 1))), (5, .int (nI (ai d))), (4, .int (nI (dr a (la d)))), (0, .ref q), (1, .int (nI a)), (2, .int (nI x))]) hx hb dX3_lastMonth_84 hl (k := 5) rfl (z_inc d 1) (by decide) rfl (fun ls hl => ?_)
              refine lv_goto (tgt := 24) hx hb dX3_lastMonth_87 (by decide) ?_
              exact ih24 (n - (d + 1)) (by omega) (d + 1) x rfl (by omega) (by rw [hx9]; first | exact (if_pos ⟨c56, c61⟩).symm | exact (if_neg (by rintro ⟨h1, h2⟩; have h1 : 0 < dr a (la d) := h1; omega)).symm) (by omega) ls (lv_sub hl [3, 4, 5, 0] rfl)
            · skip
              refine lv_iload_n hx hb dX3_lastMonth_64 rfl (lv_at hl 4 rfl) ?_
              refine lv_aload_n hx hb dX3_lastMonth_65 rfl (lv_at hl 2 rfl) ?_
              refine z_get (k := 3) zcX3 hC hK hP 0 rfl (by decide) lF_X3_29 rfl dX3_lastMonth_66 ?_
              refine z_get (k := 0) zcX0 hC hK hP 8 rfl (by decide) lF_X3_79 rfl dX3_lastMonth_69 ?_
              refine lv_iload_n hx hb dX3_lastMonth_72 rfl (lv_at hl 5 rfl) ?_
              refine z_ald hC hK hP 10 rfl (by omega) (by decide) dX3_lastMonth_73 ?_
              have b73 := hlv d
              refine lv_iload hx hb dX3_lastMonth_74 (lv_at hl 1 rfl) ?_
              have b76 := (hE a ha).mp c13 d c32
              refine zi_sub hC dX3_lastMonth_76 (by omega) ?_
              refine lv_iload hx hb dX3_lastMonth_77 (lv_at hl 0 rfl) ?_
              refine zi_div hC dX3_lastMonth_79 (by omega) (by omega) (by omega) ?_
              refine va_mmin hx hb (hml.trans hl.1.symm) hown (hts _ lX_X3_225) (hts _ sX_min) (hts _ iX_Math) (hts _ kX_min) (by decide) (by decide) (by decide) (by decide) dX3_lastMonth_80 ?_
              have b83 := Nat.div_le_self (lv d - dr a (la d)) (ai d)
              refine z_top (show (if nI (((lv d) - (dr a (la d))) / (ai d)) < nI x then nI (((lv d) - (dr a (la d))) / (ai d)) else nI x) = nI (min x ((lv d - dr a (la d)) / ai d)) from by exact z_min (by omega) (by omega)) ?_
              refine lv_istore_n (lv' := [(2, .int (nI (min x ((lv d - dr a (la d)) / ai d)))), (5, .int (nI (ai d))), (4, .int (nI (dr a (la d)))), (0, .ref q), (1, .int (nI a)), (3, .int (nI d))]) hx hb dX3_lastMonth_83 rfl hl (by decide) rfl (fun ls hl => ?_)
              refine lv_iinc (v := nI (d + 1)) (lv' := [(3, .int (nI (d + 1))), (2, .int (nI (min x ((lv d - dr a (la d)) / ai d)))), (5, .int (nI (ai d))), (4, .int (nI (dr a (la d)))), (0, .ref q), (1, .int (nI a))]) hx hb dX3_lastMonth_84 hl (k := 5) rfl (z_inc d 1) (by decide) rfl (fun ls hl => ?_)
              refine lv_goto (tgt := 24) hx hb dX3_lastMonth_87 (by decide) ?_
              exact ih24 (n - (d + 1)) (by omega) (d + 1) (min x ((lv d - dr a (la d)) / ai d)) rfl (by omega) (by rw [hx9]; first | exact (if_pos ⟨c56, c61⟩).symm | exact (if_neg (by rintro ⟨h1, h2⟩; have h1 : 0 < dr a (la d) := h1; omega)).symm) (by omega) ls (lv_sub hl [4, 5, 1, 0] rfl)
      exact hL24 _ 0 60 rfl (by omega) (by rfl) (by omega) ls (lv_sub hl [2, 3, 1, 0] rfl)
    · skip
      refine lv_bipush (v := (-9)) hx hb dX3_lastMonth_16 (by decide) ?_
      exact zr_i hC hr hlk (by first | simp [c13] | simp [c5]) dX3_lastMonth_18
set_option maxHeartbeats 4000000 in
set_option maxRecDepth 100000 in
theorem c_X3_ringOf {l : Launch} {D : va_G} {cI cZ cB cR : ClassId} {q t b b2 pp i1 i2 kept tn tw td : Nat} {tr : Int64} {n lvA aiA laA ac woA drA : Nat} {pl pt pa mo dn ea bn stA k : Nat} {la : Nat → Nat} {d0 : Nat} (hn : n ≤ 6) (hla : ∀ i, i < n → la i < n) (hd : d0 < n) : mR l yX3_ringOf cX3_ringOf 5 (some .int) 1 21 D cI cZ cB cR [oK q t b b2 pp i1 i2 kept tn tw td tr, oB b n lvA aiA laA ac woA drA, oP pp pl pt pa mo dn ea bn stA k, aI cI pa 6 la] [.ref q, .int (nI d0)] (some (.int (nI (rg la n d0 0)))) := by
  refine mR_of rfl (Nat.le_of_ble_eq_true rfl) ?_
  intro p e s m args below meth c hC hr hlk hK hP ls hl
  have hl : lv_has ls 5 [(0, .ref q), (1, .int (nI d0))] := hl
  obtain ⟨hx, hb, hml, hown, hts⟩ := id hC
  refine lv_iconst (v := nI 0) hx hb dX3_ringOf_0 (by decide) ?_
  refine lv_istore_n (lv' := [(2, .int (nI 0)), (0, .ref q), (1, .int (nI d0))]) hx hb dX3_ringOf_1 rfl hl (by decide) rfl (fun ls hl => ?_)
  refine lv_iload_n hx hb dX3_ringOf_2 rfl (lv_at hl 2 rfl) ?_
  refine lv_istore_n (lv' := [(3, .int (nI d0)), (2, .int (nI 0)), (0, .ref q), (1, .int (nI d0))]) hx hb dX3_ringOf_3 rfl hl (by decide) rfl (fun ls hl => ?_)
  refine lv_iconst (v := nI 0) hx hb dX3_ringOf_4 (by decide) ?_
  refine lv_istore (lv' := [(4, .int (nI 0)), (3, .int (nI d0)), (2, .int (nI 0)), (0, .ref q), (1, .int (nI d0))]) hx hb dX3_ringOf_5 hl (by decide) rfl (fun ls hl => ?_)
  have hL7 : ∀ (z7 : Nat) (i : Nat) (e9 : Nat) (x : Nat), n - i = z7 → i ≤ n → e9 < n → rg la (n - i) e9 x = rg la n d0 0 → ∀ ls : Array Slot, lv_has ls 5 [(0, .ref q), (1, .int (nI d0)), (2, .int (nI x)), (3, .int (nI e9)), (4, .int (nI i))] → W p l e { frames := 1, cells := 0, slots := 0, locals := 21 } s m args below meth c s.heap [] 0 0 (MQ below (qR (some (.int (nI (rg la n d0 0))))) args s 0 0 (fun _ => False)) (F0 m 7 ls []) := by
    intro z7
    induction z7 using Nat.strongRecOn with
    | _ z7 ih7 =>
    intro i e9 x hz7 hi he hq9 ls hl
    refine lv_iload hx hb dX3_ringOf_7 (lv_at hl 4 rfl) ?_
    refine lv_aload_n hx hb dX3_ringOf_9 rfl (lv_at hl 0 rfl) ?_
    refine z_get (k := 1) zcX3 hC hK hP 0 rfl (by decide) lF_X3_19 rfl dX3_ringOf_10 ?_
    refine z_get (k := 0) zcX1 hC hK hP 1 rfl (by decide) lF_X3_123 rfl dX3_ringOf_13 ?_
    refine zc_ge (tgt := 49) hC dX3_ringOf_16 (by decide) (by omega) (by omega) (fun c16 => ?_) (fun c16 => ?_)
    · skip
      refine lv_iload_n hx hb dX3_ringOf_49 rfl (lv_at hl 2 rfl) ?_
      exact zr_i hC hr hlk (by rw [← hq9, show n - i = 0 by omega]; rfl) dX3_ringOf_50
    · skip
      refine lv_aload_n hx hb dX3_ringOf_19 rfl (lv_at hl 0 rfl) ?_
      refine lv_iload_n hx hb dX3_ringOf_20 rfl (lv_at hl 3 rfl) ?_
      refine zRV (As := [.int (nI e9)]) (b := q) (rest := []) hC (c_X3_isDecanter (l := l) (g := true) (hn := by omega) (hg := ⟨fun _ => vp_in_nI he (by omega), fun _ => rfl⟩)) lM_X3_76 vM_X3_isDecanter (by decide) hK hP [0, 1] rfl ⟨rfl, rfl, rfl⟩ rfl hl.1 rfl (Nat.le_of_ble_eq_true rfl) dX3_ringOf_21 (by decide) ?_
      show W _ _ _ _ _ _ _ _ _ _ _ _ _ _ _ (F0 m 24 ls [.int (bI true)])
      refine zb_eq (tgt := 49) hC dX3_ringOf_24 (by decide) (fun c24 => by exfalso; cases c24) (fun c24 => ?_)
      refine lv_iload_n hx hb dX3_ringOf_27 rfl (lv_at hl 2 rfl) ?_
      refine lv_iconst (v := nI 1) hx hb dX3_ringOf_28 (by decide) ?_
      refine lv_iload_n hx hb dX3_ringOf_29 rfl (lv_at hl 3 rfl) ?_
      refine zi_shl1 hC dX3_ringOf_30 (by omega) ?_
      refine zi_or hC dX3_ringOf_31 ?_
      refine lv_istore_n (lv' := [(2, .int (nI (x ||| (2 ^ e9)))), (0, .ref q), (1, .int (nI d0)), (3, .int (nI e9)), (4, .int (nI i))]) hx hb dX3_ringOf_32 rfl hl (by decide) rfl (fun ls hl => ?_)
      refine lv_aload_n hx hb dX3_ringOf_33 rfl (lv_at hl 1 rfl) ?_
      refine z_get (k := 3) zcX3 hC hK hP 0 rfl (by decide) lF_X3_29 rfl dX3_ringOf_34 ?_
      refine z_get (k := 2) zcX0 hC hK hP 2 rfl (by decide) lF_X3_88 rfl dX3_ringOf_37 ?_
      refine lv_iload_n hx hb dX3_ringOf_40 rfl (lv_at hl 3 rfl) ?_
      refine z_ald hC hK hP 3 rfl (by omega) (by decide) dX3_ringOf_41 ?_
      refine lv_istore_n (lv' := [(3, .int (nI (la e9))), (2, .int (nI (x ||| (2 ^ e9)))), (0, .ref q), (1, .int (nI d0)), (4, .int (nI i))]) hx hb dX3_ringOf_42 rfl hl (by decide) rfl (fun ls hl => ?_)
      refine lv_iinc (v := nI (i + 1)) (lv' := [(4, .int (nI (i + 1))), (3, .int (nI (la e9))), (2, .int (nI (x ||| (2 ^ e9)))), (0, .ref q), (1, .int (nI d0))]) hx hb dX3_ringOf_43 hl (k := 4) rfl (z_inc i 1) (by decide) rfl (fun ls hl => ?_)
      refine lv_goto (tgt := 7) hx hb dX3_ringOf_46 (by decide) ?_
      exact ih7 (n - (i + 1)) (by omega) (i + 1) (la e9) (x ||| (2 ^ e9)) rfl (by omega) (by exact hla _ he) (by rw [← hq9, show n - i = (n - (i + 1)) + 1 by omega]; rfl) ls (lv_sub hl [3, 4, 2, 1, 0] rfl)
  exact hL7 _ 0 d0 0 rfl (by omega) (by omega) (by rfl) ls (lv_sub hl [3, 4, 2, 1, 0] rfl)
set_option maxHeartbeats 4000000 in
set_option maxRecDepth 100000 in
theorem c_X3_fewestChanges {l : Launch} {D : va_G} {cI cZ cB cR : ClassId} {q t b b2 pp i1 i2 kept tn tw td : Nat} {tr : Int64} {n lvA aiA laA ac woA drA : Nat} {pl pt pa mo dn ea bn stA k : Nat} {la : Nat → Nat}  (hn : n ≤ 6) (hla : ∀ i, i < n → la i < n) (hrg : ∀ d, d < n → rg la n d 0 < 64) : mR l yX3_fewestChanges cX3_fewestChanges 4 (some .int) 2 45 D cI cZ cB cR [oK q t b b2 pp i1 i2 kept tn tw td tr, oB b n lvA aiA laA ac woA drA, oP pp pl pt pa mo dn ea bn stA k, aI cI pa 6 la] [.ref q] (some (.int (nI (fcS la n n).1))) := by
  refine mR_of rfl (Nat.le_of_ble_eq_true rfl) ?_
  intro p e s m args below meth c hC hr hlk hK hP ls hl
  have hl : lv_has ls 4 [(0, .ref q)] := hl
  obtain ⟨hx, hb, hml, hown, hts⟩ := id hC
  refine lv_aload_n hx hb dX3_fewestChanges_0 rfl (lv_at hl 0 rfl) ?_
  refine z_get (k := 1) zcX3 hC hK hP 0 rfl (by decide) lF_X3_19 rfl dX3_fewestChanges_1 ?_
  refine z_get (k := 0) zcX1 hC hK hP 1 rfl (by decide) lF_X3_123 rfl dX3_fewestChanges_4 ?_
  refine lv_istore_n (lv' := [(1, .int (nI n)), (0, .ref q)]) hx hb dX3_fewestChanges_7 rfl hl (by decide) rfl (fun ls hl => ?_)
  refine lv_iconst (v := nI 0) hx hb dX3_fewestChanges_8 (by decide) ?_
  refine lv_istore_n (lv' := [(2, .int (nI 0)), (1, .int (nI n)), (0, .ref q)]) hx hb dX3_fewestChanges_9 rfl hl (by decide) rfl (fun ls hl => ?_)
  refine lv_iconst (v := nI 0) hx hb dX3_fewestChanges_10 (by decide) ?_
  refine lv_istore_n (lv' := [(3, .int (nI 0)), (2, .int (nI 0)), (1, .int (nI n)), (0, .ref q)]) hx hb dX3_fewestChanges_11 rfl hl (by decide) rfl (fun ls hl => ?_)
  have hL12 : ∀ (z12 : Nat) (d : Nat) (x : Nat) (y : Nat), n - d = z12 → d ≤ n → (x, y) = fcS la n d → y < 64 → n - d ≤ x → ∀ ls : Array Slot, lv_has ls 4 [(0, .ref q), (1, .int (nI x)), (2, .int (nI y)), (3, .int (nI d))] → W p l e { frames := 2, cells := 0, slots := 0, locals := 45 } s m args below meth c s.heap [] 0 0 (MQ below (qR (some (.int (nI (fcS la n n).1)))) args s 0 0 (fun _ => False)) (F0 m 12 ls []) := by
    intro z12
    induction z12 using Nat.strongRecOn with
    | _ z12 ih12 =>
    intro d x y hz12 hd hxy hy hxn ls hl
    refine lv_iload_n hx hb dX3_fewestChanges_12 rfl (lv_at hl 3 rfl) ?_
    refine lv_aload_n hx hb dX3_fewestChanges_13 rfl (lv_at hl 0 rfl) ?_
    refine z_get (k := 1) zcX3 hC hK hP 0 rfl (by decide) lF_X3_19 rfl dX3_fewestChanges_14 ?_
    refine z_get (k := 0) zcX1 hC hK hP 1 rfl (by decide) lF_X3_123 rfl dX3_fewestChanges_17 ?_
    refine zc_ge (tgt := 48) hC dX3_fewestChanges_20 (by decide) (by omega) (by omega) (fun c20 => ?_) (fun c20 => ?_)
    · skip
      refine lv_iload_n hx hb dX3_fewestChanges_48 rfl (lv_at hl 1 rfl) ?_
      exact zr_i hC hr hlk (by have h9 : d = n := (by omega); rw [h9] at hxy; rw [← hxy]) dX3_fewestChanges_49
    · skip
      refine lv_iload_n hx hb dX3_fewestChanges_23 rfl (lv_at hl 2 rfl) ?_
      refine lv_iload_n hx hb dX3_fewestChanges_24 rfl (lv_at hl 3 rfl) ?_
      refine zRS (As := [.int (nI y), .int (nI d)]) (rest := []) hC (c_X3_has (l := l) (b := y) (i := d) (hb9 := by omega) (hi := by omega)) lM_X3_221 sM_X3_has (by decide) hK rfl hl.1 rfl (Nat.le_of_ble_eq_true rfl) dX3_fewestChanges_25 (by decide) ?_
      show W _ _ _ _ _ _ _ _ _ _ _ _ _ _ _ (F0 m 28 ls [.int (bI (y.testBit d))])
      refine zb_ne (tgt := 42) hC dX3_fewestChanges_28 (by decide) (fun c28 => ?_) (fun c28 => ?_)
      · skip
        refine lv_iinc (v := nI (d + 1)) (lv' := [(3, .int (nI (d + 1))), (0, .ref q), (1, .int (nI x)), (2, .int (nI y))]) hx hb dX3_fewestChanges_42 hl (k := 3) rfl (z_inc d 1) (by decide) rfl (fun ls hl => ?_)
        refine lv_goto (tgt := 12) hx hb dX3_fewestChanges_45 (by decide) ?_
        exact ih12 (n - (d + 1)) (by omega) (d + 1) x y rfl (by omega) (by unfold fcS; rw [← hxy]; first | exact (if_pos c28).symm | exact (if_neg (by rw [c28]; decide)).symm) (by first | omega | exact z_or64 hy (hrg d (by omega))) (by omega) ls (lv_sub hl [1, 2, 3, 0] rfl)
      · skip
        refine lv_iinc (v := nI (x - 1)) (lv' := [(1, .int (nI (x - 1))), (0, .ref q), (2, .int (nI y)), (3, .int (nI d))]) hx hb dX3_fewestChanges_31 hl (k := 1) rfl (z_dec1 (by omega)) (by decide) rfl (fun ls hl => ?_)
        refine lv_iload_n hx hb dX3_fewestChanges_34 rfl (lv_at hl 2 rfl) ?_
        refine lv_aload_n hx hb dX3_fewestChanges_35 rfl (lv_at hl 1 rfl) ?_
        refine lv_iload_n hx hb dX3_fewestChanges_36 rfl (lv_at hl 3 rfl) ?_
        refine zRV (As := [.int (nI d)]) (b := q) (rest := [.int (nI y)]) hC (c_X3_ringOf (l := l) (hn := hn) (hla := hla) (hd := by omega)) lM_X3_230 vM_X3_ringOf (by decide) hK hP [0, 1, 2, 3] rfl ⟨rfl, rfl, rfl⟩ rfl hl.1 rfl (Nat.le_of_ble_eq_true rfl) dX3_fewestChanges_37 (by decide) ?_
        show W _ _ _ _ _ _ _ _ _ _ _ _ _ _ _ (F0 m 40 ls [.int (nI (rg la n d 0)), .int (nI y)])
        refine zi_or hC dX3_fewestChanges_40 ?_
        refine lv_istore_n (lv' := [(2, .int (nI (y ||| (rg la n d 0)))), (1, .int (nI (x - 1))), (0, .ref q), (3, .int (nI d))]) hx hb dX3_fewestChanges_41 rfl hl (by decide) rfl (fun ls hl => ?_)
        refine lv_iinc (v := nI (d + 1)) (lv' := [(3, .int (nI (d + 1))), (2, .int (nI (y ||| (rg la n d 0)))), (1, .int (nI (x - 1))), (0, .ref q)]) hx hb dX3_fewestChanges_42 hl (k := 3) rfl (z_inc d 1) (by decide) rfl (fun ls hl => ?_)
        refine lv_goto (tgt := 12) hx hb dX3_fewestChanges_45 (by decide) ?_
        exact ih12 (n - (d + 1)) (by omega) (d + 1) (x - 1) (y ||| (rg la n d 0)) rfl (by omega) (by unfold fcS; rw [← hxy]; first | exact (if_pos c28).symm | exact (if_neg (by rw [c28]; decide)).symm) (by first | omega | exact z_or64 hy (hrg d (by omega))) (by omega) ls (lv_sub hl [3, 2, 1, 0] rfl)
  exact hL12 _ 0 n 0 rfl (by omega) (by rfl) (by omega) (by omega) ls (lv_sub hl [3, 2, 1, 0] rfl)
set_option maxHeartbeats 4000000 in
set_option maxRecDepth 100000 in
theorem c_X3_firstChange {l : Launch} {D : va_G} {cI cZ cB cR : ClassId} {q t b b2 pp i1 i2 kept tn tw td : Nat} {tr : Int64} {n lvA aiA laA ac woA drA : Nat} {pl pt pa mo dn ea bn stA k : Nat} {la : Nat → Nat}  (hn : n ≤ 6) (hla : ∀ i, i < n → la i < n)  : mR l yX3_firstChange cX3_firstChange 3 (some .int) 0 0 D cI cZ cB cR [oK q t b b2 pp i1 i2 kept tn tw td tr, oB b n lvA aiA laA ac woA drA, oP pp pl pt pa mo dn ea bn stA k, aI cI pa 6 la] [.ref q] (some (.int (oI (fou9 la n 0 n)))) := by
  refine mR_of rfl (Nat.le_of_ble_eq_true rfl) ?_
  intro p e s m args below meth c hC hr hlk hK hP ls hl
  have hl : lv_has ls 3 [(0, .ref q)] := hl
  obtain ⟨hx, hb, hml, hown, hts⟩ := id hC
  refine lv_iconst (v := nI 0) hx hb dX3_firstChange_0 (by decide) ?_
  refine lv_istore_n (lv' := [(1, .int (nI 0)), (0, .ref q)]) hx hb dX3_firstChange_1 rfl hl (by decide) rfl (fun ls hl => ?_)
  have hL2 : ∀ (z2 : Nat) (d : Nat), n - d = z2 → d ≤ n → fou9 la n d (n - d) = fou9 la n 0 n → ∀ ls : Array Slot, lv_has ls 3 [(0, .ref q), (1, .int (nI d))] → W p l e { frames := 0, cells := 0, slots := 0, locals := 0 } s m args below meth c s.heap [] 0 0 (MQ below (qR (some (.int (oI (fou9 la n 0 n))))) args s 0 0 (fun _ => False)) (F0 m 2 ls []) := by
    intro z2
    induction z2 using Nat.strongRecOn with
    | _ z2 ih2 =>
    intro d hz2 hd ho ls hl
    refine lv_iload_n hx hb dX3_firstChange_2 rfl (lv_at hl 1 rfl) ?_
    refine lv_aload_n hx hb dX3_firstChange_3 rfl (lv_at hl 0 rfl) ?_
    refine z_get (k := 1) zcX3 hC hK hP 0 rfl (by decide) lF_X3_19 rfl dX3_firstChange_4 ?_
    refine z_get (k := 0) zcX1 hC hK hP 1 rfl (by decide) lF_X3_123 rfl dX3_firstChange_7 ?_
    refine zc_ge (tgt := 73) hC dX3_firstChange_10 (by decide) (by omega) (by omega) (fun c10 => ?_) (fun c10 => ?_)
    · skip
      refine lv_bipush (v := (-9)) hx hb dX3_firstChange_73 (by decide) ?_
      exact zr_i hC hr hlk (by rw [← ho, show n - d = 0 by omega]; rfl) dX3_firstChange_75
    · skip
      refine lv_iload_n hx hb dX3_firstChange_13 rfl (lv_at hl 1 rfl) ?_
      refine lv_iconst (v := nI 1) hx hb dX3_firstChange_14 (by decide) ?_
      refine zi_add hC dX3_firstChange_15 ?_
      refine lv_istore_n (lv' := [(2, .int (nI (d + 1))), (0, .ref q), (1, .int (nI d))]) hx hb dX3_firstChange_16 rfl hl (by decide) rfl (fun ls hl => ?_)
      have hL17 : ∀ (z17 : Nat) (e9 : Nat), n - e9 = z17 → d + 1 ≤ e9 ∧ e9 ≤ n → fin9 la d e9 (n - e9) = fin9 la d (d + 1) (n - (d + 1)) → ∀ ls : Array Slot, lv_has ls 3 [(0, .ref q), (1, .int (nI d)), (2, .int (nI e9))] → W p l e { frames := 0, cells := 0, slots := 0, locals := 0 } s m args below meth c s.heap [] 0 0 (MQ below (qR (some (.int (oI (fou9 la n 0 n))))) args s 0 0 (fun _ => False)) (F0 m 17 ls []) := by
        intro z17
        induction z17 using Nat.strongRecOn with
        | _ z17 ih17 =>
        intro e9 hz17 he hi ls hl
        refine lv_iload_n hx hb dX3_firstChange_17 rfl (lv_at hl 2 rfl) ?_
        refine lv_aload_n hx hb dX3_firstChange_18 rfl (lv_at hl 0 rfl) ?_
        refine z_get (k := 1) zcX3 hC hK hP 0 rfl (by decide) lF_X3_19 rfl dX3_firstChange_19 ?_
        refine z_get (k := 0) zcX1 hC hK hP 1 rfl (by decide) lF_X3_123 rfl dX3_firstChange_22 ?_
        refine zc_ge (tgt := 67) hC dX3_firstChange_25 (by decide) (by omega) (by omega) (fun c25 => ?_) (fun c25 => ?_)
        · skip
          refine lv_iinc (v := nI (d + 1)) (lv' := [(1, .int (nI (d + 1))), (0, .ref q), (2, .int (nI e9))]) hx hb dX3_firstChange_67 hl (k := 1) rfl (z_inc d 1) (by decide) rfl (fun ls hl => ?_)
          refine lv_goto (tgt := 2) hx hb dX3_firstChange_70 (by decide) ?_
          exact ih2 (n - (d + 1)) (by omega) (d + 1) rfl (by omega) (by rw [← ho, show n - d = (n - (d + 1)) + 1 by omega]; show _ = (match fin9 la d (d + 1) (n - (d + 1)) with | some v => some v | none => fou9 la n (d + 1) (n - (d + 1))); rw [← hi, show n - e9 = 0 by omega]; rfl) ls (lv_sub hl [1, 0] rfl)
        · skip
          refine lv_aload_n hx hb dX3_firstChange_28 rfl (lv_at hl 0 rfl) ?_
          refine z_get (k := 3) zcX3 hC hK hP 0 rfl (by decide) lF_X3_29 rfl dX3_firstChange_29 ?_
          refine z_get (k := 2) zcX0 hC hK hP 2 rfl (by decide) lF_X3_88 rfl dX3_firstChange_32 ?_
          refine lv_iload_n hx hb dX3_firstChange_35 rfl (lv_at hl 1 rfl) ?_
          refine z_ald hC hK hP 3 rfl (by omega) (by decide) dX3_firstChange_36 ?_
          refine lv_iload_n hx hb dX3_firstChange_37 rfl (lv_at hl 2 rfl) ?_
          have b38 := hla d (by omega)
          refine zc_eq (tgt := 54) hC dX3_firstChange_38 (by decide) (by omega) (by omega) (fun c38 => ?_) (fun c38 => ?_)
          · skip
            refine lv_bipush (v := nI 10) hx hb dX3_firstChange_54 (by decide) ?_
            refine lv_iload_n hx hb dX3_firstChange_56 rfl (lv_at hl 1 rfl) ?_
            refine zi_mul hC dX3_firstChange_57 ?_
            refine lv_iload_n hx hb dX3_firstChange_58 rfl (lv_at hl 2 rfl) ?_
            refine zi_add hC dX3_firstChange_59 ?_
            exact zr_i hC hr hlk (by rw [← ho, show n - d = (n - (d + 1)) + 1 by omega]; show _ = oI (match fin9 la d (d + 1) (n - (d + 1)) with | some v => some v | none => fou9 la n (d + 1) (n - (d + 1))); rw [← hi, show n - e9 = (n - (e9 + 1)) + 1 by omega]; show _ = oI (match (if la d = e9 ∨ la e9 = d then some (10 * d + e9) else _) with | some v => some v | none => _); rw [if_pos (by first | exact Or.inl c38 | exact Or.inr c51)]; rfl) dX3_firstChange_60
          · skip
            refine lv_aload_n hx hb dX3_firstChange_41 rfl (lv_at hl 0 rfl) ?_
            refine z_get (k := 3) zcX3 hC hK hP 0 rfl (by decide) lF_X3_29 rfl dX3_firstChange_42 ?_
            refine z_get (k := 2) zcX0 hC hK hP 2 rfl (by decide) lF_X3_88 rfl dX3_firstChange_45 ?_
            refine lv_iload_n hx hb dX3_firstChange_48 rfl (lv_at hl 2 rfl) ?_
            refine z_ald hC hK hP 3 rfl (by omega) (by decide) dX3_firstChange_49 ?_
            refine lv_iload_n hx hb dX3_firstChange_50 rfl (lv_at hl 1 rfl) ?_
            have b51 := hla e9 (by omega)
            refine zc_ne (tgt := 61) hC dX3_firstChange_51 (by decide) (by omega) (by omega) (fun c51 => ?_) (fun c51 => ?_)
            · skip
              refine lv_iinc (v := nI (e9 + 1)) (lv' := [(2, .int (nI (e9 + 1))), (0, .ref q), (1, .int (nI d))]) hx hb dX3_firstChange_61 hl (k := 2) rfl (z_inc e9 1) (by decide) rfl (fun ls hl => ?_)
              refine lv_goto (tgt := 17) hx hb dX3_firstChange_64 (by decide) ?_
              exact ih17 (n - (e9 + 1)) (by omega) (e9 + 1) rfl (by omega) (by rw [← hi, show n - e9 = (n - (e9 + 1)) + 1 by omega]; exact (if_neg (by rintro (h | h); exact c38 h; exact c51 h)).symm) ls (lv_sub hl [1, 2, 0] rfl)
            · skip
              refine lv_bipush (v := nI 10) hx hb dX3_firstChange_54 (by decide) ?_
              refine lv_iload_n hx hb dX3_firstChange_56 rfl (lv_at hl 1 rfl) ?_
              refine zi_mul hC dX3_firstChange_57 ?_
              refine lv_iload_n hx hb dX3_firstChange_58 rfl (lv_at hl 2 rfl) ?_
              refine zi_add hC dX3_firstChange_59 ?_
              exact zr_i hC hr hlk (by rw [← ho, show n - d = (n - (d + 1)) + 1 by omega]; show _ = oI (match fin9 la d (d + 1) (n - (d + 1)) with | some v => some v | none => fou9 la n (d + 1) (n - (d + 1))); rw [← hi, show n - e9 = (n - (e9 + 1)) + 1 by omega]; show _ = oI (match (if la d = e9 ∨ la e9 = d then some (10 * d + e9) else _) with | some v => some v | none => _); rw [if_pos (by first | exact Or.inl c38 | exact Or.inr c51)]; rfl) dX3_firstChange_60
      exact hL17 _ (d + 1) rfl (by omega) (by rfl) ls (lv_sub hl [1, 2, 0] rfl)
  exact hL2 _ 0 rfl (by omega) (by rfl) ls (lv_sub hl [1, 0] rfl)
set_option maxHeartbeats 4000000 in
set_option maxRecDepth 100000 in
theorem c_X3_levelsTogether {l : Launch} {D : va_G} {cI cZ cB cR : ClassId} {q t b b2 pp i1 i2 kept tn tw td : Nat} {tr : Int64} {n lvA aiA laA ac woA drA : Nat} {pl pt pa mo dn ea bn stA k : Nat} {lv : Nat → Nat}  (hn : n ≤ 6) : mR l yX3_levelsTogether cX3_levelsTogether 3 (some .int) 0 0 D cI cZ cB cR [oK q t b b2 pp i1 i2 kept tn tw td tr, oB b n lvA aiA laA ac woA drA, oP pp pl pt pa mo dn ea bn stA k, aI cI pl 6 lv] [.ref q] (some (.int (nI (sm lv n)))) := by
  refine mR_of rfl (Nat.le_of_ble_eq_true rfl) ?_
  intro p e s m args below meth c hC hr hlk hK hP ls hl
  have hl : lv_has ls 3 [(0, .ref q)] := hl
  obtain ⟨hx, hb, hml, hown, hts⟩ := id hC
  refine lv_iconst (v := nI 0) hx hb dX3_levelsTogether_0 (by decide) ?_
  refine lv_istore_n (lv' := [(1, .int (nI 0)), (0, .ref q)]) hx hb dX3_levelsTogether_1 rfl hl (by decide) rfl (fun ls hl => ?_)
  refine lv_iconst (v := nI 0) hx hb dX3_levelsTogether_2 (by decide) ?_
  refine lv_istore_n (lv' := [(2, .int (nI 0)), (1, .int (nI 0)), (0, .ref q)]) hx hb dX3_levelsTogether_3 rfl hl (by decide) rfl (fun ls hl => ?_)
  have hL4 : ∀ (z4 : Nat) (d : Nat) (x : Nat), n - d = z4 → d ≤ n → x = sm lv d → ∀ ls : Array Slot, lv_has ls 3 [(0, .ref q), (1, .int (nI x)), (2, .int (nI d))] → W p l e { frames := 0, cells := 0, slots := 0, locals := 0 } s m args below meth c s.heap [] 0 0 (MQ below (qR (some (.int (nI (sm lv n))))) args s 0 0 (fun _ => False)) (F0 m 4 ls []) := by
    intro z4
    induction z4 using Nat.strongRecOn with
    | _ z4 ih4 =>
    intro d x hz4 hd hx9 ls hl
    refine lv_iload_n hx hb dX3_levelsTogether_4 rfl (lv_at hl 2 rfl) ?_
    refine lv_aload_n hx hb dX3_levelsTogether_5 rfl (lv_at hl 0 rfl) ?_
    refine z_get (k := 1) zcX3 hC hK hP 0 rfl (by decide) lF_X3_19 rfl dX3_levelsTogether_6 ?_
    refine z_get (k := 0) zcX1 hC hK hP 1 rfl (by decide) lF_X3_123 rfl dX3_levelsTogether_9 ?_
    refine zc_ge (tgt := 33) hC dX3_levelsTogether_12 (by decide) (by omega) (by omega) (fun c12 => ?_) (fun c12 => ?_)
    · skip
      refine lv_iload_n hx hb dX3_levelsTogether_33 rfl (lv_at hl 1 rfl) ?_
      exact zr_i hC hr hlk (by rw [hx9, show d = n by omega]) dX3_levelsTogether_34
    · skip
      refine lv_iload_n hx hb dX3_levelsTogether_15 rfl (lv_at hl 1 rfl) ?_
      refine lv_aload_n hx hb dX3_levelsTogether_16 rfl (lv_at hl 0 rfl) ?_
      refine z_get (k := 3) zcX3 hC hK hP 0 rfl (by decide) lF_X3_29 rfl dX3_levelsTogether_17 ?_
      refine z_get (k := 0) zcX0 hC hK hP 2 rfl (by decide) lF_X3_79 rfl dX3_levelsTogether_20 ?_
      refine lv_iload_n hx hb dX3_levelsTogether_23 rfl (lv_at hl 2 rfl) ?_
      refine z_ald hC hK hP 3 rfl (by omega) (by decide) dX3_levelsTogether_24 ?_
      refine zi_add hC dX3_levelsTogether_25 ?_
      refine lv_istore_n (lv' := [(1, .int (nI (x + (lv d)))), (0, .ref q), (2, .int (nI d))]) hx hb dX3_levelsTogether_26 rfl hl (by decide) rfl (fun ls hl => ?_)
      refine lv_iinc (v := nI (d + 1)) (lv' := [(2, .int (nI (d + 1))), (1, .int (nI (x + (lv d)))), (0, .ref q)]) hx hb dX3_levelsTogether_27 hl (k := 2) rfl (z_inc d 1) (by decide) rfl (fun ls hl => ?_)
      refine lv_goto (tgt := 4) hx hb dX3_levelsTogether_30 (by decide) ?_
      exact ih4 (n - (d + 1)) (by omega) (d + 1) (x + (lv d)) rfl (by omega) (by rw [hx9]; rfl) ls (lv_sub hl [2, 1, 0] rfl)
  exact hL4 _ 0 0 rfl (by omega) (by rfl) ls (lv_sub hl [2, 1, 0] rfl)
set_option maxHeartbeats 4000000 in
set_option maxRecDepth 100000 in
theorem c_X3_differenceOf {l : Launch} {D : va_G} {cI cZ cB cR : ClassId} {q t b b2 pp i1 i2 kept tn tw td : Nat} {tr : Int64} {n lvA aiA laA ac woA drA : Nat} {pl pt pa mo dn ea bn stA k : Nat} {lv : Nat → Nat} {st9 : Nat} (hn : n ≤ 6) (hlv : ∀ i, lv i ≤ 40) (hst : st9 < 2 ^ 31) : mR l yX3_differenceOf cX3_differenceOf 4 (some .int) 1 21 D cI cZ cB cR [oK q t b b2 pp i1 i2 kept tn tw td tr, oB b n lvA aiA laA ac woA drA, oP pp pl pt pa mo dn ea bn stA k, aI cI pl 6 lv] [.ref q, .int (nI st9)] (some (.int (nI (dabs lv st9 n)))) := by
  refine mR_of rfl (Nat.le_of_ble_eq_true rfl) ?_
  intro p e s m args below meth c hC hr hlk hK hP ls hl
  have hl : lv_has ls 4 [(0, .ref q), (1, .int (nI st9))] := hl
  obtain ⟨hx, hb, hml, hown, hts⟩ := id hC
  refine lv_iconst (v := nI 0) hx hb dX3_differenceOf_0 (by decide) ?_
  refine lv_istore_n (lv' := [(2, .int (nI 0)), (0, .ref q), (1, .int (nI st9))]) hx hb dX3_differenceOf_1 rfl hl (by decide) rfl (fun ls hl => ?_)
  refine lv_iconst (v := nI 0) hx hb dX3_differenceOf_2 (by decide) ?_
  refine lv_istore_n (lv' := [(3, .int (nI 0)), (2, .int (nI 0)), (0, .ref q), (1, .int (nI st9))]) hx hb dX3_differenceOf_3 rfl hl (by decide) rfl (fun ls hl => ?_)
  have hL4 : ∀ (z4 : Nat) (d : Nat) (x : Int32), n - d = z4 → d ≤ n → x = nI (sm (fun i => if st9.testBit i then lv i else 0) d) - nI (sm (fun i => if st9.testBit i then 0 else lv i) d) → ∀ ls : Array Slot, lv_has ls 4 [(0, .ref q), (1, .int (nI st9)), (2, .int x), (3, .int (nI d))] → W p l e { frames := 1, cells := 0, slots := 0, locals := 21 } s m args below meth c s.heap [] 0 0 (MQ below (qR (some (.int (nI (dabs lv st9 n))))) args s 0 0 (fun _ => False)) (F0 m 4 ls []) := by
    intro z4
    induction z4 using Nat.strongRecOn with
    | _ z4 ih4 =>
    intro d x hz4 hd hx9 ls hl
    refine lv_iload_n hx hb dX3_differenceOf_4 rfl (lv_at hl 3 rfl) ?_
    refine lv_aload_n hx hb dX3_differenceOf_5 rfl (lv_at hl 0 rfl) ?_
    refine z_get (k := 1) zcX3 hC hK hP 0 rfl (by decide) lF_X3_19 rfl dX3_differenceOf_6 ?_
    refine z_get (k := 0) zcX1 hC hK hP 1 rfl (by decide) lF_X3_123 rfl dX3_differenceOf_9 ?_
    refine zc_ge (tgt := 54) hC dX3_differenceOf_12 (by decide) (by omega) (by omega) (fun c12 => ?_) (fun c12 => ?_)
    · skip
      refine lv_iload_n hx hb dX3_differenceOf_54 rfl (lv_at hl 2 rfl) ?_
      have e55 : d = n := by omega
      rw [e55] at hx9
      have b55 : sm (fun i => if st9.testBit i then lv i else 0) n ≤ 40 * n := sm_le (fun i _ => by have := hlv i; split <;> omega)
      have b56 : sm (fun i => if st9.testBit i then 0 else lv i) n ≤ 40 * n := sm_le (fun i _ => by have := hlv i; split <;> omega)
      rw [hx9]
      refine va_mabs hx hb (hml.trans hl.1.symm) hown (hts _ lX_X3_233) (hts _ sX_abs) (hts _ iX_Math) (hts _ kX_abs) (by decide) (by decide) (by decide) (by decide) dX3_differenceOf_55 ?_
      exact zr_i hC hr hlk (by have e1 := z_abs (a := sm (fun i => if st9.testBit i then lv i else 0) n) (b := sm (fun i => if st9.testBit i then 0 else lv i) n) (by omega) (by omega); exact e1) dX3_differenceOf_58
    · skip
      refine lv_iload_n hx hb dX3_differenceOf_15 rfl (lv_at hl 2 rfl) ?_
      refine lv_iload_n hx hb dX3_differenceOf_16 rfl (lv_at hl 1 rfl) ?_
      refine lv_iload_n hx hb dX3_differenceOf_17 rfl (lv_at hl 3 rfl) ?_
      refine zRS (As := [.int (nI st9), .int (nI d)]) (rest := [.int x]) hC (c_X3_has (l := l) (b := st9) (i := d) (hb9 := by omega) (hi := by omega)) lM_X3_221 sM_X3_has (by decide) hK rfl hl.1 rfl (Nat.le_of_ble_eq_true rfl) dX3_differenceOf_18 (by decide) ?_
      show W _ _ _ _ _ _ _ _ _ _ _ _ _ _ _ (F0 m 21 ls [.int (bI (st9.testBit d)), .int x])
      refine zb_eq (tgt := 36) hC dX3_differenceOf_21 (by decide) (fun c21 => ?_) (fun c21 => ?_)
      · skip
        refine lv_aload_n hx hb dX3_differenceOf_36 rfl (lv_at hl 0 rfl) ?_
        refine z_get (k := 3) zcX3 hC hK hP 0 rfl (by decide) lF_X3_29 rfl dX3_differenceOf_37 ?_
        refine z_get (k := 0) zcX0 hC hK hP 2 rfl (by decide) lF_X3_79 rfl dX3_differenceOf_40 ?_
        refine lv_iload_n hx hb dX3_differenceOf_43 rfl (lv_at hl 3 rfl) ?_
        refine z_ald hC hK hP 3 rfl (by omega) (by decide) dX3_differenceOf_44 ?_
        refine lv_ineg hx hb dX3_differenceOf_45 ?_
        refine lv_iadd hx hb dX3_differenceOf_46 ?_
        refine lv_istore_n (lv' := [(2, .int (x + (-(nI (lv d))))), (0, .ref q), (1, .int (nI st9)), (3, .int (nI d))]) hx hb dX3_differenceOf_47 rfl hl (by decide) rfl (fun ls hl => ?_)
        refine lv_iinc (v := nI (d + 1)) (lv' := [(3, .int (nI (d + 1))), (2, .int (x + (-(nI (lv d))))), (0, .ref q), (1, .int (nI st9))]) hx hb dX3_differenceOf_48 hl (k := 3) rfl (z_inc d 1) (by decide) rfl (fun ls hl => ?_)
        refine lv_goto (tgt := 4) hx hb dX3_differenceOf_51 (by decide) ?_
        exact ih4 (n - (d + 1)) (by omega) (d + 1) (x + (-(nI (lv d)))) rfl (by omega) (by rw [hx9, sm_s, sm_s]; simp only [c21, if_true, if_false, Bool.false_eq_true, Nat.add_zero, ← nI_add]; grind) ls (lv_sub hl [2, 3, 1, 0] rfl)
      · skip
        refine lv_aload_n hx hb dX3_differenceOf_24 rfl (lv_at hl 0 rfl) ?_
        refine z_get (k := 3) zcX3 hC hK hP 0 rfl (by decide) lF_X3_29 rfl dX3_differenceOf_25 ?_
        refine z_get (k := 0) zcX0 hC hK hP 2 rfl (by decide) lF_X3_79 rfl dX3_differenceOf_28 ?_
        refine lv_iload_n hx hb dX3_differenceOf_31 rfl (lv_at hl 3 rfl) ?_
        refine z_ald hC hK hP 3 rfl (by omega) (by decide) dX3_differenceOf_32 ?_
        refine lv_goto (tgt := 46) hx hb dX3_differenceOf_33 (by decide) ?_
        refine lv_iadd hx hb dX3_differenceOf_46 ?_
        refine lv_istore_n (lv' := [(2, .int (x + (nI (lv d)))), (0, .ref q), (1, .int (nI st9)), (3, .int (nI d))]) hx hb dX3_differenceOf_47 rfl hl (by decide) rfl (fun ls hl => ?_)
        refine lv_iinc (v := nI (d + 1)) (lv' := [(3, .int (nI (d + 1))), (2, .int (x + (nI (lv d)))), (0, .ref q), (1, .int (nI st9))]) hx hb dX3_differenceOf_48 hl (k := 3) rfl (z_inc d 1) (by decide) rfl (fun ls hl => ?_)
        refine lv_goto (tgt := 4) hx hb dX3_differenceOf_51 (by decide) ?_
        exact ih4 (n - (d + 1)) (by omega) (d + 1) (x + (nI (lv d))) rfl (by omega) (by rw [hx9, sm_s, sm_s]; simp only [c21, if_true, if_false, Bool.false_eq_true, Nat.add_zero, ← nI_add]; grind) ls (lv_sub hl [2, 3, 1, 0] rfl)
  exact hL4 _ 0 (nI 0) rfl (by omega) (by exact (by decide : nI 0 = nI 0 - nI 0)) ls (lv_sub hl [2, 3, 1, 0] rfl)
set_option maxHeartbeats 4000000 in
set_option maxRecDepth 100000 in
theorem c_X3_inLeastTerms {l : Launch} {D : va_G} {cI cZ cB cR : ClassId} {num x : Nat} (hnum : num ≤ 10) (hx9 : x ≤ 10) : mR l yX3_inLeastTerms cX3_inLeastTerms 3 (some .int) 0 0 D cI cZ cB cR [] [.int (nI num), .int (nI x)] (some (.int (nI (iltL num x 10)))) := by
  refine mR_of rfl (Nat.le_of_ble_eq_true rfl) ?_
  intro p e s m args below meth c hC hr hlk hK hP ls hl
  have hl : lv_has ls 3 [(0, .int (nI num)), (1, .int (nI x))] := hl
  obtain ⟨hx, hb, hml, hown, hts⟩ := id hC
  refine lv_bipush (v := nI 10) hx hb dX3_inLeastTerms_0 (by decide) ?_
  refine lv_istore_n (lv' := [(2, .int (nI 10)), (0, .int (nI num)), (1, .int (nI x))]) hx hb dX3_inLeastTerms_2 rfl hl (by decide) rfl (fun ls hl => ?_)
  have hL3 : ∀ (z3 : Nat) (d : Nat), d = z3 → 1 ≤ d ∧ d ≤ 10 → iltL num x d = iltL num x 10 → ∀ ls : Array Slot, lv_has ls 3 [(0, .int (nI num)), (1, .int (nI x)), (2, .int (nI d))] → W p l e { frames := 0, cells := 0, slots := 0, locals := 0 } s m args below meth c s.heap [] 0 0 (MQ below (qR (some (.int (nI (iltL num x 10))))) args s 0 0 (fun _ => False)) (F0 m 3 ls []) := by
    intro z3
    induction z3 using Nat.strongRecOn with
    | _ z3 ih3 =>
    intro d hz3 hd ht ls hl
    refine lv_iload_n hx hb dX3_inLeastTerms_3 rfl (lv_at hl 2 rfl) ?_
    refine lv_iconst (v := nI 1) hx hb dX3_inLeastTerms_4 (by decide) ?_
    refine zc_le (tgt := 31) hC dX3_inLeastTerms_5 (by decide) (by omega) (by omega) (fun c5 => ?_) (fun c5 => ?_)
    · skip
      refine lv_iload_n hx hb dX3_inLeastTerms_31 rfl (lv_at hl 0 rfl) ?_
      exact zr_i hC hr hlk (by rw [← ht, show d = 1 by omega]; rfl) dX3_inLeastTerms_32
    · skip
      have b5 := Nat.mod_lt 10 (show 0 < d by omega)
      have b6 := Nat.mod_lt x (show 0 < d by omega)
      refine lv_bipush (v := nI 10) hx hb dX3_inLeastTerms_8 (by decide) ?_
      refine lv_iload_n hx hb dX3_inLeastTerms_10 rfl (lv_at hl 2 rfl) ?_
      refine zi_rem hC dX3_inLeastTerms_11 (by omega) (by omega) (by omega) ?_
      refine z0_ne (tgt := 25) hC dX3_inLeastTerms_12 (by decide) (by omega) (fun c12 => ?_) (fun c12 => ?_)
      · skip
        refine lv_iinc (v := nI (d - 1)) (lv' := [(2, .int (nI (d - 1))), (0, .int (nI num)), (1, .int (nI x))]) hx hb dX3_inLeastTerms_25 hl (k := 2) rfl (z_dec1 (by omega)) (by decide) rfl (fun ls hl => ?_)
        refine lv_goto (tgt := 3) hx hb dX3_inLeastTerms_28 (by decide) ?_
        exact ih3 (d - 1) (by omega) (d - 1) rfl (by omega) (by rw [← ht, iltL_s num x d c5]; exact (if_neg (by omega)).symm) ls (lv_sub hl [1, 2, 0] rfl)
      · skip
        refine lv_iload_n hx hb dX3_inLeastTerms_15 rfl (lv_at hl 1 rfl) ?_
        refine lv_iload_n hx hb dX3_inLeastTerms_16 rfl (lv_at hl 2 rfl) ?_
        refine zi_rem hC dX3_inLeastTerms_17 (by omega) (by omega) (by omega) ?_
        refine z0_ne (tgt := 25) hC dX3_inLeastTerms_18 (by decide) (by omega) (fun c18 => ?_) (fun c18 => ?_)
        · skip
          refine lv_iinc (v := nI (d - 1)) (lv' := [(2, .int (nI (d - 1))), (0, .int (nI num)), (1, .int (nI x))]) hx hb dX3_inLeastTerms_25 hl (k := 2) rfl (z_dec1 (by omega)) (by decide) rfl (fun ls hl => ?_)
          refine lv_goto (tgt := 3) hx hb dX3_inLeastTerms_28 (by decide) ?_
          exact ih3 (d - 1) (by omega) (d - 1) rfl (by omega) (by rw [← ht, iltL_s num x d c5]; exact (if_neg (by omega)).symm) ls (lv_sub hl [1, 2, 0] rfl)
        · skip
          refine lv_iload_n hx hb dX3_inLeastTerms_21 rfl (lv_at hl 0 rfl) ?_
          refine lv_iload_n hx hb dX3_inLeastTerms_22 rfl (lv_at hl 2 rfl) ?_
          refine zi_div hC dX3_inLeastTerms_23 (by omega) (by omega) (by omega) ?_
          exact zr_i hC hr hlk (by rw [← ht, iltL_s num x d c5, if_pos ⟨c12, c18⟩]) dX3_inLeastTerms_24
  exact hL3 _ 10 rfl (by omega) (by rfl) ls (lv_sub hl [1, 2, 0] rfl)
set_option maxHeartbeats 4000000 in
set_option maxRecDepth 100000 in
theorem c_X3_agreesWithTold {l : Launch} {D : va_G} {cI cZ cB cR : ClassId} {q t b b2 pp i1 i2 kept tn tw td : Nat} {tr : Int64} {tnF : Nat → Nat} {twF : Nat → Bool} {ow : Nat} {g : Bool} (htd : td ≤ 6) (how : ow < 64) (htn : ∀ i, tnF i < 64) (hg : g = true ↔ ∀ i, i < td → decide (tnF i ^^^ (tnF i &&& ow) = 0) = twF i) : mR l yX3_agreesWithTold cX3_agreesWithTold 4 (some .boolean) 0 0 D cI cZ cB cR [oK q t b b2 pp i1 i2 kept tn tw td tr, aI cI tn 6 tnF, aZ cZ tw 6 twF] [.ref q, .int (nI ow)] (some (.int (bI g))) := by
  refine mR_of rfl (Nat.le_of_ble_eq_true rfl) ?_
  intro p e s m args below meth c hC hr hlk hK hP ls hl
  have hl : lv_has ls 4 [(0, .ref q), (1, .int (nI ow))] := hl
  obtain ⟨hx, hb, hml, hown, hts⟩ := id hC
  refine lv_iconst (v := nI 0) hx hb dX3_agreesWithTold_0 (by decide) ?_
  refine lv_istore_n (lv' := [(2, .int (nI 0)), (0, .ref q), (1, .int (nI ow))]) hx hb dX3_agreesWithTold_1 rfl hl (by decide) rfl (fun ls hl => ?_)
  have hL2 : ∀ (z2 : Nat) (i : Nat), td - i = z2 → i ≤ td → (∀ j, j < i → decide (tnF j ^^^ (tnF j &&& ow) = 0) = twF j) → ∀ ls : Array Slot, lv_has ls 4 [(0, .ref q), (1, .int (nI ow)), (2, .int (nI i))] → W p l e { frames := 0, cells := 0, slots := 0, locals := 0 } s m args below meth c s.heap [] 0 0 (MQ below (qR (some (.int (bI g)))) args s 0 0 (fun _ => False)) (F0 m 2 ls []) := by
    intro z2
    induction z2 using Nat.strongRecOn with
    | _ z2 ih2 =>
    intro i hz2 hi hall ls hl
    refine lv_iload_n hx hb dX3_agreesWithTold_2 rfl (lv_at hl 2 rfl) ?_
    refine lv_aload_n hx hb dX3_agreesWithTold_3 rfl (lv_at hl 0 rfl) ?_
    refine z_get (k := 9) zcX3 hC hK hP 0 rfl (by decide) lF_X3_51 rfl dX3_agreesWithTold_4 ?_
    refine zc_ge (tgt := 47) hC dX3_agreesWithTold_7 (by decide) (by omega) (by omega) (fun c7 => ?_) (fun c7 => ?_)
    · skip
      refine lv_iconst (v := nI 1) hx hb dX3_agreesWithTold_47 (by decide) ?_
      refine z_top (y := bI true) rfl ?_
      exact zr_z hC hr hlk (by exact (hg.mpr (fun j hj => hall j (by omega))).symm) dX3_agreesWithTold_48
    · skip
      have hJ28 : ∀ (w9 : Bool), True → w9 = decide (tnF i ^^^ (tnF i &&& ow) = 0) → ∀ ls : Array Slot, lv_has ls 4 [(0, .ref q), (1, .int (nI ow)), (2, .int (nI i))] → W p l e { frames := 0, cells := 0, slots := 0, locals := 0 } s m args below meth c s.heap [] 0 0 (MQ below (qR (some (.int (bI g)))) args s 0 0 (fun _ => False)) (F0 m 28 ls [.int (bI w9)]) := by
        intro w9 _ hw9 ls hl
        refine lv_istore_n (lv' := [(3, .int (bI w9)), (0, .ref q), (1, .int (nI ow)), (2, .int (nI i))]) hx hb dX3_agreesWithTold_28 rfl hl (by decide) rfl (fun ls hl => ?_)
        refine lv_iload_n hx hb dX3_agreesWithTold_29 rfl (lv_at hl 0 rfl) ?_
        refine lv_aload_n hx hb dX3_agreesWithTold_30 rfl (lv_at hl 1 rfl) ?_
        refine z_get (k := 8) zcX3 hC hK hP 0 rfl (by decide) lF_X3_47 rfl dX3_agreesWithTold_31 ?_
        refine lv_iload_n hx hb dX3_agreesWithTold_34 rfl (lv_at hl 3 rfl) ?_
        refine z_zld hC hK hP 2 rfl (by omega) (by decide) dX3_agreesWithTold_35 ?_
        refine zbb_eq (tgt := 41) hC dX3_agreesWithTold_36 (by decide) (fun c36 => ?_) (fun c36 => ?_)
        · skip
          refine lv_iinc (v := nI (i + 1)) (lv' := [(2, .int (nI (i + 1))), (3, .int (bI w9)), (0, .ref q), (1, .int (nI ow))]) hx hb dX3_agreesWithTold_41 hl (k := 3) rfl (z_inc i 1) (by decide) rfl (fun ls hl => ?_)
          refine lv_goto (tgt := 2) hx hb dX3_agreesWithTold_44 (by decide) ?_
          exact ih2 (td - (i + 1)) (by omega) (i + 1) rfl (by omega) (by intro j hj; rcases Nat.lt_succ_iff_lt_or_eq.mp hj with h | h; exact hall j h; subst h; exact hw9.symm.trans c36) ls (lv_sub hl [2, 3, 0] rfl)
        · skip
          refine lv_iconst (v := nI 0) hx hb dX3_agreesWithTold_39 (by decide) ?_
          refine z_top (y := bI false) rfl ?_
          exact zr_z hC hr hlk (by cases g with | false => rfl | true => exact absurd (hw9.trans (hg.mp rfl i c7)) c36) dX3_agreesWithTold_40
      refine lv_aload_n hx hb dX3_agreesWithTold_10 rfl (lv_at hl 0 rfl) ?_
      refine z_get (k := 7) zcX3 hC hK hP 0 rfl (by decide) lF_X3_43 rfl dX3_agreesWithTold_11 ?_
      refine lv_iload_n hx hb dX3_agreesWithTold_14 rfl (lv_at hl 2 rfl) ?_
      refine z_ald hC hK hP 1 rfl (by omega) (by decide) dX3_agreesWithTold_15 ?_
      refine lv_iload_n hx hb dX3_agreesWithTold_16 rfl (lv_at hl 1 rfl) ?_
      refine lv_iconst (v := (-1)) hx hb dX3_agreesWithTold_17 (by decide) ?_
      refine lv_ixor hx hb dX3_agreesWithTold_18 ?_
      refine lv_iand hx hb dX3_agreesWithTold_19 ?_
      have b20 : tnF i ^^^ (tnF i &&& ow) < 2 ^ 6 := Nat.xor_lt_two_pow (htn i) (Nat.and_lt_two_pow _ how)
      refine z_top (show ((nI (tnF i)) &&& ((nI ow) ^^^ (-1))) = nI (tnF i ^^^ (tnF i &&& ow)) from by exact z_andnot (htn i)) ?_
      refine z0_ne (tgt := 27) hC dX3_agreesWithTold_20 (by decide) (by omega) (fun c20 => ?_) (fun c20 => ?_)
      · skip
        refine lv_iconst (v := nI 0) hx hb dX3_agreesWithTold_27 (by decide) ?_
        exact hJ28 false trivial (by first | exact (decide_eq_true c20).symm | exact (decide_eq_false (by omega)).symm) ls (lv_sub hl [0, 1, 2] rfl)
      · skip
        refine lv_iconst (v := nI 1) hx hb dX3_agreesWithTold_23 (by decide) ?_
        refine lv_goto (tgt := 28) hx hb dX3_agreesWithTold_24 (by decide) ?_
        exact hJ28 true trivial (by first | exact (decide_eq_true c20).symm | exact (decide_eq_false (by omega)).symm) ls (lv_sub hl [0, 1, 2] rfl)
  exact hL2 _ 0 rfl (by omega) (by intro j hj; omega) ls (lv_sub hl [1, 2, 0] rfl)
end
section
theorem z_max1 {a b : Nat} (ha : a < 2 ^ 30) (hb : b < 2 ^ 30) : (if nI 0 < nI a - nI b then nI a - nI b else nI 0) = nI (a - b) := by
  rw [nI_0]
  exact z_max0 ha hb
theorem cpy_s (f g : Nat → Nat) (d : Nat) : updN (cpyN f g 0 0 d) d (f d) = cpyN f g 0 0 (d + 1) := by
  funext j
  unfold updN cpyN
  by_cases h : j = d
  · subst h; simp
  · by_cases h2 : j < d
    · rw [if_neg h, if_pos (by omega), if_pos (by omega)]
    · rw [if_neg h, if_neg (by omega), if_neg (by omega)]
theorem cpy_0 (f g : Nat → Nat) : cpyN f g 0 0 0 = g := by
  funext j
  unfold cpyN
  rw [if_neg (by omega)]
def updF (dr : Nat → Nat → Nat) (a : Nat) (g : Nat → Nat) : Nat → Nat → Nat := fun i => if i = a then g else dr i
theorem updF_s {dr : Nat → Nat → Nat} {a : Nat} {g : Nat → Nat} : updF dr a g a = g := if_pos rfl
theorem updF_n {dr : Nat → Nat → Nat} {a i : Nat} {g : Nat → Nat} (h : i ≠ a) : updF dr a g i = dr i := if_neg h
theorem updF_u (dr : Nat → Nat → Nat) (a : Nat) (g g2 : Nat → Nat) : updF (updF dr a g) a g2 = updF dr a g2 := by
  funext i
  unfold updF
  by_cases h : i = a
  · rw [if_pos h, if_pos h]
  · rw [if_neg h, if_neg h, if_neg h]
theorem updF_id (dr : Nat → Nat → Nat) (a : Nat) : updF dr a (dr a) = dr := by
  funext i
  unfold updF
  by_cases h : i = a
  · rw [if_pos h, h]
  · rw [if_neg h]
theorem row5_set {X : va_W} {cI : ClassId} {r : Nat → Nat} {dr : Nat → Nat → Nat} {i : Nat} {g : Nat → Nat} (h : i < 5) : (X ++ [aI cI (r 0) 6 (dr 0), aI cI (r 1) 6 (dr 1), aI cI (r 2) 6 (dr 2), aI cI (r 3) 6 (dr 3), aI cI (r 4) 6 (dr 4)]).set (X.length + i) (aI cI (r i) 6 g) = X ++ [aI cI (r 0) 6 (updF dr i g 0), aI cI (r 1) 6 (updF dr i g 1), aI cI (r 2) 6 (updF dr i g 2), aI cI (r 3) 6 (updF dr i g 3), aI cI (r 4) 6 (updF dr i g 4)] := by
  rw [List.set_append_right _ _ (Nat.le_add_right _ _), Nat.add_sub_cancel_left]
  match i, h with
  | 0, _ => rfl
  | 1, _ => rfl
  | 2, _ => rfl
  | 3, _ => rfl
  | 4, _ => rfl
/-- a step kept: at its place k of the row of steps -/
def pushS (lv te la : Nat → Nat) (mo dn ea bn : Nat) (st : Nat → Nat) (k : Nat) : Nat → Nat := updN (updN (updN (updN (cpyN la (cpyN te (cpyN lv st 0 (k * 22) 6) 0 (k * 22 + 6) 6) 0 (k * 22 + 12) 6) (k * 22 + 18) mo) (k * 22 + 18 + 1) dn) (k * 22 + 18 + 2) ea) (k * 22 + 18 + 3) bn
def remS (lv te la : Nat → Nat) (mo dn ea bn : Nat) (st : Nat → Nat) (k : Nat) : Nat → Nat := if k < 10 then pushS lv te la mo dn ea bn st k else pushS lv te la mo dn ea bn (cpyN st st 22 0 (9 * 22)) 9
def remK (k : Nat) : Nat := if k < 10 then k + 1 else 10
set_option maxHeartbeats 1000000 in
set_option maxRecDepth 100000 in
theorem c_J6_bitCount_0f7a4 {l : Launch} {D : va_G} {cI cZ cB cR : ClassId} {x : Nat} (hx9 : x < 64) : mR l yJ6_bitCount_0f7a4 cJ6_bitCount_0f7a4 1 (some .int) 0 0 D cI cZ cB cR [] [.int (nI x)] (some (.int (nI (popc x)))) := by
  refine mR_of rfl (Nat.le_of_ble_eq_true rfl) ?_
  intro p e s m args below meth c hC hr hlk hK hP ls hl
  have hl : lv_has ls 1 [(0, .int (nI x))] := hl
  obtain ⟨hx, hb, hml, hown, hts⟩ := id hC
  refine lv_iload_n hx hb dJ6_bitCount_0f7a4_0 rfl (lv_at hl 0 rfl) ?_
  refine lv_iload_n hx hb dJ6_bitCount_0f7a4_1 rfl (lv_at hl 0 rfl) ?_
  refine lv_iconst (v := nI 1) hx hb dJ6_bitCount_0f7a4_2 (by decide) ?_
  refine lv_iushr hx hb dJ6_bitCount_0f7a4_3 rfl ?_
  refine lv_ldcw (v := (1431655765)) hx hb hown (hts _ lK_J6_265) dJ6_bitCount_0f7a4_4 ?_
  refine lv_iand hx hb dJ6_bitCount_0f7a4_7 ?_
  refine lv_isub hx hb dJ6_bitCount_0f7a4_8 ?_
  refine lv_istore_n (lv' := [(0, .int ((nI x) - ((((nI x).toUInt32 >>> ((nI 1).toUInt32 &&& Int32.toUInt32 31)).toInt32) &&& (1431655765))))]) hx hb dJ6_bitCount_0f7a4_9 rfl hl (by decide) rfl (fun ls hl => ?_)
  refine lv_iload_n hx hb dJ6_bitCount_0f7a4_10 rfl (lv_at hl 0 rfl) ?_
  refine lv_ldcw (v := (858993459)) hx hb hown (hts _ lK_J6_266) dJ6_bitCount_0f7a4_11 ?_
  refine lv_iand hx hb dJ6_bitCount_0f7a4_14 ?_
  refine lv_iload_n hx hb dJ6_bitCount_0f7a4_15 rfl (lv_at hl 0 rfl) ?_
  refine lv_iconst (v := nI 2) hx hb dJ6_bitCount_0f7a4_16 (by decide) ?_
  refine lv_iushr hx hb dJ6_bitCount_0f7a4_17 rfl ?_
  refine lv_ldcw (v := (858993459)) hx hb hown (hts _ lK_J6_266) dJ6_bitCount_0f7a4_18 ?_
  refine lv_iand hx hb dJ6_bitCount_0f7a4_21 ?_
  refine lv_iadd hx hb dJ6_bitCount_0f7a4_22 ?_
  refine lv_istore_n (lv' := [(0, .int ((((nI x) - ((((nI x).toUInt32 >>> ((nI 1).toUInt32 &&& Int32.toUInt32 31)).toInt32) &&& (1431655765))) &&& (858993459)) + (((((nI x) - ((((nI x).toUInt32 >>> ((nI 1).toUInt32 &&& Int32.toUInt32 31)).toInt32) &&& (1431655765))).toUInt32 >>> ((nI 2).toUInt32 &&& Int32.toUInt32 31)).toInt32) &&& (858993459))))]) hx hb dJ6_bitCount_0f7a4_23 rfl hl (by decide) rfl (fun ls hl => ?_)
  refine lv_iload_n hx hb dJ6_bitCount_0f7a4_24 rfl (lv_at hl 0 rfl) ?_
  refine lv_iload_n hx hb dJ6_bitCount_0f7a4_25 rfl (lv_at hl 0 rfl) ?_
  refine lv_iconst (v := nI 4) hx hb dJ6_bitCount_0f7a4_26 (by decide) ?_
  refine lv_iushr hx hb dJ6_bitCount_0f7a4_27 rfl ?_
  refine lv_iadd hx hb dJ6_bitCount_0f7a4_28 ?_
  refine lv_ldcw (v := (252645135)) hx hb hown (hts _ lK_J6_267) dJ6_bitCount_0f7a4_29 ?_
  refine lv_iand hx hb dJ6_bitCount_0f7a4_32 ?_
  refine lv_istore_n (lv' := [(0, .int ((((((nI x) - ((((nI x).toUInt32 >>> ((nI 1).toUInt32 &&& Int32.toUInt32 31)).toInt32) &&& (1431655765))) &&& (858993459)) + (((((nI x) - ((((nI x).toUInt32 >>> ((nI 1).toUInt32 &&& Int32.toUInt32 31)).toInt32) &&& (1431655765))).toUInt32 >>> ((nI 2).toUInt32 &&& Int32.toUInt32 31)).toInt32) &&& (858993459))) + ((((((nI x) - ((((nI x).toUInt32 >>> ((nI 1).toUInt32 &&& Int32.toUInt32 31)).toInt32) &&& (1431655765))) &&& (858993459)) + (((((nI x) - ((((nI x).toUInt32 >>> ((nI 1).toUInt32 &&& Int32.toUInt32 31)).toInt32) &&& (1431655765))).toUInt32 >>> ((nI 2).toUInt32 &&& Int32.toUInt32 31)).toInt32) &&& (858993459))).toUInt32 >>> ((nI 4).toUInt32 &&& Int32.toUInt32 31)).toInt32)) &&& (252645135)))]) hx hb dJ6_bitCount_0f7a4_33 rfl hl (by decide) rfl (fun ls hl => ?_)
  refine lv_iload_n hx hb dJ6_bitCount_0f7a4_34 rfl (lv_at hl 0 rfl) ?_
  refine lv_iload_n hx hb dJ6_bitCount_0f7a4_35 rfl (lv_at hl 0 rfl) ?_
  refine lv_bipush (v := nI 8) hx hb dJ6_bitCount_0f7a4_36 (by decide) ?_
  refine lv_iushr hx hb dJ6_bitCount_0f7a4_38 rfl ?_
  refine lv_iadd hx hb dJ6_bitCount_0f7a4_39 ?_
  refine lv_istore_n (lv' := [(0, .int (((((((nI x) - ((((nI x).toUInt32 >>> ((nI 1).toUInt32 &&& Int32.toUInt32 31)).toInt32) &&& (1431655765))) &&& (858993459)) + (((((nI x) - ((((nI x).toUInt32 >>> ((nI 1).toUInt32 &&& Int32.toUInt32 31)).toInt32) &&& (1431655765))).toUInt32 >>> ((nI 2).toUInt32 &&& Int32.toUInt32 31)).toInt32) &&& (858993459))) + ((((((nI x) - ((((nI x).toUInt32 >>> ((nI 1).toUInt32 &&& Int32.toUInt32 31)).toInt32) &&& (1431655765))) &&& (858993459)) + (((((nI x) - ((((nI x).toUInt32 >>> ((nI 1).toUInt32 &&& Int32.toUInt32 31)).toInt32) &&& (1431655765))).toUInt32 >>> ((nI 2).toUInt32 &&& Int32.toUInt32 31)).toInt32) &&& (858993459))).toUInt32 >>> ((nI 4).toUInt32 &&& Int32.toUInt32 31)).toInt32)) &&& (252645135)) + ((((((((nI x) - ((((nI x).toUInt32 >>> ((nI 1).toUInt32 &&& Int32.toUInt32 31)).toInt32) &&& (1431655765))) &&& (858993459)) + (((((nI x) - ((((nI x).toUInt32 >>> ((nI 1).toUInt32 &&& Int32.toUInt32 31)).toInt32) &&& (1431655765))).toUInt32 >>> ((nI 2).toUInt32 &&& Int32.toUInt32 31)).toInt32) &&& (858993459))) + ((((((nI x) - ((((nI x).toUInt32 >>> ((nI 1).toUInt32 &&& Int32.toUInt32 31)).toInt32) &&& (1431655765))) &&& (858993459)) + (((((nI x) - ((((nI x).toUInt32 >>> ((nI 1).toUInt32 &&& Int32.toUInt32 31)).toInt32) &&& (1431655765))).toUInt32 >>> ((nI 2).toUInt32 &&& Int32.toUInt32 31)).toInt32) &&& (858993459))).toUInt32 >>> ((nI 4).toUInt32 &&& Int32.toUInt32 31)).toInt32)) &&& (252645135)).toUInt32 >>> ((nI 8).toUInt32 &&& Int32.toUInt32 31)).toInt32)))]) hx hb dJ6_bitCount_0f7a4_40 rfl hl (by decide) rfl (fun ls hl => ?_)
  refine lv_iload_n hx hb dJ6_bitCount_0f7a4_41 rfl (lv_at hl 0 rfl) ?_
  refine lv_iload_n hx hb dJ6_bitCount_0f7a4_42 rfl (lv_at hl 0 rfl) ?_
  refine lv_bipush (v := nI 16) hx hb dJ6_bitCount_0f7a4_43 (by decide) ?_
  refine lv_iushr hx hb dJ6_bitCount_0f7a4_45 rfl ?_
  refine lv_iadd hx hb dJ6_bitCount_0f7a4_46 ?_
  refine lv_istore_n (lv' := [(0, .int ((((((((nI x) - ((((nI x).toUInt32 >>> ((nI 1).toUInt32 &&& Int32.toUInt32 31)).toInt32) &&& (1431655765))) &&& (858993459)) + (((((nI x) - ((((nI x).toUInt32 >>> ((nI 1).toUInt32 &&& Int32.toUInt32 31)).toInt32) &&& (1431655765))).toUInt32 >>> ((nI 2).toUInt32 &&& Int32.toUInt32 31)).toInt32) &&& (858993459))) + ((((((nI x) - ((((nI x).toUInt32 >>> ((nI 1).toUInt32 &&& Int32.toUInt32 31)).toInt32) &&& (1431655765))) &&& (858993459)) + (((((nI x) - ((((nI x).toUInt32 >>> ((nI 1).toUInt32 &&& Int32.toUInt32 31)).toInt32) &&& (1431655765))).toUInt32 >>> ((nI 2).toUInt32 &&& Int32.toUInt32 31)).toInt32) &&& (858993459))).toUInt32 >>> ((nI 4).toUInt32 &&& Int32.toUInt32 31)).toInt32)) &&& (252645135)) + ((((((((nI x) - ((((nI x).toUInt32 >>> ((nI 1).toUInt32 &&& Int32.toUInt32 31)).toInt32) &&& (1431655765))) &&& (858993459)) + (((((nI x) - ((((nI x).toUInt32 >>> ((nI 1).toUInt32 &&& Int32.toUInt32 31)).toInt32) &&& (1431655765))).toUInt32 >>> ((nI 2).toUInt32 &&& Int32.toUInt32 31)).toInt32) &&& (858993459))) + ((((((nI x) - ((((nI x).toUInt32 >>> ((nI 1).toUInt32 &&& Int32.toUInt32 31)).toInt32) &&& (1431655765))) &&& (858993459)) + (((((nI x) - ((((nI x).toUInt32 >>> ((nI 1).toUInt32 &&& Int32.toUInt32 31)).toInt32) &&& (1431655765))).toUInt32 >>> ((nI 2).toUInt32 &&& Int32.toUInt32 31)).toInt32) &&& (858993459))).toUInt32 >>> ((nI 4).toUInt32 &&& Int32.toUInt32 31)).toInt32)) &&& (252645135)).toUInt32 >>> ((nI 8).toUInt32 &&& Int32.toUInt32 31)).toInt32)) + (((((((((nI x) - ((((nI x).toUInt32 >>> ((nI 1).toUInt32 &&& Int32.toUInt32 31)).toInt32) &&& (1431655765))) &&& (858993459)) + (((((nI x) - ((((nI x).toUInt32 >>> ((nI 1).toUInt32 &&& Int32.toUInt32 31)).toInt32) &&& (1431655765))).toUInt32 >>> ((nI 2).toUInt32 &&& Int32.toUInt32 31)).toInt32) &&& (858993459))) + ((((((nI x) - ((((nI x).toUInt32 >>> ((nI 1).toUInt32 &&& Int32.toUInt32 31)).toInt32) &&& (1431655765))) &&& (858993459)) + (((((nI x) - ((((nI x).toUInt32 >>> ((nI 1).toUInt32 &&& Int32.toUInt32 31)).toInt32) &&& (1431655765))).toUInt32 >>> ((nI 2).toUInt32 &&& Int32.toUInt32 31)).toInt32) &&& (858993459))).toUInt32 >>> ((nI 4).toUInt32 &&& Int32.toUInt32 31)).toInt32)) &&& (252645135)) + ((((((((nI x) - ((((nI x).toUInt32 >>> ((nI 1).toUInt32 &&& Int32.toUInt32 31)).toInt32) &&& (1431655765))) &&& (858993459)) + (((((nI x) - ((((nI x).toUInt32 >>> ((nI 1).toUInt32 &&& Int32.toUInt32 31)).toInt32) &&& (1431655765))).toUInt32 >>> ((nI 2).toUInt32 &&& Int32.toUInt32 31)).toInt32) &&& (858993459))) + ((((((nI x) - ((((nI x).toUInt32 >>> ((nI 1).toUInt32 &&& Int32.toUInt32 31)).toInt32) &&& (1431655765))) &&& (858993459)) + (((((nI x) - ((((nI x).toUInt32 >>> ((nI 1).toUInt32 &&& Int32.toUInt32 31)).toInt32) &&& (1431655765))).toUInt32 >>> ((nI 2).toUInt32 &&& Int32.toUInt32 31)).toInt32) &&& (858993459))).toUInt32 >>> ((nI 4).toUInt32 &&& Int32.toUInt32 31)).toInt32)) &&& (252645135)).toUInt32 >>> ((nI 8).toUInt32 &&& Int32.toUInt32 31)).toInt32)).toUInt32 >>> ((nI 16).toUInt32 &&& Int32.toUInt32 31)).toInt32)))]) hx hb dJ6_bitCount_0f7a4_47 rfl hl (by decide) rfl (fun ls hl => ?_)
  refine lv_iload_n hx hb dJ6_bitCount_0f7a4_48 rfl (lv_at hl 0 rfl) ?_
  refine lv_bipush (v := nI 63) hx hb dJ6_bitCount_0f7a4_49 (by decide) ?_
  refine lv_iand hx hb dJ6_bitCount_0f7a4_51 ?_
  exact zr_i hC hr hlk (by have h9 : ∀ x9, x9 < 64 → (((((((((nI x9) - ((((nI x9).toUInt32 >>> ((nI 1).toUInt32 &&& Int32.toUInt32 31)).toInt32) &&& (1431655765))) &&& (858993459)) + (((((nI x9) - ((((nI x9).toUInt32 >>> ((nI 1).toUInt32 &&& Int32.toUInt32 31)).toInt32) &&& (1431655765))).toUInt32 >>> ((nI 2).toUInt32 &&& Int32.toUInt32 31)).toInt32) &&& (858993459))) + ((((((nI x9) - ((((nI x9).toUInt32 >>> ((nI 1).toUInt32 &&& Int32.toUInt32 31)).toInt32) &&& (1431655765))) &&& (858993459)) + (((((nI x9) - ((((nI x9).toUInt32 >>> ((nI 1).toUInt32 &&& Int32.toUInt32 31)).toInt32) &&& (1431655765))).toUInt32 >>> ((nI 2).toUInt32 &&& Int32.toUInt32 31)).toInt32) &&& (858993459))).toUInt32 >>> ((nI 4).toUInt32 &&& Int32.toUInt32 31)).toInt32)) &&& (252645135)) + ((((((((nI x9) - ((((nI x9).toUInt32 >>> ((nI 1).toUInt32 &&& Int32.toUInt32 31)).toInt32) &&& (1431655765))) &&& (858993459)) + (((((nI x9) - ((((nI x9).toUInt32 >>> ((nI 1).toUInt32 &&& Int32.toUInt32 31)).toInt32) &&& (1431655765))).toUInt32 >>> ((nI 2).toUInt32 &&& Int32.toUInt32 31)).toInt32) &&& (858993459))) + ((((((nI x9) - ((((nI x9).toUInt32 >>> ((nI 1).toUInt32 &&& Int32.toUInt32 31)).toInt32) &&& (1431655765))) &&& (858993459)) + (((((nI x9) - ((((nI x9).toUInt32 >>> ((nI 1).toUInt32 &&& Int32.toUInt32 31)).toInt32) &&& (1431655765))).toUInt32 >>> ((nI 2).toUInt32 &&& Int32.toUInt32 31)).toInt32) &&& (858993459))).toUInt32 >>> ((nI 4).toUInt32 &&& Int32.toUInt32 31)).toInt32)) &&& (252645135)).toUInt32 >>> ((nI 8).toUInt32 &&& Int32.toUInt32 31)).toInt32)) + (((((((((nI x9) - ((((nI x9).toUInt32 >>> ((nI 1).toUInt32 &&& Int32.toUInt32 31)).toInt32) &&& (1431655765))) &&& (858993459)) + (((((nI x9) - ((((nI x9).toUInt32 >>> ((nI 1).toUInt32 &&& Int32.toUInt32 31)).toInt32) &&& (1431655765))).toUInt32 >>> ((nI 2).toUInt32 &&& Int32.toUInt32 31)).toInt32) &&& (858993459))) + ((((((nI x9) - ((((nI x9).toUInt32 >>> ((nI 1).toUInt32 &&& Int32.toUInt32 31)).toInt32) &&& (1431655765))) &&& (858993459)) + (((((nI x9) - ((((nI x9).toUInt32 >>> ((nI 1).toUInt32 &&& Int32.toUInt32 31)).toInt32) &&& (1431655765))).toUInt32 >>> ((nI 2).toUInt32 &&& Int32.toUInt32 31)).toInt32) &&& (858993459))).toUInt32 >>> ((nI 4).toUInt32 &&& Int32.toUInt32 31)).toInt32)) &&& (252645135)) + ((((((((nI x9) - ((((nI x9).toUInt32 >>> ((nI 1).toUInt32 &&& Int32.toUInt32 31)).toInt32) &&& (1431655765))) &&& (858993459)) + (((((nI x9) - ((((nI x9).toUInt32 >>> ((nI 1).toUInt32 &&& Int32.toUInt32 31)).toInt32) &&& (1431655765))).toUInt32 >>> ((nI 2).toUInt32 &&& Int32.toUInt32 31)).toInt32) &&& (858993459))) + ((((((nI x9) - ((((nI x9).toUInt32 >>> ((nI 1).toUInt32 &&& Int32.toUInt32 31)).toInt32) &&& (1431655765))) &&& (858993459)) + (((((nI x9) - ((((nI x9).toUInt32 >>> ((nI 1).toUInt32 &&& Int32.toUInt32 31)).toInt32) &&& (1431655765))).toUInt32 >>> ((nI 2).toUInt32 &&& Int32.toUInt32 31)).toInt32) &&& (858993459))).toUInt32 >>> ((nI 4).toUInt32 &&& Int32.toUInt32 31)).toInt32)) &&& (252645135)).toUInt32 >>> ((nI 8).toUInt32 &&& Int32.toUInt32 31)).toInt32)).toUInt32 >>> ((nI 16).toUInt32 &&& Int32.toUInt32 31)).toInt32)) &&& (nI 63)) = nI (popc x9) := (by decide +kernel); exact h9 x hx9) dJ6_bitCount_0f7a4_52
set_option maxHeartbeats 1000000 in
set_option maxRecDepth 100000 in
theorem c_X1_qualitiesNeeded {l : Launch} {D : va_G} {cI cZ cB cR : ClassId} {b : Nat} {n lvA aiA laA ac woA drA : Nat} {r : Nat → Nat} {dr : Nat → Nat → Nat} {a : Nat} (hn : n ≤ 6) (hac : ac ≤ 5) (hdr : ∀ i j, dr i j ≤ 9) (ha : a < ac) : mR l yX1_qualitiesNeeded cX1_qualitiesNeeded 4 (some .int) 1 22 D cI cZ cB cR [oB b n lvA aiA laA ac woA drA, aR cR drA 5 r, aI cI (r 0) 6 (dr 0), aI cI (r 1) 6 (dr 1), aI cI (r 2) 6 (dr 2), aI cI (r 3) 6 (dr 3), aI cI (r 4) 6 (dr 4)] [.ref b, .int (nI a)] (some (.int (nI (orr (fun i => decide (0 < dr a i)) n)))) := by
  refine mR_of rfl (Nat.le_of_ble_eq_true rfl) ?_
  intro p e s m args below meth c hC hr hlk hK hP ls hl
  have hl : lv_has ls 4 [(0, .ref b), (1, .int (nI a))] := hl
  obtain ⟨hx, hb, hml, hown, hts⟩ := id hC
  refine lv_iconst (v := nI 0) hx hb dX1_qualitiesNeeded_0 (by decide) ?_
  refine lv_istore_n (lv' := [(2, .int (nI 0)), (0, .ref b), (1, .int (nI a))]) hx hb dX1_qualitiesNeeded_1 rfl hl (by decide) rfl (fun ls hl => ?_)
  refine lv_iconst (v := nI 0) hx hb dX1_qualitiesNeeded_2 (by decide) ?_
  refine lv_istore_n (lv' := [(3, .int (nI 0)), (2, .int (nI 0)), (0, .ref b), (1, .int (nI a))]) hx hb dX1_qualitiesNeeded_3 rfl hl (by decide) rfl (fun ls hl => ?_)
  have hL4 : ∀ (z4 : Nat) (d : Nat) (x : Nat), n - d = z4 → d ≤ n → x = orr (fun i => decide (0 < dr a i)) d → ∀ ls : Array Slot, lv_has ls 4 [(0, .ref b), (1, .int (nI a)), (2, .int (nI x)), (3, .int (nI d))] → W p l e { frames := 1, cells := 0, slots := 0, locals := 22 } s m args below meth c s.heap [] 0 0 (MQ below (qR (some (.int (nI (orr (fun i => decide (0 < dr a i)) n))))) args s 0 0 (fun _ => False)) (F0 m 4 ls []) := by
    intro z4
    induction z4 using Nat.strongRecOn with
    | _ z4 ih4 =>
    intro d x hz4 hd hx9 ls hl
    refine lv_iload_n hx hb dX1_qualitiesNeeded_4 rfl (lv_at hl 3 rfl) ?_
    refine lv_aload_n hx hb dX1_qualitiesNeeded_5 rfl (lv_at hl 0 rfl) ?_
    refine z_get (k := 0) zcX1 hC hK hP 0 rfl (by decide) lF_X1_9 rfl dX1_qualitiesNeeded_6 ?_
    refine zc_ge (tgt := 33) hC dX1_qualitiesNeeded_9 (by decide) (by omega) (by omega) (fun c9 => ?_) (fun c9 => ?_)
    · skip
      refine lv_iload_n hx hb dX1_qualitiesNeeded_33 rfl (lv_at hl 2 rfl) ?_
      exact zr_i hC hr hlk (by rw [hx9, show d = n by omega]) dX1_qualitiesNeeded_34
    · skip
      refine lv_aload_n hx hb dX1_qualitiesNeeded_12 rfl (lv_at hl 0 rfl) ?_
      refine lv_iload_n hx hb dX1_qualitiesNeeded_13 rfl (lv_at hl 1 rfl) ?_
      refine lv_iload_n hx hb dX1_qualitiesNeeded_14 rfl (lv_at hl 3 rfl) ?_
      refine zRV (As := [.int (nI a), .int (nI d)]) (b := b) (rest := []) hC (c_X1_dropsNeeded (l := l) (hn := hn) (hac := hac) (ha := ha) (hd := by omega)) lM_X1_36 vM_X1_dropsNeeded (by decide) hK hP [0, 1, 2, 3, 4, 5, 6] rfl ⟨rfl, rfl, rfl⟩ rfl hl.1 rfl (Nat.le_of_ble_eq_true rfl) dX1_qualitiesNeeded_15 (by decide) ?_
      show W _ _ _ _ _ _ _ _ _ _ _ _ _ _ _ (F0 m 18 ls [.int (nI (dr a d))])
      have b18 := hdr a d
      refine z0_le (tgt := 27) hC dX1_qualitiesNeeded_18 (by decide) (by omega) (fun c18 => ?_) (fun c18 => ?_)
      · skip
        refine lv_iinc (v := nI (d + 1)) (lv' := [(3, .int (nI (d + 1))), (0, .ref b), (1, .int (nI a)), (2, .int (nI x))]) hx hb dX1_qualitiesNeeded_27 hl (k := 3) rfl (z_inc d 1) (by decide) rfl (fun ls hl => ?_)
        refine lv_goto (tgt := 4) hx hb dX1_qualitiesNeeded_30 (by decide) ?_
        exact ih4 (n - (d + 1)) (by omega) (d + 1) x rfl (by omega) (by rw [hx9, orr_s]; first | exact (if_pos (decide_eq_true c18)).symm | exact (if_neg (by rw [c18]; decide)).symm) ls (lv_sub hl [1, 2, 3, 0] rfl)
      · skip
        refine lv_iload_n hx hb dX1_qualitiesNeeded_21 rfl (lv_at hl 2 rfl) ?_
        refine lv_iconst (v := nI 1) hx hb dX1_qualitiesNeeded_22 (by decide) ?_
        refine lv_iload_n hx hb dX1_qualitiesNeeded_23 rfl (lv_at hl 3 rfl) ?_
        refine zi_shl1 hC dX1_qualitiesNeeded_24 (by omega) ?_
        refine zi_or hC dX1_qualitiesNeeded_25 ?_
        refine lv_istore_n (lv' := [(2, .int (nI (x ||| (2 ^ d)))), (0, .ref b), (1, .int (nI a)), (3, .int (nI d))]) hx hb dX1_qualitiesNeeded_26 rfl hl (by decide) rfl (fun ls hl => ?_)
        refine lv_iinc (v := nI (d + 1)) (lv' := [(3, .int (nI (d + 1))), (2, .int (nI (x ||| (2 ^ d)))), (0, .ref b), (1, .int (nI a))]) hx hb dX1_qualitiesNeeded_27 hl (k := 3) rfl (z_inc d 1) (by decide) rfl (fun ls hl => ?_)
        refine lv_goto (tgt := 4) hx hb dX1_qualitiesNeeded_30 (by decide) ?_
        exact ih4 (n - (d + 1)) (by omega) (d + 1) (x ||| (2 ^ d)) rfl (by omega) (by rw [hx9, orr_s]; first | exact (if_pos (decide_eq_true c18)).symm | exact (if_neg (by rw [c18]; decide)).symm) ls (lv_sub hl [2, 3, 1, 0] rfl)
  exact hL4 _ 0 0 rfl (by omega) (by rfl) ls (lv_sub hl [2, 3, 1, 0] rfl)
set_option maxHeartbeats 1000000 in
set_option maxRecDepth 100000 in
theorem c_X1_worthOf {l : Launch} {D : va_G} {cI cZ cB cR : ClassId} {b : Nat} {n lvA aiA laA ac woA drA : Nat} {wo : Nat → Nat} {st9 : Nat} (hac : ac ≤ 5) (hst : st9 < 2 ^ 31) : mR l yX1_worthOf cX1_worthOf 4 (some .int) 1 21 D cI cZ cB cR [oB b n lvA aiA laA ac woA drA, aI cI woA 5 wo] [.ref b, .int (nI st9)] (some (.int (nI (sm (fun i => if st9.testBit i then wo i else 0) ac)))) := by
  refine mR_of rfl (Nat.le_of_ble_eq_true rfl) ?_
  intro p e s m args below meth c hC hr hlk hK hP ls hl
  have hl : lv_has ls 4 [(0, .ref b), (1, .int (nI st9))] := hl
  obtain ⟨hx, hb, hml, hown, hts⟩ := id hC
  refine lv_iconst (v := nI 0) hx hb dX1_worthOf_0 (by decide) ?_
  refine lv_istore_n (lv' := [(2, .int (nI 0)), (0, .ref b), (1, .int (nI st9))]) hx hb dX1_worthOf_1 rfl hl (by decide) rfl (fun ls hl => ?_)
  refine lv_iconst (v := nI 0) hx hb dX1_worthOf_2 (by decide) ?_
  refine lv_istore_n (lv' := [(3, .int (nI 0)), (2, .int (nI 0)), (0, .ref b), (1, .int (nI st9))]) hx hb dX1_worthOf_3 rfl hl (by decide) rfl (fun ls hl => ?_)
  have hL4 : ∀ (z4 : Nat) (i : Nat) (x : Nat), ac - i = z4 → i ≤ ac → x = sm (fun i => if st9.testBit i then wo i else 0) i → ∀ ls : Array Slot, lv_has ls 4 [(0, .ref b), (1, .int (nI st9)), (2, .int (nI x)), (3, .int (nI i))] → W p l e { frames := 1, cells := 0, slots := 0, locals := 21 } s m args below meth c s.heap [] 0 0 (MQ below (qR (some (.int (nI (sm (fun i => if st9.testBit i then wo i else 0) ac))))) args s 0 0 (fun _ => False)) (F0 m 4 ls []) := by
    intro z4
    induction z4 using Nat.strongRecOn with
    | _ z4 ih4 =>
    intro i x hz4 hi hx9 ls hl
    refine lv_iload_n hx hb dX1_worthOf_4 rfl (lv_at hl 3 rfl) ?_
    refine lv_aload_n hx hb dX1_worthOf_5 rfl (lv_at hl 0 rfl) ?_
    refine z_get (k := 4) zcX1 hC hK hP 0 rfl (by decide) lF_X1_25 rfl dX1_worthOf_6 ?_
    refine zc_ge (tgt := 35) hC dX1_worthOf_9 (by decide) (by omega) (by omega) (fun c9 => ?_) (fun c9 => ?_)
    · skip
      refine lv_iload_n hx hb dX1_worthOf_35 rfl (lv_at hl 2 rfl) ?_
      exact zr_i hC hr hlk (by rw [hx9, show i = ac by omega]) dX1_worthOf_36
    · skip
      refine lv_iload_n hx hb dX1_worthOf_12 rfl (lv_at hl 1 rfl) ?_
      refine lv_iload_n hx hb dX1_worthOf_13 rfl (lv_at hl 3 rfl) ?_
      refine zRSN (As := [.int (nI st9), .int (nI i)]) (rest := []) hC (c_X3_has (l := l) (b := st9) (i := i) (hb9 := by omega) (hi := by omega)) lM_X1_40 sM_X3_has (by decide) hK rfl hl.1 rfl (Nat.le_of_ble_eq_true rfl) dX1_worthOf_14 (by decide) ?_
      show W _ _ _ _ _ _ _ _ _ _ _ _ _ _ _ (F0 m 17 ls [.int (bI (st9.testBit i))])
      refine zb_eq (tgt := 29) hC dX1_worthOf_17 (by decide) (fun c17 => ?_) (fun c17 => ?_)
      · skip
        refine lv_iinc (v := nI (i + 1)) (lv' := [(3, .int (nI (i + 1))), (0, .ref b), (1, .int (nI st9)), (2, .int (nI x))]) hx hb dX1_worthOf_29 hl (k := 3) rfl (z_inc i 1) (by decide) rfl (fun ls hl => ?_)
        refine lv_goto (tgt := 4) hx hb dX1_worthOf_32 (by decide) ?_
        exact ih4 (ac - (i + 1)) (by omega) (i + 1) x rfl (by omega) (by rw [hx9, sm_s]; simp [c17]) ls (lv_sub hl [1, 2, 3, 0] rfl)
      · skip
        refine lv_iload_n hx hb dX1_worthOf_20 rfl (lv_at hl 2 rfl) ?_
        refine lv_aload_n hx hb dX1_worthOf_21 rfl (lv_at hl 0 rfl) ?_
        refine z_get (k := 5) zcX1 hC hK hP 0 rfl (by decide) lF_X1_28 rfl dX1_worthOf_22 ?_
        refine lv_iload_n hx hb dX1_worthOf_25 rfl (lv_at hl 3 rfl) ?_
        refine z_ald hC hK hP 1 rfl (by omega) (by decide) dX1_worthOf_26 ?_
        refine zi_add hC dX1_worthOf_27 ?_
        refine lv_istore_n (lv' := [(2, .int (nI (x + (wo i)))), (0, .ref b), (1, .int (nI st9)), (3, .int (nI i))]) hx hb dX1_worthOf_28 rfl hl (by decide) rfl (fun ls hl => ?_)
        refine lv_iinc (v := nI (i + 1)) (lv' := [(3, .int (nI (i + 1))), (2, .int (nI (x + (wo i)))), (0, .ref b), (1, .int (nI st9))]) hx hb dX1_worthOf_29 hl (k := 3) rfl (z_inc i 1) (by decide) rfl (fun ls hl => ?_)
        refine lv_goto (tgt := 4) hx hb dX1_worthOf_32 (by decide) ?_
        exact ih4 (ac - (i + 1)) (by omega) (i + 1) (x + (wo i)) rfl (by omega) (by rw [hx9, sm_s]; simp [c17]) ls (lv_sub hl [2, 3, 1, 0] rfl)
  exact hL4 _ 0 0 rfl (by omega) (by rfl) ls (lv_sub hl [2, 3, 1, 0] rfl)
set_option maxHeartbeats 1000000 in
set_option maxRecDepth 100000 in
theorem c_X3_markOfAct {l : Launch} {D : va_G} {cI cZ cB cR : ClassId} {q t b b2 pp i1 i2 kept tn tw td : Nat} {tr : Int64} {n lvA aiA laA ac woA drA : Nat} {wo : Nat → Nat} {a : Nat} (hac : ac ≤ 5) (ha : a < ac) : mW l yX3_markOfAct cX3_markOfAct 2 (some .int) 0 0 D cI cZ cB cR [oK q t b b2 pp i1 i2 kept tn tw td tr, oB b n lvA aiA laA ac woA drA, aI cI woA 5 wo] [oK q t b b2 pp i1 i2 kept tn tw td (tr + 1), oB b n lvA aiA laA ac woA drA, aI cI woA 5 wo] [.ref q, .int (nI a)] (some (.int (nI (wo a)))) := by
  refine mW_of rfl (Nat.le_of_ble_eq_true rfl) ?_
  intro p e s m args below meth c hC hr hlk hK A hA hD H0 h0 hP hS ls hl
  have hP : va_P D vwCl [oK q t b b2 pp i1 i2 kept tn tw td tr, oB b n lvA aiA laA ac woA drA, aI cI woA 5 wo] H0 := hP
  have hl : lv_has ls 2 [(0, .ref q), (1, .int (nI a))] := hl
  obtain ⟨hx, hb, hml, hown, hts⟩ := id hC
  refine lv_aload_n hx hb dX3_markOfAct_0 rfl (lv_at hl 0 rfl) ?_
  refine lv_dup hx hb dX3_markOfAct_1 rfl ?_
  refine z_get (k := 10) zcX3 hC hK hP 0 rfl (by decide) lF_X3_54 rfl dX3_markOfAct_2 ?_
  refine lv_lconst (v := 1) hx hb dX3_markOfAct_5 (by decide) ?_
  refine lv_ladd hx hb dX3_markOfAct_6 ?_
  refine z_put (k := 10) zcX3 hC hK hP hD hS 0 rfl (by decide) lF_X3_54 rfl rfl rfl (Nat.le_of_ble_eq_true rfl) dX3_markOfAct_7 (fun H locs hP hD hS => ?_)
  have hP : va_P D vwCl [oK q t b b2 pp i1 i2 kept tn tw td (tr + 1), oB b n lvA aiA laA ac woA drA, aI cI woA 5 wo] H := hP
  have hD : va_D A [oK q t b b2 pp i1 i2 kept tn tw td (tr + 1), oB b n lvA aiA laA ac woA drA, aI cI woA 5 wo] := hD
  refine lv_aload_n hx hb dX3_markOfAct_10 rfl (lv_at hl 0 rfl) ?_
  refine z_get (k := 1) zcX3 hC hK hP 0 rfl (by decide) lF_X3_19 rfl dX3_markOfAct_11 ?_
  refine z_get (k := 5) zcX1 hC hK hP 1 rfl (by decide) lF_X3_98 rfl dX3_markOfAct_14 ?_
  refine lv_iload_n hx hb dX3_markOfAct_17 rfl (lv_at hl 1 rfl) ?_
  refine z_ald hC hK hP 2 rfl (by omega) (by decide) dX3_markOfAct_18 ?_
  exact zw_i hC hr hlk hA h0 hP hS (by first | rfl | omega) dX3_markOfAct_19
set_option maxHeartbeats 1000000 in
set_option maxRecDepth 100000 in
theorem c_X3_markOfTreaty {l : Launch} {D : va_G} {cI cZ cB cR : ClassId} {q t b b2 pp i1 i2 kept tn tw td : Nat} {tr : Int64} {n lvA aiA laA ac woA drA : Nat} {wo : Nat → Nat} {r : Nat → Nat} {dr : Nat → Nat → Nat} {a : Nat} (hn : n ≤ 6) (hac : ac ≤ 5) (hdr : ∀ i j, dr i j ≤ 9) (ha : a < ac) : mW l yX3_markOfTreaty cX3_markOfTreaty 2 (some .int) 2 45 D cI cZ cB cR [oK q t b b2 pp i1 i2 kept tn tw td tr, oB b n lvA aiA laA ac woA drA, aI cI woA 5 wo, aR cR drA 5 r, aI cI (r 0) 6 (dr 0), aI cI (r 1) 6 (dr 1), aI cI (r 2) 6 (dr 2), aI cI (r 3) 6 (dr 3), aI cI (r 4) 6 (dr 4)] [oK q t b b2 pp i1 i2 kept tn tw td (tr + (10) + 1), oB b n lvA aiA laA ac woA drA, aI cI woA 5 wo, aR cR drA 5 r, aI cI (r 0) 6 (dr 0), aI cI (r 1) 6 (dr 1), aI cI (r 2) 6 (dr 2), aI cI (r 3) 6 (dr 3), aI cI (r 4) 6 (dr 4)] [.ref q, .int (nI a)] (some (.int (nI (wo a + popc (orr (fun i => decide (0 < dr a i)) n))))) := by
  refine mW_of rfl (Nat.le_of_ble_eq_true rfl) ?_
  intro p e s m args below meth c hC hr hlk hK A hA hD H0 h0 hP hS ls hl
  have hP : va_P D vwCl [oK q t b b2 pp i1 i2 kept tn tw td tr, oB b n lvA aiA laA ac woA drA, aI cI woA 5 wo, aR cR drA 5 r, aI cI (r 0) 6 (dr 0), aI cI (r 1) 6 (dr 1), aI cI (r 2) 6 (dr 2), aI cI (r 3) 6 (dr 3), aI cI (r 4) 6 (dr 4)] H0 := hP
  have hl : lv_has ls 2 [(0, .ref q), (1, .int (nI a))] := hl
  obtain ⟨hx, hb, hml, hown, hts⟩ := id hC
  refine lv_aload_n hx hb dX3_markOfTreaty_0 rfl (lv_at hl 0 rfl) ?_
  refine lv_dup hx hb dX3_markOfTreaty_1 rfl ?_
  refine z_get (k := 10) zcX3 hC hK hP 0 rfl (by decide) lF_X3_54 rfl dX3_markOfTreaty_2 ?_
  refine lv_ldc2 (v := (10)) hx hb hown (hts _ lK_X3_245) dX3_markOfTreaty_5 ?_
  refine lv_ladd hx hb dX3_markOfTreaty_8 ?_
  refine z_put (k := 10) zcX3 hC hK hP hD hS 0 rfl (by decide) lF_X3_54 rfl rfl rfl (Nat.le_of_ble_eq_true rfl) dX3_markOfTreaty_9 (fun H locs hP hD hS => ?_)
  have hP : va_P D vwCl [oK q t b b2 pp i1 i2 kept tn tw td (tr + (10)), oB b n lvA aiA laA ac woA drA, aI cI woA 5 wo, aR cR drA 5 r, aI cI (r 0) 6 (dr 0), aI cI (r 1) 6 (dr 1), aI cI (r 2) 6 (dr 2), aI cI (r 3) 6 (dr 3), aI cI (r 4) 6 (dr 4)] H := hP
  have hD : va_D A [oK q t b b2 pp i1 i2 kept tn tw td (tr + (10)), oB b n lvA aiA laA ac woA drA, aI cI woA 5 wo, aR cR drA 5 r, aI cI (r 0) 6 (dr 0), aI cI (r 1) 6 (dr 1), aI cI (r 2) 6 (dr 2), aI cI (r 3) 6 (dr 3), aI cI (r 4) 6 (dr 4)] := hD
  refine lv_aload_n hx hb dX3_markOfTreaty_12 rfl (lv_at hl 0 rfl) ?_
  refine lv_iload_n hx hb dX3_markOfTreaty_13 rfl (lv_at hl 1 rfl) ?_
  refine zWV (ws1 := [oK q t b b2 pp i1 i2 kept tn tw td ((tr + (10)) + 1), oB b n lvA aiA laA ac woA drA, aI cI woA 5 wo, aR cR drA 5 r, aI cI (r 0) 6 (dr 0), aI cI (r 1) 6 (dr 1), aI cI (r 2) 6 (dr 2), aI cI (r 3) 6 (dr 3), aI cI (r 4) 6 (dr 4)]) (As := [.int (nI a)]) (b := q) (rest := []) hC (c_X3_markOfAct (l := l) (hac := hac) (ha := ha)) lM_X3_195 vM_X3_markOfAct (by decide) hK hP hD hS [0, 1, 2] [3, 4, 5, 6, 7, 8] rfl (by decide) rfl rfl rfl rfl ⟨rfl, rfl, rfl⟩ rfl hl.1 rfl (Nat.le_of_ble_eq_true rfl) dX3_markOfTreaty_14 (by decide) (fun H locs hP hD hS => ?_)
  show W _ _ _ _ _ _ _ _ _ _ _ _ _ _ _ (F0 m 17 ls [.int (nI (wo a))])
  refine lv_aload_n hx hb dX3_markOfTreaty_17 rfl (lv_at hl 0 rfl) ?_
  refine z_get (k := 1) zcX3 hC hK hP 0 rfl (by decide) lF_X3_19 rfl dX3_markOfTreaty_18 ?_
  refine lv_iload_n hx hb dX3_markOfTreaty_21 rfl (lv_at hl 1 rfl) ?_
  refine zRVN (As := [.int (nI a)]) (b := b) (rest := [.int (nI (wo a))]) hC (c_X1_qualitiesNeeded (l := l) (hn := hn) (hac := hac) (hdr := hdr) (ha := ha)) lM_X3_101 vM_X1_qualitiesNeeded (by decide) hK hP [1, 3, 4, 5, 6, 7, 8] rfl ⟨rfl, rfl, rfl⟩ rfl hl.1 rfl (Nat.le_of_ble_eq_true rfl) dX3_markOfTreaty_22 (by decide) ?_
  show W _ _ _ _ _ _ _ _ _ _ _ _ _ _ _ (F0 m 25 ls [.int (nI (orr (fun i => decide (0 < dr a i)) n)), .int (nI (wo a))])
  refine zRS (As := [.int (nI (orr (fun i => decide (0 < dr a i)) n))]) (rest := [.int (nI (wo a))]) hC (c_J6_bitCount_0f7a4 (l := l) (hx9 := Nat.lt_of_lt_of_le (orr_lt _ n) (z_powL6 hn))) lM_X3_183 sM_J6_bitCount_0f7a4 (by decide) hK rfl hl.1 rfl (Nat.le_of_ble_eq_true rfl) dX3_markOfTreaty_25 (by decide) ?_
  show W _ _ _ _ _ _ _ _ _ _ _ _ _ _ _ (F0 m 28 ls [.int (nI (popc (orr (fun i => decide (0 < dr a i)) n))), .int (nI (wo a))])
  refine zi_add hC dX3_markOfTreaty_28 ?_
  exact zw_i hC hr hlk hA h0 hP hS (by first | rfl | omega) dX3_markOfTreaty_29
set_option maxHeartbeats 1000000 in
set_option maxRecDepth 100000 in
theorem c_X3_markOfWar {l : Launch} {D : va_G} {cI cZ cB cR : ClassId} {q t b b2 pp i1 i2 kept tn tw td : Nat} {tr : Int64} {n lvA aiA laA ac woA drA : Nat} {wo : Nat → Nat} {r : Nat → Nat} {dr : Nat → Nat → Nat} {a : Nat} (hn : n ≤ 6) (hac : ac ≤ 5) (ha : a < ac) : mW l yX3_markOfWar cX3_markOfWar 4 (some .int) 1 22 D cI cZ cB cR [oK q t b b2 pp i1 i2 kept tn tw td tr, oB b n lvA aiA laA ac woA drA, aI cI woA 5 wo, aR cR drA 5 r, aI cI (r 0) 6 (dr 0), aI cI (r 1) 6 (dr 1), aI cI (r 2) 6 (dr 2), aI cI (r 3) 6 (dr 3), aI cI (r 4) 6 (dr 4)] [oK q t b b2 pp i1 i2 kept tn tw td (tr + (100) + 1), oB b n lvA aiA laA ac woA drA, aI cI woA 5 wo, aR cR drA 5 r, aI cI (r 0) 6 (dr 0), aI cI (r 1) 6 (dr 1), aI cI (r 2) 6 (dr 2), aI cI (r 3) 6 (dr 3), aI cI (r 4) 6 (dr 4)] [.ref q, .int (nI a)] (some (.int (nI (wo a) - nI (sm (fun i => dr a i) n)))) := by
  refine mW_of rfl (Nat.le_of_ble_eq_true rfl) ?_
  intro p e s m args below meth c hC hr hlk hK A hA hD H0 h0 hP hS ls hl
  have hP : va_P D vwCl [oK q t b b2 pp i1 i2 kept tn tw td tr, oB b n lvA aiA laA ac woA drA, aI cI woA 5 wo, aR cR drA 5 r, aI cI (r 0) 6 (dr 0), aI cI (r 1) 6 (dr 1), aI cI (r 2) 6 (dr 2), aI cI (r 3) 6 (dr 3), aI cI (r 4) 6 (dr 4)] H0 := hP
  have hl : lv_has ls 4 [(0, .ref q), (1, .int (nI a))] := hl
  obtain ⟨hx, hb, hml, hown, hts⟩ := id hC
  refine lv_aload_n hx hb dX3_markOfWar_0 rfl (lv_at hl 0 rfl) ?_
  refine lv_dup hx hb dX3_markOfWar_1 rfl ?_
  refine z_get (k := 10) zcX3 hC hK hP 0 rfl (by decide) lF_X3_54 rfl dX3_markOfWar_2 ?_
  refine lv_ldc2 (v := (100)) hx hb hown (hts _ lK_X3_247) dX3_markOfWar_5 ?_
  refine lv_ladd hx hb dX3_markOfWar_8 ?_
  refine z_put (k := 10) zcX3 hC hK hP hD hS 0 rfl (by decide) lF_X3_54 rfl rfl rfl (Nat.le_of_ble_eq_true rfl) dX3_markOfWar_9 (fun H locs hP hD hS => ?_)
  have hP : va_P D vwCl [oK q t b b2 pp i1 i2 kept tn tw td (tr + (100)), oB b n lvA aiA laA ac woA drA, aI cI woA 5 wo, aR cR drA 5 r, aI cI (r 0) 6 (dr 0), aI cI (r 1) 6 (dr 1), aI cI (r 2) 6 (dr 2), aI cI (r 3) 6 (dr 3), aI cI (r 4) 6 (dr 4)] H := hP
  have hD : va_D A [oK q t b b2 pp i1 i2 kept tn tw td (tr + (100)), oB b n lvA aiA laA ac woA drA, aI cI woA 5 wo, aR cR drA 5 r, aI cI (r 0) 6 (dr 0), aI cI (r 1) 6 (dr 1), aI cI (r 2) 6 (dr 2), aI cI (r 3) 6 (dr 3), aI cI (r 4) 6 (dr 4)] := hD
  refine lv_iconst (v := nI 0) hx hb dX3_markOfWar_12 (by decide) ?_
  refine lv_istore_n (lv' := [(2, .int (nI 0)), (0, .ref q), (1, .int (nI a))]) hx hb dX3_markOfWar_13 rfl hl (by decide) rfl (fun ls hl => ?_)
  refine lv_iconst (v := nI 0) hx hb dX3_markOfWar_14 (by decide) ?_
  refine lv_istore_n (lv' := [(3, .int (nI 0)), (2, .int (nI 0)), (0, .ref q), (1, .int (nI a))]) hx hb dX3_markOfWar_15 rfl hl (by decide) rfl (fun ls hl => ?_)
  have hL16 : ∀ (z16 : Nat) (d : Nat) (x : Nat), n - d = z16 → d ≤ n → x = sm (fun i => dr a i) d → ∀ (H : Heap) (locs : List Loc), va_P D vwCl [oK q t b b2 pp i1 i2 kept tn tw td (tr + (100)), oB b n lvA aiA laA ac woA drA, aI cI woA 5 wo, aR cR drA 5 r, aI cI (r 0) 6 (dr 0), aI cI (r 1) 6 (dr 1), aI cI (r 2) 6 (dr 2), aI cI (r 3) 6 (dr 3), aI cI (r 4) 6 (dr 4)] H → va_D A [oK q t b b2 pp i1 i2 kept tn tw td (tr + (100)), oB b n lvA aiA laA ac woA drA, aI cI woA 5 wo, aR cR drA 5 r, aI cI (r 0) 6 (dr 0), aI cI (r 1) 6 (dr 1), aI cI (r 2) 6 (dr 2), aI cI (r 3) 6 (dr 3), aI cI (r 4) 6 (dr 4)] → va_S A H0 H locs → ∀ ls : Array Slot, lv_has ls 4 [(0, .ref q), (1, .int (nI a)), (2, .int (nI x)), (3, .int (nI d))] → W p l e { frames := 1, cells := 0, slots := 0, locals := 22 } s m args below meth c H locs 0 0 (MQ below (qW D [oK q t b b2 pp i1 i2 kept tn tw td tr, oB b n lvA aiA laA ac woA drA, aI cI woA 5 wo, aR cR drA 5 r, aI cI (r 0) 6 (dr 0), aI cI (r 1) 6 (dr 1), aI cI (r 2) 6 (dr 2), aI cI (r 3) 6 (dr 3), aI cI (r 4) 6 (dr 4)] [oK q t b b2 pp i1 i2 kept tn tw td (tr + (100) + 1), oB b n lvA aiA laA ac woA drA, aI cI woA 5 wo, aR cR drA 5 r, aI cI (r 0) 6 (dr 0), aI cI (r 1) 6 (dr 1), aI cI (r 2) 6 (dr 2), aI cI (r 3) 6 (dr 3), aI cI (r 4) 6 (dr 4)] (some (.int (nI (wo a) - nI (sm (fun i => dr a i) n))))) args s 0 0 (zA [oK q t b b2 pp i1 i2 kept tn tw td tr, oB b n lvA aiA laA ac woA drA, aI cI woA 5 wo, aR cR drA 5 r, aI cI (r 0) 6 (dr 0), aI cI (r 1) 6 (dr 1), aI cI (r 2) 6 (dr 2), aI cI (r 3) 6 (dr 3), aI cI (r 4) 6 (dr 4)])) (F0 m 16 ls []) := by
    intro z16
    induction z16 using Nat.strongRecOn with
    | _ z16 ih16 =>
    intro d x hz16 hd hx9 H locs hP hD hS ls hl
    refine lv_iload_n hx hb dX3_markOfWar_16 rfl (lv_at hl 3 rfl) ?_
    refine lv_aload_n hx hb dX3_markOfWar_17 rfl (lv_at hl 0 rfl) ?_
    refine z_get (k := 1) zcX3 hC hK hP 0 rfl (by decide) lF_X3_19 rfl dX3_markOfWar_18 ?_
    refine z_get (k := 0) zcX1 hC hK hP 1 rfl (by decide) lF_X3_123 rfl dX3_markOfWar_21 ?_
    refine zc_ge (tgt := 45) hC dX3_markOfWar_24 (by decide) (by omega) (by omega) (fun c24 => ?_) (fun c24 => ?_)
    · skip
      refine lv_aload_n hx hb dX3_markOfWar_45 rfl (lv_at hl 0 rfl) ?_
      refine lv_iload_n hx hb dX3_markOfWar_46 rfl (lv_at hl 1 rfl) ?_
      refine zWV (ws1 := [oK q t b b2 pp i1 i2 kept tn tw td ((tr + (100)) + 1), oB b n lvA aiA laA ac woA drA, aI cI woA 5 wo, aR cR drA 5 r, aI cI (r 0) 6 (dr 0), aI cI (r 1) 6 (dr 1), aI cI (r 2) 6 (dr 2), aI cI (r 3) 6 (dr 3), aI cI (r 4) 6 (dr 4)]) (As := [.int (nI a)]) (b := q) (rest := []) hC (c_X3_markOfAct (l := l) (hac := hac) (ha := ha)) lM_X3_195 vM_X3_markOfAct (by decide) hK hP hD hS [0, 1, 2] [3, 4, 5, 6, 7, 8] rfl (by decide) rfl rfl rfl rfl ⟨rfl, rfl, rfl⟩ rfl hl.1 rfl (Nat.le_of_ble_eq_true rfl) dX3_markOfWar_47 (by decide) (fun H locs hP hD hS => ?_)
      show W _ _ _ _ _ _ _ _ _ _ _ _ _ _ _ (F0 m 50 ls [.int (nI (wo a))])
      refine lv_iload_n hx hb dX3_markOfWar_50 rfl (lv_at hl 2 rfl) ?_
      refine lv_isub hx hb dX3_markOfWar_51 ?_
      exact zw_i hC hr hlk hA h0 hP hS (by rw [hx9, show d = n by omega]) dX3_markOfWar_52
    · skip
      refine lv_iload_n hx hb dX3_markOfWar_27 rfl (lv_at hl 2 rfl) ?_
      refine lv_aload_n hx hb dX3_markOfWar_28 rfl (lv_at hl 0 rfl) ?_
      refine z_get (k := 1) zcX3 hC hK hP 0 rfl (by decide) lF_X3_19 rfl dX3_markOfWar_29 ?_
      refine lv_iload_n hx hb dX3_markOfWar_32 rfl (lv_at hl 1 rfl) ?_
      refine lv_iload_n hx hb dX3_markOfWar_33 rfl (lv_at hl 3 rfl) ?_
      refine zRVN (As := [.int (nI a), .int (nI d)]) (b := b) (rest := [.int (nI x)]) hC (c_X1_dropsNeeded (l := l) (hn := hn) (hac := hac) (ha := ha) (hd := by omega)) lM_X3_110 vM_X1_dropsNeeded (by decide) hK hP [1, 3, 4, 5, 6, 7, 8] rfl ⟨rfl, rfl, rfl⟩ rfl hl.1 rfl (Nat.le_of_ble_eq_true rfl) dX3_markOfWar_34 (by decide) ?_
      show W _ _ _ _ _ _ _ _ _ _ _ _ _ _ _ (F0 m 37 ls [.int (nI (dr a d)), .int (nI x)])
      refine zi_add hC dX3_markOfWar_37 ?_
      refine lv_istore_n (lv' := [(2, .int (nI (x + (dr a d)))), (0, .ref q), (1, .int (nI a)), (3, .int (nI d))]) hx hb dX3_markOfWar_38 rfl hl (by decide) rfl (fun ls hl => ?_)
      refine lv_iinc (v := nI (d + 1)) (lv' := [(3, .int (nI (d + 1))), (2, .int (nI (x + (dr a d)))), (0, .ref q), (1, .int (nI a))]) hx hb dX3_markOfWar_39 hl (k := 3) rfl (z_inc d 1) (by decide) rfl (fun ls hl => ?_)
      refine lv_goto (tgt := 16) hx hb dX3_markOfWar_42 (by decide) ?_
      exact ih16 (n - (d + 1)) (by omega) (d + 1) (x + (dr a d)) rfl (by omega) (by rw [hx9, sm_s]) _ _ hP hD hS ls (lv_sub hl [2, 3, 1, 0] rfl)
  exact hL16 _ 0 0 rfl (by omega) (by rfl) _ _ hP hD hS ls (lv_sub hl [2, 3, 1, 0] rfl)
set_option maxHeartbeats 1000000 in
set_option maxRecDepth 100000 in
theorem c_X3_markOfPardon {l : Launch} {D : va_G} {cI cZ cB cR : ClassId} {q t b b2 pp i1 i2 kept tn tw td : Nat} {tr : Int64} {n lvA aiA laA ac woA drA : Nat} {wo : Nat → Nat} {r : Nat → Nat} {dr : Nat → Nat → Nat} {a : Nat} (hn : n ≤ 6) (hac : ac ≤ 5) (hdr : ∀ i j, dr i j ≤ 9) (ha : a < ac) : mW l yX3_markOfPardon cX3_markOfPardon 2 (some .int) 3 66 D cI cZ cB cR [oK q t b b2 pp i1 i2 kept tn tw td tr, oB b n lvA aiA laA ac woA drA, aI cI woA 5 wo, aR cR drA 5 r, aI cI (r 0) 6 (dr 0), aI cI (r 1) 6 (dr 1), aI cI (r 2) 6 (dr 2), aI cI (r 3) 6 (dr 3), aI cI (r 4) 6 (dr 4)] [oK q t b b2 pp i1 i2 kept tn tw td (tr + (1000) + (10) + 1), oB b n lvA aiA laA ac woA drA, aI cI woA 5 wo, aR cR drA 5 r, aI cI (r 0) 6 (dr 0), aI cI (r 1) 6 (dr 1), aI cI (r 2) 6 (dr 2), aI cI (r 3) 6 (dr 3), aI cI (r 4) 6 (dr 4)] [.ref q, .int (nI a)] (some (.int (nI ((wo a + popc (orr (fun i => decide (0 < dr a i)) n)) * 2)))) := by
  refine mW_of rfl (Nat.le_of_ble_eq_true rfl) ?_
  intro p e s m args below meth c hC hr hlk hK A hA hD H0 h0 hP hS ls hl
  have hP : va_P D vwCl [oK q t b b2 pp i1 i2 kept tn tw td tr, oB b n lvA aiA laA ac woA drA, aI cI woA 5 wo, aR cR drA 5 r, aI cI (r 0) 6 (dr 0), aI cI (r 1) 6 (dr 1), aI cI (r 2) 6 (dr 2), aI cI (r 3) 6 (dr 3), aI cI (r 4) 6 (dr 4)] H0 := hP
  have hl : lv_has ls 2 [(0, .ref q), (1, .int (nI a))] := hl
  obtain ⟨hx, hb, hml, hown, hts⟩ := id hC
  refine lv_aload_n hx hb dX3_markOfPardon_0 rfl (lv_at hl 0 rfl) ?_
  refine lv_dup hx hb dX3_markOfPardon_1 rfl ?_
  refine z_get (k := 10) zcX3 hC hK hP 0 rfl (by decide) lF_X3_54 rfl dX3_markOfPardon_2 ?_
  refine lv_ldc2 (v := (1000)) hx hb hown (hts _ lK_X3_249) dX3_markOfPardon_5 ?_
  refine lv_ladd hx hb dX3_markOfPardon_8 ?_
  refine z_put (k := 10) zcX3 hC hK hP hD hS 0 rfl (by decide) lF_X3_54 rfl rfl rfl (Nat.le_of_ble_eq_true rfl) dX3_markOfPardon_9 (fun H locs hP hD hS => ?_)
  have hP : va_P D vwCl [oK q t b b2 pp i1 i2 kept tn tw td (tr + (1000)), oB b n lvA aiA laA ac woA drA, aI cI woA 5 wo, aR cR drA 5 r, aI cI (r 0) 6 (dr 0), aI cI (r 1) 6 (dr 1), aI cI (r 2) 6 (dr 2), aI cI (r 3) 6 (dr 3), aI cI (r 4) 6 (dr 4)] H := hP
  have hD : va_D A [oK q t b b2 pp i1 i2 kept tn tw td (tr + (1000)), oB b n lvA aiA laA ac woA drA, aI cI woA 5 wo, aR cR drA 5 r, aI cI (r 0) 6 (dr 0), aI cI (r 1) 6 (dr 1), aI cI (r 2) 6 (dr 2), aI cI (r 3) 6 (dr 3), aI cI (r 4) 6 (dr 4)] := hD
  refine lv_aload_n hx hb dX3_markOfPardon_12 rfl (lv_at hl 0 rfl) ?_
  refine lv_iload_n hx hb dX3_markOfPardon_13 rfl (lv_at hl 1 rfl) ?_
  refine zWV (ws1 := [oK q t b b2 pp i1 i2 kept tn tw td ((tr + (1000)) + (10) + 1), oB b n lvA aiA laA ac woA drA, aI cI woA 5 wo, aR cR drA 5 r, aI cI (r 0) 6 (dr 0), aI cI (r 1) 6 (dr 1), aI cI (r 2) 6 (dr 2), aI cI (r 3) 6 (dr 3), aI cI (r 4) 6 (dr 4)]) (As := [.int (nI a)]) (b := q) (rest := []) hC (c_X3_markOfTreaty (l := l) (hn := hn) (hac := hac) (hdr := hdr) (ha := ha)) lM_X3_198 vM_X3_markOfTreaty (by decide) hK hP hD hS [0, 1, 2, 3, 4, 5, 6, 7, 8] [] rfl (by decide) rfl rfl rfl rfl ⟨rfl, rfl, rfl⟩ rfl hl.1 rfl (Nat.le_of_ble_eq_true rfl) dX3_markOfPardon_14 (by decide) (fun H locs hP hD hS => ?_)
  show W _ _ _ _ _ _ _ _ _ _ _ _ _ _ _ (F0 m 17 ls [.int (nI (wo a + popc (orr (fun i => decide (0 < dr a i)) n)))])
  refine lv_iconst (v := nI 2) hx hb dX3_markOfPardon_17 (by decide) ?_
  refine zi_mul hC dX3_markOfPardon_18 ?_
  exact zw_i hC hr hlk hA h0 hP hS (by first | rfl | omega) dX3_markOfPardon_19
set_option maxHeartbeats 1000000 in
set_option maxRecDepth 100000 in
theorem c_X3_markOfHunt {l : Launch} {D : va_G} {cI cZ cB cR : ClassId} {q t b b2 pp i1 i2 kept tn tw td : Nat} {tr : Int64} {n lvA aiA laA ac woA drA : Nat} {wo : Nat → Nat} {r : Nat → Nat} {dr : Nat → Nat → Nat} {k9 : Int64} {pl pt pa mo dn ea bn stA k : Nat} {a : Nat} (hn : n ≤ 6) (hac : ac ≤ 5) (ha : a < ac) (hk9 : k9 = 10000) : mW l yX3_markOfHunt cX3_markOfHunt 2 (some .int) 2 45 D cI cZ cB cR [oK q t b b2 pp i1 i2 kept tn tw td tr, oB b n lvA aiA laA ac woA drA, aI cI woA 5 wo, aR cR drA 5 r, aI cI (r 0) 6 (dr 0), aI cI (r 1) 6 (dr 1), aI cI (r 2) 6 (dr 2), aI cI (r 3) 6 (dr 3), aI cI (r 4) 6 (dr 4), oP pp pl pt pa mo dn ea bn stA k] [oK q t b b2 pp i1 i2 kept tn tw td (tr + k9 + (100) + 1), oB b n lvA aiA laA ac woA drA, aI cI woA 5 wo, aR cR drA 5 r, aI cI (r 0) 6 (dr 0), aI cI (r 1) 6 (dr 1), aI cI (r 2) 6 (dr 2), aI cI (r 3) 6 (dr 3), aI cI (r 4) 6 (dr 4), oP pp pl pt pa mo dn ea bn stA k] [.ref q, .int (nI a)] (some (.int (nI (wo a) - nI (sm (fun i => dr a i) n) + nI bn))) := by
  refine mW_of rfl (Nat.le_of_ble_eq_true rfl) ?_
  intro p e s m args below meth c hC hr hlk hK A hA hD H0 h0 hP hS ls hl
  have hP : va_P D vwCl [oK q t b b2 pp i1 i2 kept tn tw td tr, oB b n lvA aiA laA ac woA drA, aI cI woA 5 wo, aR cR drA 5 r, aI cI (r 0) 6 (dr 0), aI cI (r 1) 6 (dr 1), aI cI (r 2) 6 (dr 2), aI cI (r 3) 6 (dr 3), aI cI (r 4) 6 (dr 4), oP pp pl pt pa mo dn ea bn stA k] H0 := hP
  have hl : lv_has ls 2 [(0, .ref q), (1, .int (nI a))] := hl
  obtain ⟨hx, hb, hml, hown, hts⟩ := id hC
  refine lv_aload_n hx hb dX3_markOfHunt_0 rfl (lv_at hl 0 rfl) ?_
  refine lv_dup hx hb dX3_markOfHunt_1 rfl ?_
  refine z_get (k := 10) zcX3 hC hK hP 0 rfl (by decide) lF_X3_54 rfl dX3_markOfHunt_2 ?_
  refine lv_ldc2 (v := (10000)) hx hb hown (hts _ lK_X3_251) dX3_markOfHunt_5 ?_
  refine z_topl (show (10000) = k9 from by exact hk9.symm) ?_
  refine lv_ladd hx hb dX3_markOfHunt_8 ?_
  refine z_put (k := 10) zcX3 hC hK hP hD hS 0 rfl (by decide) lF_X3_54 rfl rfl rfl (Nat.le_of_ble_eq_true rfl) dX3_markOfHunt_9 (fun H locs hP hD hS => ?_)
  have hP : va_P D vwCl [oK q t b b2 pp i1 i2 kept tn tw td (tr + k9), oB b n lvA aiA laA ac woA drA, aI cI woA 5 wo, aR cR drA 5 r, aI cI (r 0) 6 (dr 0), aI cI (r 1) 6 (dr 1), aI cI (r 2) 6 (dr 2), aI cI (r 3) 6 (dr 3), aI cI (r 4) 6 (dr 4), oP pp pl pt pa mo dn ea bn stA k] H := hP
  have hD : va_D A [oK q t b b2 pp i1 i2 kept tn tw td (tr + k9), oB b n lvA aiA laA ac woA drA, aI cI woA 5 wo, aR cR drA 5 r, aI cI (r 0) 6 (dr 0), aI cI (r 1) 6 (dr 1), aI cI (r 2) 6 (dr 2), aI cI (r 3) 6 (dr 3), aI cI (r 4) 6 (dr 4), oP pp pl pt pa mo dn ea bn stA k] := hD
  refine lv_aload_n hx hb dX3_markOfHunt_12 rfl (lv_at hl 0 rfl) ?_
  refine lv_iload_n hx hb dX3_markOfHunt_13 rfl (lv_at hl 1 rfl) ?_
  refine zWV (ws1 := [oK q t b b2 pp i1 i2 kept tn tw td ((tr + k9) + (100) + 1), oB b n lvA aiA laA ac woA drA, aI cI woA 5 wo, aR cR drA 5 r, aI cI (r 0) 6 (dr 0), aI cI (r 1) 6 (dr 1), aI cI (r 2) 6 (dr 2), aI cI (r 3) 6 (dr 3), aI cI (r 4) 6 (dr 4), oP pp pl pt pa mo dn ea bn stA k]) (As := [.int (nI a)]) (b := q) (rest := []) hC (c_X3_markOfWar (l := l) (hn := hn) (hac := hac) (ha := ha)) lM_X3_201 vM_X3_markOfWar (by decide) hK hP hD hS [0, 1, 2, 3, 4, 5, 6, 7, 8] [9] rfl (by decide) rfl rfl rfl rfl ⟨rfl, rfl, rfl⟩ rfl hl.1 rfl (Nat.le_of_ble_eq_true rfl) dX3_markOfHunt_14 (by decide) (fun H locs hP hD hS => ?_)
  show W _ _ _ _ _ _ _ _ _ _ _ _ _ _ _ (F0 m 17 ls [.int (nI (wo a) - nI (sm (fun i => dr a i) n))])
  refine lv_aload_n hx hb dX3_markOfHunt_17 rfl (lv_at hl 0 rfl) ?_
  refine z_get (k := 3) zcX3 hC hK hP 0 rfl (by decide) lF_X3_29 rfl dX3_markOfHunt_18 ?_
  refine z_get (k := 6) zcX0 hC hK hP 9 rfl (by decide) lF_X3_139 rfl dX3_markOfHunt_21 ?_
  refine lv_iadd hx hb dX3_markOfHunt_24 ?_
  exact zw_i hC hr hlk hA h0 hP hS (by first | rfl | omega) dX3_markOfHunt_25
set_option maxHeartbeats 1000000 in
set_option maxRecDepth 100000 in
theorem c_X3_markOfBreath {l : Launch} {D : va_G} {cI cZ cB cR : ClassId} {q t b b2 pp i1 i2 kept tn tw td : Nat} {tr : Int64} {n lvA aiA laA ac woA drA : Nat} {wo : Nat → Nat} {k9 : Int64} {pl pt pa mo dn ea bn stA k : Nat} {a : Nat} (hac : ac ≤ 5) (ha : a < ac) (hk9 : k9 = 100000) : mW l yX3_markOfBreath cX3_markOfBreath 2 (some .int) 1 21 D cI cZ cB cR [oK q t b b2 pp i1 i2 kept tn tw td tr, oB b n lvA aiA laA ac woA drA, aI cI woA 5 wo, oP pp pl pt pa mo dn ea bn stA k] [oK q t b b2 pp i1 i2 kept tn tw td (tr + k9 + 1), oB b n lvA aiA laA ac woA drA, aI cI woA 5 wo, oP pp pl pt pa mo dn ea bn stA k] [.ref q, .int (nI a)] (some (.int (nI (wo a + mo)))) := by
  refine mW_of rfl (Nat.le_of_ble_eq_true rfl) ?_
  intro p e s m args below meth c hC hr hlk hK A hA hD H0 h0 hP hS ls hl
  have hP : va_P D vwCl [oK q t b b2 pp i1 i2 kept tn tw td tr, oB b n lvA aiA laA ac woA drA, aI cI woA 5 wo, oP pp pl pt pa mo dn ea bn stA k] H0 := hP
  have hl : lv_has ls 2 [(0, .ref q), (1, .int (nI a))] := hl
  obtain ⟨hx, hb, hml, hown, hts⟩ := id hC
  refine lv_aload_n hx hb dX3_markOfBreath_0 rfl (lv_at hl 0 rfl) ?_
  refine lv_dup hx hb dX3_markOfBreath_1 rfl ?_
  refine z_get (k := 10) zcX3 hC hK hP 0 rfl (by decide) lF_X3_54 rfl dX3_markOfBreath_2 ?_
  refine lv_ldc2 (v := (100000)) hx hb hown (hts _ lK_X3_253) dX3_markOfBreath_5 ?_
  refine z_topl (show (100000) = k9 from by exact hk9.symm) ?_
  refine lv_ladd hx hb dX3_markOfBreath_8 ?_
  refine z_put (k := 10) zcX3 hC hK hP hD hS 0 rfl (by decide) lF_X3_54 rfl rfl rfl (Nat.le_of_ble_eq_true rfl) dX3_markOfBreath_9 (fun H locs hP hD hS => ?_)
  have hP : va_P D vwCl [oK q t b b2 pp i1 i2 kept tn tw td (tr + k9), oB b n lvA aiA laA ac woA drA, aI cI woA 5 wo, oP pp pl pt pa mo dn ea bn stA k] H := hP
  have hD : va_D A [oK q t b b2 pp i1 i2 kept tn tw td (tr + k9), oB b n lvA aiA laA ac woA drA, aI cI woA 5 wo, oP pp pl pt pa mo dn ea bn stA k] := hD
  refine lv_aload_n hx hb dX3_markOfBreath_12 rfl (lv_at hl 0 rfl) ?_
  refine lv_iload_n hx hb dX3_markOfBreath_13 rfl (lv_at hl 1 rfl) ?_
  refine zWV (ws1 := [oK q t b b2 pp i1 i2 kept tn tw td ((tr + k9) + 1), oB b n lvA aiA laA ac woA drA, aI cI woA 5 wo, oP pp pl pt pa mo dn ea bn stA k]) (As := [.int (nI a)]) (b := q) (rest := []) hC (c_X3_markOfAct (l := l) (hac := hac) (ha := ha)) lM_X3_195 vM_X3_markOfAct (by decide) hK hP hD hS [0, 1, 2] [3] rfl (by decide) rfl rfl rfl rfl ⟨rfl, rfl, rfl⟩ rfl hl.1 rfl (Nat.le_of_ble_eq_true rfl) dX3_markOfBreath_14 (by decide) (fun H locs hP hD hS => ?_)
  show W _ _ _ _ _ _ _ _ _ _ _ _ _ _ _ (F0 m 17 ls [.int (nI (wo a))])
  refine lv_aload_n hx hb dX3_markOfBreath_17 rfl (lv_at hl 0 rfl) ?_
  refine z_get (k := 3) zcX3 hC hK hP 0 rfl (by decide) lF_X3_29 rfl dX3_markOfBreath_18 ?_
  refine z_get (k := 3) zcX0 hC hK hP 3 rfl (by decide) lF_X3_142 rfl dX3_markOfBreath_21 ?_
  refine zi_add hC dX3_markOfBreath_24 ?_
  exact zw_i hC hr hlk hA h0 hP hS (by first | rfl | omega) dX3_markOfBreath_25
set_option maxHeartbeats 1000000 in
set_option maxRecDepth 100000 in
theorem c_X3_imageOf {l : Launch} {D : va_G} {cI cZ cB cR : ClassId} {q t b b2 pp i1 i2 kept tn tw td : Nat} {tr : Int64} {im : Nat} (him : im < 2) : mR l yX3_imageOf cX3_imageOf 2 (some (.object "KingDrops$Present")) 0 0 D cI cZ cB cR [oK q t b b2 pp i1 i2 kept tn tw td tr] [.ref q, .int (nI im)] (some (.ref (if im = 0 then i1 else i2))) := by
  refine mR_of rfl (Nat.le_of_ble_eq_true rfl) ?_
  intro p e s m args below meth c hC hr hlk hK hP ls hl
  have hl : lv_has ls 2 [(0, .ref q), (1, .int (nI im))] := hl
  obtain ⟨hx, hb, hml, hown, hts⟩ := id hC
  refine lv_iload_n hx hb dX3_imageOf_0 rfl (lv_at hl 1 rfl) ?_
  refine z0_ne (tgt := 11) hC dX3_imageOf_1 (by decide) (by omega) (fun c1 => ?_) (fun c1 => ?_)
  · skip
    refine lv_aload_n hx hb dX3_imageOf_11 rfl (lv_at hl 0 rfl) ?_
    refine z_get (k := 5) zcX3 hC hK hP 0 rfl (by decide) lF_X3_36 rfl dX3_imageOf_12 ?_
    exact zr_a hC hr hlk (by first | exact (if_pos c1).symm | exact (if_neg (by omega)).symm) dX3_imageOf_15
  · skip
    refine lv_aload_n hx hb dX3_imageOf_4 rfl (lv_at hl 0 rfl) ?_
    refine z_get (k := 4) zcX3 hC hK hP 0 rfl (by decide) lF_X3_33 rfl dX3_imageOf_5 ?_
    refine lv_goto (tgt := 15) hx hb dX3_imageOf_8 (by decide) ?_
    exact zr_a hC hr hlk (by first | exact (if_pos c1).symm | exact (if_neg (by omega)).symm) dX3_imageOf_15
set_option maxHeartbeats 1000000 in
set_option maxRecDepth 100000 in
theorem c_X0_loses {l : Launch} {D : va_G} {cI cZ cB cR : ClassId} {pp : Nat} {pl pt pa mo dn ea bn stA k : Nat} {lv : Nat → Nat} {te : Nat → Nat} {d k9 : Nat} (hd : d < 6) (hk : k9 < 100) (hlv : ∀ i, lv i ≤ 40) (hte : ∀ i, te i ≤ 40) : mW l yX0_loses cX0_loses 3 none 1 21 D cI cZ cB cR [oP pp pl pt pa mo dn ea bn stA k, aI cI pl 6 lv, aI cI pt 6 te] [oP pp pl pt pa mo dn ea bn stA k, aI cI pl 6 (updN lv d (lv d - k9)), aI cI pt 6 (updN te d (min (te d) (lv d - k9)))] [.ref pp, .int (nI d), .int (nI k9)] (none) := by
  refine mW_of rfl (Nat.le_of_ble_eq_true rfl) ?_
  intro p e s m args below meth c hC hr hlk hK A hA hD H0 h0 hP hS ls hl
  have hP : va_P D vwCl [oP pp pl pt pa mo dn ea bn stA k, aI cI pl 6 lv, aI cI pt 6 te] H0 := hP
  have hl : lv_has ls 3 [(0, .ref pp), (1, .int (nI d)), (2, .int (nI k9))] := hl
  obtain ⟨hx, hb, hml, hown, hts⟩ := id hC
  refine lv_iload_n hx hb dX0_loses_0 rfl (lv_at hl 1 rfl) ?_
  refine z0_lt (tgt := 49) hC dX0_loses_1 (by decide) (by omega) ?_
  refine lv_iload_n hx hb dX0_loses_4 rfl (lv_at hl 1 rfl) ?_
  refine lv_bipush (v := nI 6) hx hb dX0_loses_5 (by decide) ?_
  refine zc_ge (tgt := 49) hC dX0_loses_7 (by decide) (by omega) (by omega) (fun c7 => by exfalso; omega) (fun c7 => ?_)
  refine lv_aload_n hx hb dX0_loses_10 rfl (lv_at hl 0 rfl) ?_
  refine z_get (k := 0) zcX0 hC hK hP 0 rfl (by decide) lF_X0_11 rfl dX0_loses_11 ?_
  refine lv_iload_n hx hb dX0_loses_14 rfl (lv_at hl 1 rfl) ?_
  refine lv_iconst (v := nI 0) hx hb dX0_loses_15 (by decide) ?_
  refine lv_aload_n hx hb dX0_loses_16 rfl (lv_at hl 0 rfl) ?_
  refine z_get (k := 0) zcX0 hC hK hP 0 rfl (by decide) lF_X0_11 rfl dX0_loses_17 ?_
  refine lv_iload_n hx hb dX0_loses_20 rfl (lv_at hl 1 rfl) ?_
  refine z_ald hC hK hP 1 rfl (by omega) (by decide) dX0_loses_21 ?_
  refine lv_iload_n hx hb dX0_loses_22 rfl (lv_at hl 2 rfl) ?_
  have b23 := hlv d
  refine lv_isub hx hb dX0_loses_23 ?_
  refine va_mmax hx hb (hml.trans hl.1.symm) hown (hts _ lX_X0_44) (hts _ sX_max) (hts _ iX_Math) (hts _ kX_max) (Nat.le_of_ble_eq_true rfl) (Nat.le_of_ble_eq_true rfl) (Nat.le_of_ble_eq_true rfl) (Nat.le_of_ble_eq_true rfl) dX0_loses_24 ?_
  refine z_top (show (if nI 0 < (nI (lv d)) - (nI k9) then (nI (lv d)) - (nI k9) else nI 0) = nI (lv d - k9) from by exact z_max1 (by omega) (by omega)) ?_
  refine z_ast hC hK hP hD hS 1 rfl (by omega) (by decide) dX0_loses_27 (fun H locs hP hD hS => ?_)
  have hP : va_P D vwCl [oP pp pl pt pa mo dn ea bn stA k, aI cI pl 6 (updN lv d (lv d - k9)), aI cI pt 6 te] H := hP
  have hD : va_D A [oP pp pl pt pa mo dn ea bn stA k, aI cI pl 6 (updN lv d (lv d - k9)), aI cI pt 6 te] := hD
  refine lv_aload_n hx hb dX0_loses_28 rfl (lv_at hl 0 rfl) ?_
  refine z_get (k := 1) zcX0 hC hK hP 0 rfl (by decide) lF_X0_15 rfl dX0_loses_29 ?_
  refine lv_iload_n hx hb dX0_loses_32 rfl (lv_at hl 1 rfl) ?_
  refine lv_aload_n hx hb dX0_loses_33 rfl (lv_at hl 0 rfl) ?_
  refine z_get (k := 1) zcX0 hC hK hP 0 rfl (by decide) lF_X0_15 rfl dX0_loses_34 ?_
  refine lv_iload_n hx hb dX0_loses_37 rfl (lv_at hl 1 rfl) ?_
  refine z_ald hC hK hP 2 rfl (by omega) (by decide) dX0_loses_38 ?_
  refine lv_aload_n hx hb dX0_loses_39 rfl (lv_at hl 0 rfl) ?_
  refine z_get (k := 0) zcX0 hC hK hP 0 rfl (by decide) lF_X0_11 rfl dX0_loses_40 ?_
  refine lv_iload_n hx hb dX0_loses_43 rfl (lv_at hl 1 rfl) ?_
  refine z_ald hC hK hP 1 rfl (by omega) (by decide) dX0_loses_44 ?_
  have b45 := hte d
  refine z_top (show (nI ((updN lv d (lv d - k9)) d)) = nI (lv d - k9) from by rw [updN_s]) ?_
  refine va_mmin hx hb (hml.trans hl.1.symm) hown (hts _ lX_X0_50) (hts _ sX_min) (hts _ iX_Math) (hts _ kX_min) (Nat.le_of_ble_eq_true rfl) (Nat.le_of_ble_eq_true rfl) (Nat.le_of_ble_eq_true rfl) (Nat.le_of_ble_eq_true rfl) dX0_loses_45 ?_
  refine z_top (show (if nI (lv d - k9) < nI (te d) then nI (lv d - k9) else nI (te d)) = nI (min (te d) (lv d - k9)) from by exact z_min (by omega) (by omega)) ?_
  refine z_ast hC hK hP hD hS 2 rfl (by omega) (by decide) dX0_loses_48 (fun H locs hP hD hS => ?_)
  have hP : va_P D vwCl [oP pp pl pt pa mo dn ea bn stA k, aI cI pl 6 (updN lv d (lv d - k9)), aI cI pt 6 (updN te d (min (te d) (lv d - k9)))] H := hP
  have hD : va_D A [oP pp pl pt pa mo dn ea bn stA k, aI cI pl 6 (updN lv d (lv d - k9)), aI cI pt 6 (updN te d (min (te d) (lv d - k9)))] := hD
  exact zw_v hC hr hlk hA h0 hP hS dX0_loses_49
set_option maxHeartbeats 1000000 in
set_option maxRecDepth 100000 in
theorem c_X0_remembers {l : Launch} {D : va_G} {cI cZ cB cR : ClassId} {pp : Nat} {pl pt pa mo dn ea bn stA k : Nat} {lv : Nat → Nat} {te : Nat → Nat} {la : Nat → Nat} {st : Nat → Nat}  (hk : k ≤ 10) : mW l yX0_remembers cX0_remembers 2 none 1 40 D cI cZ cB cR [oP pp pl pt pa mo dn ea bn stA k, aI cI pl 6 lv, aI cI pt 6 te, aI cI pa 6 la, aI cI stA 220 st] [oP pp pl pt pa mo dn ea bn stA (remK k), aI cI pl 6 lv, aI cI pt 6 te, aI cI pa 6 la, aI cI stA 220 (remS lv te la mo dn ea bn st k)] [.ref pp] (none) := by
  refine mW_of rfl (Nat.le_of_ble_eq_true rfl) ?_
  intro p e s m args below meth c hC hr hlk hK A hA hD H0 h0 hP hS ls hl
  have hP : va_P D vwCl [oP pp pl pt pa mo dn ea bn stA k, aI cI pl 6 lv, aI cI pt 6 te, aI cI pa 6 la, aI cI stA 220 st] H0 := hP
  have hl : lv_has ls 2 [(0, .ref pp)] := hl
  obtain ⟨hx, hb, hml, hown, hts⟩ := id hC
  refine lv_aload_n hx hb dX0_remembers_0 rfl (lv_at hl 0 rfl) ?_
  refine z_get (k := 8) zcX0 hC hK hP 0 rfl (by decide) lF_X0_37 rfl dX0_remembers_1 ?_
  refine lv_bipush (v := nI 10) hx hb dX0_remembers_4 (by decide) ?_
  refine zc_lt (tgt := 36) hC dX0_remembers_6 (by decide) (by omega) (by omega) (fun c6 => ?_) (fun c6 => ?_)
  · skip
    refine lv_aload_n hx hb dX0_remembers_36 rfl (lv_at hl 0 rfl) ?_
    refine z_get (k := 8) zcX0 hC hK hP 0 rfl (by decide) lF_X0_37 rfl dX0_remembers_37 ?_
    refine lv_bipush (v := nI 22) hx hb dX0_remembers_40 (by decide) ?_
    refine zi_mul hC dX0_remembers_42 ?_
    refine lv_istore_n (lv' := [(1, .int (nI (k * 22))), (0, .ref pp)]) hx hb dX0_remembers_43 rfl hl (by decide) rfl (fun ls hl => ?_)
    refine lv_aload_n hx hb dX0_remembers_44 rfl (lv_at hl 1 rfl) ?_
    refine z_get (k := 0) zcX0 hC hK hP 0 rfl (by decide) lF_X0_11 rfl dX0_remembers_45 ?_
    refine lv_iconst (v := nI 0) hx hb dX0_remembers_48 (by decide) ?_
    refine lv_aload_n hx hb dX0_remembers_49 rfl (lv_at hl 1 rfl) ?_
    refine z_get (k := 7) zcX0 hC hK hP 0 rfl (by decide) lF_X0_34 rfl dX0_remembers_50 ?_
    refine lv_iload_n hx hb dX0_remembers_53 rfl (lv_at hl 0 rfl) ?_
    refine lv_bipush (v := nI 6) hx hb dX0_remembers_54 (by decide) ?_
    refine z_copy hC hK hP hD hS 1 4 rfl rfl (by omega) (by omega) (by decide) (by decide) (Nat.le_of_ble_eq_true rfl) (Nat.le_of_ble_eq_true rfl) lX_X0_53 hl.1 dX0_remembers_56 (fun H locs hP hD hS => ?_)
    have hP : va_P D vwCl [oP pp pl pt pa mo dn ea bn stA k, aI cI pl 6 lv, aI cI pt 6 te, aI cI pa 6 la, aI cI stA 220 (cpyN lv st 0 (k * 22) 6)] H := hP
    have hD : va_D A [oP pp pl pt pa mo dn ea bn stA k, aI cI pl 6 lv, aI cI pt 6 te, aI cI pa 6 la, aI cI stA 220 (cpyN lv st 0 (k * 22) 6)] := hD
    refine lv_aload_n hx hb dX0_remembers_59 rfl (lv_at hl 1 rfl) ?_
    refine z_get (k := 1) zcX0 hC hK hP 0 rfl (by decide) lF_X0_15 rfl dX0_remembers_60 ?_
    refine lv_iconst (v := nI 0) hx hb dX0_remembers_63 (by decide) ?_
    refine lv_aload_n hx hb dX0_remembers_64 rfl (lv_at hl 1 rfl) ?_
    refine z_get (k := 7) zcX0 hC hK hP 0 rfl (by decide) lF_X0_34 rfl dX0_remembers_65 ?_
    refine lv_iload_n hx hb dX0_remembers_68 rfl (lv_at hl 0 rfl) ?_
    refine lv_bipush (v := nI 6) hx hb dX0_remembers_69 (by decide) ?_
    refine zi_add hC dX0_remembers_71 ?_
    refine lv_bipush (v := nI 6) hx hb dX0_remembers_72 (by decide) ?_
    refine z_copy hC hK hP hD hS 2 4 rfl rfl (by omega) (by omega) (by decide) (by decide) (Nat.le_of_ble_eq_true rfl) (Nat.le_of_ble_eq_true rfl) lX_X0_53 hl.1 dX0_remembers_74 (fun H locs hP hD hS => ?_)
    have hP : va_P D vwCl [oP pp pl pt pa mo dn ea bn stA k, aI cI pl 6 lv, aI cI pt 6 te, aI cI pa 6 la, aI cI stA 220 (cpyN te (cpyN lv st 0 (k * 22) 6) 0 ((k * 22) + 6) 6)] H := hP
    have hD : va_D A [oP pp pl pt pa mo dn ea bn stA k, aI cI pl 6 lv, aI cI pt 6 te, aI cI pa 6 la, aI cI stA 220 (cpyN te (cpyN lv st 0 (k * 22) 6) 0 ((k * 22) + 6) 6)] := hD
    refine lv_aload_n hx hb dX0_remembers_77 rfl (lv_at hl 1 rfl) ?_
    refine z_get (k := 2) zcX0 hC hK hP 0 rfl (by decide) lF_X0_18 rfl dX0_remembers_78 ?_
    refine lv_iconst (v := nI 0) hx hb dX0_remembers_81 (by decide) ?_
    refine lv_aload_n hx hb dX0_remembers_82 rfl (lv_at hl 1 rfl) ?_
    refine z_get (k := 7) zcX0 hC hK hP 0 rfl (by decide) lF_X0_34 rfl dX0_remembers_83 ?_
    refine lv_iload_n hx hb dX0_remembers_86 rfl (lv_at hl 0 rfl) ?_
    refine lv_bipush (v := nI 12) hx hb dX0_remembers_87 (by decide) ?_
    refine zi_add hC dX0_remembers_89 ?_
    refine lv_bipush (v := nI 6) hx hb dX0_remembers_90 (by decide) ?_
    refine z_copy hC hK hP hD hS 3 4 rfl rfl (by omega) (by omega) (by decide) (by decide) (Nat.le_of_ble_eq_true rfl) (Nat.le_of_ble_eq_true rfl) lX_X0_53 hl.1 dX0_remembers_92 (fun H locs hP hD hS => ?_)
    have hP : va_P D vwCl [oP pp pl pt pa mo dn ea bn stA k, aI cI pl 6 lv, aI cI pt 6 te, aI cI pa 6 la, aI cI stA 220 (cpyN la (cpyN te (cpyN lv st 0 (k * 22) 6) 0 ((k * 22) + 6) 6) 0 ((k * 22) + 12) 6)] H := hP
    have hD : va_D A [oP pp pl pt pa mo dn ea bn stA k, aI cI pl 6 lv, aI cI pt 6 te, aI cI pa 6 la, aI cI stA 220 (cpyN la (cpyN te (cpyN lv st 0 (k * 22) 6) 0 ((k * 22) + 6) 6) 0 ((k * 22) + 12) 6)] := hD
    refine lv_aload_n hx hb dX0_remembers_95 rfl (lv_at hl 1 rfl) ?_
    refine z_get (k := 7) zcX0 hC hK hP 0 rfl (by decide) lF_X0_34 rfl dX0_remembers_96 ?_
    refine lv_iload_n hx hb dX0_remembers_99 rfl (lv_at hl 0 rfl) ?_
    refine lv_bipush (v := nI 18) hx hb dX0_remembers_100 (by decide) ?_
    refine zi_add hC dX0_remembers_102 ?_
    refine lv_aload_n hx hb dX0_remembers_103 rfl (lv_at hl 1 rfl) ?_
    refine z_get (k := 3) zcX0 hC hK hP 0 rfl (by decide) lF_X0_21 rfl dX0_remembers_104 ?_
    refine z_ast hC hK hP hD hS 4 rfl (by omega) (by decide) dX0_remembers_107 (fun H locs hP hD hS => ?_)
    have hP : va_P D vwCl [oP pp pl pt pa mo dn ea bn stA k, aI cI pl 6 lv, aI cI pt 6 te, aI cI pa 6 la, aI cI stA 220 (updN (cpyN la (cpyN te (cpyN lv st 0 (k * 22) 6) 0 ((k * 22) + 6) 6) 0 ((k * 22) + 12) 6) ((k * 22) + 18) mo)] H := hP
    have hD : va_D A [oP pp pl pt pa mo dn ea bn stA k, aI cI pl 6 lv, aI cI pt 6 te, aI cI pa 6 la, aI cI stA 220 (updN (cpyN la (cpyN te (cpyN lv st 0 (k * 22) 6) 0 ((k * 22) + 6) 6) 0 ((k * 22) + 12) 6) ((k * 22) + 18) mo)] := hD
    refine lv_aload_n hx hb dX0_remembers_108 rfl (lv_at hl 1 rfl) ?_
    refine z_get (k := 7) zcX0 hC hK hP 0 rfl (by decide) lF_X0_34 rfl dX0_remembers_109 ?_
    refine lv_iload_n hx hb dX0_remembers_112 rfl (lv_at hl 0 rfl) ?_
    refine lv_bipush (v := nI 18) hx hb dX0_remembers_113 (by decide) ?_
    refine zi_add hC dX0_remembers_115 ?_
    refine lv_iconst (v := nI 1) hx hb dX0_remembers_116 (by decide) ?_
    refine zi_add hC dX0_remembers_117 ?_
    refine lv_aload_n hx hb dX0_remembers_118 rfl (lv_at hl 1 rfl) ?_
    refine z_get (k := 4) zcX0 hC hK hP 0 rfl (by decide) lF_X0_25 rfl dX0_remembers_119 ?_
    refine z_ast hC hK hP hD hS 4 rfl (by omega) (by decide) dX0_remembers_122 (fun H locs hP hD hS => ?_)
    have hP : va_P D vwCl [oP pp pl pt pa mo dn ea bn stA k, aI cI pl 6 lv, aI cI pt 6 te, aI cI pa 6 la, aI cI stA 220 (updN (updN (cpyN la (cpyN te (cpyN lv st 0 (k * 22) 6) 0 ((k * 22) + 6) 6) 0 ((k * 22) + 12) 6) ((k * 22) + 18) mo) (((k * 22) + 18) + 1) dn)] H := hP
    have hD : va_D A [oP pp pl pt pa mo dn ea bn stA k, aI cI pl 6 lv, aI cI pt 6 te, aI cI pa 6 la, aI cI stA 220 (updN (updN (cpyN la (cpyN te (cpyN lv st 0 (k * 22) 6) 0 ((k * 22) + 6) 6) 0 ((k * 22) + 12) 6) ((k * 22) + 18) mo) (((k * 22) + 18) + 1) dn)] := hD
    refine lv_aload_n hx hb dX0_remembers_123 rfl (lv_at hl 1 rfl) ?_
    refine z_get (k := 7) zcX0 hC hK hP 0 rfl (by decide) lF_X0_34 rfl dX0_remembers_124 ?_
    refine lv_iload_n hx hb dX0_remembers_127 rfl (lv_at hl 0 rfl) ?_
    refine lv_bipush (v := nI 18) hx hb dX0_remembers_128 (by decide) ?_
    refine zi_add hC dX0_remembers_130 ?_
    refine lv_iconst (v := nI 2) hx hb dX0_remembers_131 (by decide) ?_
    refine zi_add hC dX0_remembers_132 ?_
    refine lv_aload_n hx hb dX0_remembers_133 rfl (lv_at hl 1 rfl) ?_
    refine z_get (k := 5) zcX0 hC hK hP 0 rfl (by decide) lF_X0_28 rfl dX0_remembers_134 ?_
    refine z_ast hC hK hP hD hS 4 rfl (by omega) (by decide) dX0_remembers_137 (fun H locs hP hD hS => ?_)
    have hP : va_P D vwCl [oP pp pl pt pa mo dn ea bn stA k, aI cI pl 6 lv, aI cI pt 6 te, aI cI pa 6 la, aI cI stA 220 (updN (updN (updN (cpyN la (cpyN te (cpyN lv st 0 (k * 22) 6) 0 ((k * 22) + 6) 6) 0 ((k * 22) + 12) 6) ((k * 22) + 18) mo) (((k * 22) + 18) + 1) dn) (((k * 22) + 18) + 2) ea)] H := hP
    have hD : va_D A [oP pp pl pt pa mo dn ea bn stA k, aI cI pl 6 lv, aI cI pt 6 te, aI cI pa 6 la, aI cI stA 220 (updN (updN (updN (cpyN la (cpyN te (cpyN lv st 0 (k * 22) 6) 0 ((k * 22) + 6) 6) 0 ((k * 22) + 12) 6) ((k * 22) + 18) mo) (((k * 22) + 18) + 1) dn) (((k * 22) + 18) + 2) ea)] := hD
    refine lv_aload_n hx hb dX0_remembers_138 rfl (lv_at hl 1 rfl) ?_
    refine z_get (k := 7) zcX0 hC hK hP 0 rfl (by decide) lF_X0_34 rfl dX0_remembers_139 ?_
    refine lv_iload_n hx hb dX0_remembers_142 rfl (lv_at hl 0 rfl) ?_
    refine lv_bipush (v := nI 18) hx hb dX0_remembers_143 (by decide) ?_
    refine zi_add hC dX0_remembers_145 ?_
    refine lv_iconst (v := nI 3) hx hb dX0_remembers_146 (by decide) ?_
    refine zi_add hC dX0_remembers_147 ?_
    refine lv_aload_n hx hb dX0_remembers_148 rfl (lv_at hl 1 rfl) ?_
    refine z_get (k := 6) zcX0 hC hK hP 0 rfl (by decide) lF_X0_31 rfl dX0_remembers_149 ?_
    refine z_ast hC hK hP hD hS 4 rfl (by omega) (by decide) dX0_remembers_152 (fun H locs hP hD hS => ?_)
    have hP : va_P D vwCl [oP pp pl pt pa mo dn ea bn stA k, aI cI pl 6 lv, aI cI pt 6 te, aI cI pa 6 la, aI cI stA 220 (updN (updN (updN (updN (cpyN la (cpyN te (cpyN lv st 0 (k * 22) 6) 0 ((k * 22) + 6) 6) 0 ((k * 22) + 12) 6) ((k * 22) + 18) mo) (((k * 22) + 18) + 1) dn) (((k * 22) + 18) + 2) ea) (((k * 22) + 18) + 3) bn)] H := hP
    have hD : va_D A [oP pp pl pt pa mo dn ea bn stA k, aI cI pl 6 lv, aI cI pt 6 te, aI cI pa 6 la, aI cI stA 220 (updN (updN (updN (updN (cpyN la (cpyN te (cpyN lv st 0 (k * 22) 6) 0 ((k * 22) + 6) 6) 0 ((k * 22) + 12) 6) ((k * 22) + 18) mo) (((k * 22) + 18) + 1) dn) (((k * 22) + 18) + 2) ea) (((k * 22) + 18) + 3) bn)] := hD
    refine lv_aload_n hx hb dX0_remembers_153 rfl (lv_at hl 1 rfl) ?_
    refine lv_dup hx hb dX0_remembers_154 rfl ?_
    refine z_get (k := 8) zcX0 hC hK hP 0 rfl (by decide) lF_X0_37 rfl dX0_remembers_155 ?_
    refine lv_iconst (v := nI 1) hx hb dX0_remembers_158 (by decide) ?_
    refine zi_add hC dX0_remembers_159 ?_
    refine z_put (k := 8) zcX0 hC hK hP hD hS 0 rfl (by decide) lF_X0_37 rfl rfl rfl (Nat.le_of_ble_eq_true rfl) dX0_remembers_160 (fun H locs hP hD hS => ?_)
    have hP : va_P D vwCl [oP pp pl pt pa mo dn ea bn stA (k + 1), aI cI pl 6 lv, aI cI pt 6 te, aI cI pa 6 la, aI cI stA 220 (updN (updN (updN (updN (cpyN la (cpyN te (cpyN lv st 0 (k * 22) 6) 0 ((k * 22) + 6) 6) 0 ((k * 22) + 12) 6) ((k * 22) + 18) mo) (((k * 22) + 18) + 1) dn) (((k * 22) + 18) + 2) ea) (((k * 22) + 18) + 3) bn)] H := hP
    have hD : va_D A [oP pp pl pt pa mo dn ea bn stA (k + 1), aI cI pl 6 lv, aI cI pt 6 te, aI cI pa 6 la, aI cI stA 220 (updN (updN (updN (updN (cpyN la (cpyN te (cpyN lv st 0 (k * 22) 6) 0 ((k * 22) + 6) 6) 0 ((k * 22) + 12) 6) ((k * 22) + 18) mo) (((k * 22) + 18) + 1) dn) (((k * 22) + 18) + 2) ea) (((k * 22) + 18) + 3) bn)] := hD
    exact zw_v hC hr hlk hA h0 (by unfold remS remK; first | (rw [if_pos c6, if_pos c6]; exact hP) | (rw [if_neg (by omega), if_neg (by omega), show k = 10 by omega]; exact hP) | (rw [if_neg (by omega), if_neg (by omega)]; exact hP)) hS dX0_remembers_163
  · skip
    refine lv_aload_n hx hb dX0_remembers_9 rfl (lv_at hl 0 rfl) ?_
    refine lv_bipush (v := nI 9) hx hb dX0_remembers_10 (by decide) ?_
    refine z_put (k := 8) zcX0 hC hK hP hD hS 0 rfl (by decide) lF_X0_37 rfl rfl rfl (Nat.le_of_ble_eq_true rfl) dX0_remembers_12 (fun H locs hP hD hS => ?_)
    have hP : va_P D vwCl [oP pp pl pt pa mo dn ea bn stA 9, aI cI pl 6 lv, aI cI pt 6 te, aI cI pa 6 la, aI cI stA 220 st] H := hP
    have hD : va_D A [oP pp pl pt pa mo dn ea bn stA 9, aI cI pl 6 lv, aI cI pt 6 te, aI cI pa 6 la, aI cI stA 220 st] := hD
    refine lv_aload_n hx hb dX0_remembers_15 rfl (lv_at hl 0 rfl) ?_
    refine z_get (k := 7) zcX0 hC hK hP 0 rfl (by decide) lF_X0_34 rfl dX0_remembers_16 ?_
    refine lv_bipush (v := nI 22) hx hb dX0_remembers_19 (by decide) ?_
    refine lv_aload_n hx hb dX0_remembers_21 rfl (lv_at hl 0 rfl) ?_
    refine z_get (k := 7) zcX0 hC hK hP 0 rfl (by decide) lF_X0_34 rfl dX0_remembers_22 ?_
    refine lv_iconst (v := nI 0) hx hb dX0_remembers_25 (by decide) ?_
    refine lv_aload_n hx hb dX0_remembers_26 rfl (lv_at hl 0 rfl) ?_
    refine z_get (k := 8) zcX0 hC hK hP 0 rfl (by decide) lF_X0_37 rfl dX0_remembers_27 ?_
    refine lv_bipush (v := nI 22) hx hb dX0_remembers_30 (by decide) ?_
    refine zi_mul hC dX0_remembers_32 ?_
    refine z_copy hC hK hP hD hS 4 4 rfl rfl (by omega) (by omega) (by decide) (by decide) (Nat.le_of_ble_eq_true rfl) (Nat.le_of_ble_eq_true rfl) lX_X0_53 hl.1 dX0_remembers_33 (fun H locs hP hD hS => ?_)
    have hP : va_P D vwCl [oP pp pl pt pa mo dn ea bn stA 9, aI cI pl 6 lv, aI cI pt 6 te, aI cI pa 6 la, aI cI stA 220 (cpyN st st 22 0 (9 * 22))] H := hP
    have hD : va_D A [oP pp pl pt pa mo dn ea bn stA 9, aI cI pl 6 lv, aI cI pt 6 te, aI cI pa 6 la, aI cI stA 220 (cpyN st st 22 0 (9 * 22))] := hD
    refine lv_aload_n hx hb dX0_remembers_36 rfl (lv_at hl 0 rfl) ?_
    refine z_get (k := 8) zcX0 hC hK hP 0 rfl (by decide) lF_X0_37 rfl dX0_remembers_37 ?_
    refine lv_bipush (v := nI 22) hx hb dX0_remembers_40 (by decide) ?_
    refine zi_mul hC dX0_remembers_42 ?_
    refine lv_istore_n (lv' := [(1, .int (nI (9 * 22))), (0, .ref pp)]) hx hb dX0_remembers_43 rfl hl (by decide) rfl (fun ls hl => ?_)
    refine lv_aload_n hx hb dX0_remembers_44 rfl (lv_at hl 1 rfl) ?_
    refine z_get (k := 0) zcX0 hC hK hP 0 rfl (by decide) lF_X0_11 rfl dX0_remembers_45 ?_
    refine lv_iconst (v := nI 0) hx hb dX0_remembers_48 (by decide) ?_
    refine lv_aload_n hx hb dX0_remembers_49 rfl (lv_at hl 1 rfl) ?_
    refine z_get (k := 7) zcX0 hC hK hP 0 rfl (by decide) lF_X0_34 rfl dX0_remembers_50 ?_
    refine lv_iload_n hx hb dX0_remembers_53 rfl (lv_at hl 0 rfl) ?_
    refine lv_bipush (v := nI 6) hx hb dX0_remembers_54 (by decide) ?_
    refine z_copy hC hK hP hD hS 1 4 rfl rfl (by omega) (by omega) (by decide) (by decide) (Nat.le_of_ble_eq_true rfl) (Nat.le_of_ble_eq_true rfl) lX_X0_53 hl.1 dX0_remembers_56 (fun H locs hP hD hS => ?_)
    have hP : va_P D vwCl [oP pp pl pt pa mo dn ea bn stA 9, aI cI pl 6 lv, aI cI pt 6 te, aI cI pa 6 la, aI cI stA 220 (cpyN lv (cpyN st st 22 0 (9 * 22)) 0 (9 * 22) 6)] H := hP
    have hD : va_D A [oP pp pl pt pa mo dn ea bn stA 9, aI cI pl 6 lv, aI cI pt 6 te, aI cI pa 6 la, aI cI stA 220 (cpyN lv (cpyN st st 22 0 (9 * 22)) 0 (9 * 22) 6)] := hD
    refine lv_aload_n hx hb dX0_remembers_59 rfl (lv_at hl 1 rfl) ?_
    refine z_get (k := 1) zcX0 hC hK hP 0 rfl (by decide) lF_X0_15 rfl dX0_remembers_60 ?_
    refine lv_iconst (v := nI 0) hx hb dX0_remembers_63 (by decide) ?_
    refine lv_aload_n hx hb dX0_remembers_64 rfl (lv_at hl 1 rfl) ?_
    refine z_get (k := 7) zcX0 hC hK hP 0 rfl (by decide) lF_X0_34 rfl dX0_remembers_65 ?_
    refine lv_iload_n hx hb dX0_remembers_68 rfl (lv_at hl 0 rfl) ?_
    refine lv_bipush (v := nI 6) hx hb dX0_remembers_69 (by decide) ?_
    refine zi_add hC dX0_remembers_71 ?_
    refine lv_bipush (v := nI 6) hx hb dX0_remembers_72 (by decide) ?_
    refine z_copy hC hK hP hD hS 2 4 rfl rfl (by omega) (by omega) (by decide) (by decide) (Nat.le_of_ble_eq_true rfl) (Nat.le_of_ble_eq_true rfl) lX_X0_53 hl.1 dX0_remembers_74 (fun H locs hP hD hS => ?_)
    have hP : va_P D vwCl [oP pp pl pt pa mo dn ea bn stA 9, aI cI pl 6 lv, aI cI pt 6 te, aI cI pa 6 la, aI cI stA 220 (cpyN te (cpyN lv (cpyN st st 22 0 (9 * 22)) 0 (9 * 22) 6) 0 ((9 * 22) + 6) 6)] H := hP
    have hD : va_D A [oP pp pl pt pa mo dn ea bn stA 9, aI cI pl 6 lv, aI cI pt 6 te, aI cI pa 6 la, aI cI stA 220 (cpyN te (cpyN lv (cpyN st st 22 0 (9 * 22)) 0 (9 * 22) 6) 0 ((9 * 22) + 6) 6)] := hD
    refine lv_aload_n hx hb dX0_remembers_77 rfl (lv_at hl 1 rfl) ?_
    refine z_get (k := 2) zcX0 hC hK hP 0 rfl (by decide) lF_X0_18 rfl dX0_remembers_78 ?_
    refine lv_iconst (v := nI 0) hx hb dX0_remembers_81 (by decide) ?_
    refine lv_aload_n hx hb dX0_remembers_82 rfl (lv_at hl 1 rfl) ?_
    refine z_get (k := 7) zcX0 hC hK hP 0 rfl (by decide) lF_X0_34 rfl dX0_remembers_83 ?_
    refine lv_iload_n hx hb dX0_remembers_86 rfl (lv_at hl 0 rfl) ?_
    refine lv_bipush (v := nI 12) hx hb dX0_remembers_87 (by decide) ?_
    refine zi_add hC dX0_remembers_89 ?_
    refine lv_bipush (v := nI 6) hx hb dX0_remembers_90 (by decide) ?_
    refine z_copy hC hK hP hD hS 3 4 rfl rfl (by omega) (by omega) (by decide) (by decide) (Nat.le_of_ble_eq_true rfl) (Nat.le_of_ble_eq_true rfl) lX_X0_53 hl.1 dX0_remembers_92 (fun H locs hP hD hS => ?_)
    have hP : va_P D vwCl [oP pp pl pt pa mo dn ea bn stA 9, aI cI pl 6 lv, aI cI pt 6 te, aI cI pa 6 la, aI cI stA 220 (cpyN la (cpyN te (cpyN lv (cpyN st st 22 0 (9 * 22)) 0 (9 * 22) 6) 0 ((9 * 22) + 6) 6) 0 ((9 * 22) + 12) 6)] H := hP
    have hD : va_D A [oP pp pl pt pa mo dn ea bn stA 9, aI cI pl 6 lv, aI cI pt 6 te, aI cI pa 6 la, aI cI stA 220 (cpyN la (cpyN te (cpyN lv (cpyN st st 22 0 (9 * 22)) 0 (9 * 22) 6) 0 ((9 * 22) + 6) 6) 0 ((9 * 22) + 12) 6)] := hD
    refine lv_aload_n hx hb dX0_remembers_95 rfl (lv_at hl 1 rfl) ?_
    refine z_get (k := 7) zcX0 hC hK hP 0 rfl (by decide) lF_X0_34 rfl dX0_remembers_96 ?_
    refine lv_iload_n hx hb dX0_remembers_99 rfl (lv_at hl 0 rfl) ?_
    refine lv_bipush (v := nI 18) hx hb dX0_remembers_100 (by decide) ?_
    refine zi_add hC dX0_remembers_102 ?_
    refine lv_aload_n hx hb dX0_remembers_103 rfl (lv_at hl 1 rfl) ?_
    refine z_get (k := 3) zcX0 hC hK hP 0 rfl (by decide) lF_X0_21 rfl dX0_remembers_104 ?_
    refine z_ast hC hK hP hD hS 4 rfl (by omega) (by decide) dX0_remembers_107 (fun H locs hP hD hS => ?_)
    have hP : va_P D vwCl [oP pp pl pt pa mo dn ea bn stA 9, aI cI pl 6 lv, aI cI pt 6 te, aI cI pa 6 la, aI cI stA 220 (updN (cpyN la (cpyN te (cpyN lv (cpyN st st 22 0 (9 * 22)) 0 (9 * 22) 6) 0 ((9 * 22) + 6) 6) 0 ((9 * 22) + 12) 6) ((9 * 22) + 18) mo)] H := hP
    have hD : va_D A [oP pp pl pt pa mo dn ea bn stA 9, aI cI pl 6 lv, aI cI pt 6 te, aI cI pa 6 la, aI cI stA 220 (updN (cpyN la (cpyN te (cpyN lv (cpyN st st 22 0 (9 * 22)) 0 (9 * 22) 6) 0 ((9 * 22) + 6) 6) 0 ((9 * 22) + 12) 6) ((9 * 22) + 18) mo)] := hD
    refine lv_aload_n hx hb dX0_remembers_108 rfl (lv_at hl 1 rfl) ?_
    refine z_get (k := 7) zcX0 hC hK hP 0 rfl (by decide) lF_X0_34 rfl dX0_remembers_109 ?_
    refine lv_iload_n hx hb dX0_remembers_112 rfl (lv_at hl 0 rfl) ?_
    refine lv_bipush (v := nI 18) hx hb dX0_remembers_113 (by decide) ?_
    refine zi_add hC dX0_remembers_115 ?_
    refine lv_iconst (v := nI 1) hx hb dX0_remembers_116 (by decide) ?_
    refine zi_add hC dX0_remembers_117 ?_
    refine lv_aload_n hx hb dX0_remembers_118 rfl (lv_at hl 1 rfl) ?_
    refine z_get (k := 4) zcX0 hC hK hP 0 rfl (by decide) lF_X0_25 rfl dX0_remembers_119 ?_
    refine z_ast hC hK hP hD hS 4 rfl (by omega) (by decide) dX0_remembers_122 (fun H locs hP hD hS => ?_)
    have hP : va_P D vwCl [oP pp pl pt pa mo dn ea bn stA 9, aI cI pl 6 lv, aI cI pt 6 te, aI cI pa 6 la, aI cI stA 220 (updN (updN (cpyN la (cpyN te (cpyN lv (cpyN st st 22 0 (9 * 22)) 0 (9 * 22) 6) 0 ((9 * 22) + 6) 6) 0 ((9 * 22) + 12) 6) ((9 * 22) + 18) mo) (((9 * 22) + 18) + 1) dn)] H := hP
    have hD : va_D A [oP pp pl pt pa mo dn ea bn stA 9, aI cI pl 6 lv, aI cI pt 6 te, aI cI pa 6 la, aI cI stA 220 (updN (updN (cpyN la (cpyN te (cpyN lv (cpyN st st 22 0 (9 * 22)) 0 (9 * 22) 6) 0 ((9 * 22) + 6) 6) 0 ((9 * 22) + 12) 6) ((9 * 22) + 18) mo) (((9 * 22) + 18) + 1) dn)] := hD
    refine lv_aload_n hx hb dX0_remembers_123 rfl (lv_at hl 1 rfl) ?_
    refine z_get (k := 7) zcX0 hC hK hP 0 rfl (by decide) lF_X0_34 rfl dX0_remembers_124 ?_
    refine lv_iload_n hx hb dX0_remembers_127 rfl (lv_at hl 0 rfl) ?_
    refine lv_bipush (v := nI 18) hx hb dX0_remembers_128 (by decide) ?_
    refine zi_add hC dX0_remembers_130 ?_
    refine lv_iconst (v := nI 2) hx hb dX0_remembers_131 (by decide) ?_
    refine zi_add hC dX0_remembers_132 ?_
    refine lv_aload_n hx hb dX0_remembers_133 rfl (lv_at hl 1 rfl) ?_
    refine z_get (k := 5) zcX0 hC hK hP 0 rfl (by decide) lF_X0_28 rfl dX0_remembers_134 ?_
    refine z_ast hC hK hP hD hS 4 rfl (by omega) (by decide) dX0_remembers_137 (fun H locs hP hD hS => ?_)
    have hP : va_P D vwCl [oP pp pl pt pa mo dn ea bn stA 9, aI cI pl 6 lv, aI cI pt 6 te, aI cI pa 6 la, aI cI stA 220 (updN (updN (updN (cpyN la (cpyN te (cpyN lv (cpyN st st 22 0 (9 * 22)) 0 (9 * 22) 6) 0 ((9 * 22) + 6) 6) 0 ((9 * 22) + 12) 6) ((9 * 22) + 18) mo) (((9 * 22) + 18) + 1) dn) (((9 * 22) + 18) + 2) ea)] H := hP
    have hD : va_D A [oP pp pl pt pa mo dn ea bn stA 9, aI cI pl 6 lv, aI cI pt 6 te, aI cI pa 6 la, aI cI stA 220 (updN (updN (updN (cpyN la (cpyN te (cpyN lv (cpyN st st 22 0 (9 * 22)) 0 (9 * 22) 6) 0 ((9 * 22) + 6) 6) 0 ((9 * 22) + 12) 6) ((9 * 22) + 18) mo) (((9 * 22) + 18) + 1) dn) (((9 * 22) + 18) + 2) ea)] := hD
    refine lv_aload_n hx hb dX0_remembers_138 rfl (lv_at hl 1 rfl) ?_
    refine z_get (k := 7) zcX0 hC hK hP 0 rfl (by decide) lF_X0_34 rfl dX0_remembers_139 ?_
    refine lv_iload_n hx hb dX0_remembers_142 rfl (lv_at hl 0 rfl) ?_
    refine lv_bipush (v := nI 18) hx hb dX0_remembers_143 (by decide) ?_
    refine zi_add hC dX0_remembers_145 ?_
    refine lv_iconst (v := nI 3) hx hb dX0_remembers_146 (by decide) ?_
    refine zi_add hC dX0_remembers_147 ?_
    refine lv_aload_n hx hb dX0_remembers_148 rfl (lv_at hl 1 rfl) ?_
    refine z_get (k := 6) zcX0 hC hK hP 0 rfl (by decide) lF_X0_31 rfl dX0_remembers_149 ?_
    refine z_ast hC hK hP hD hS 4 rfl (by omega) (by decide) dX0_remembers_152 (fun H locs hP hD hS => ?_)
    have hP : va_P D vwCl [oP pp pl pt pa mo dn ea bn stA 9, aI cI pl 6 lv, aI cI pt 6 te, aI cI pa 6 la, aI cI stA 220 (updN (updN (updN (updN (cpyN la (cpyN te (cpyN lv (cpyN st st 22 0 (9 * 22)) 0 (9 * 22) 6) 0 ((9 * 22) + 6) 6) 0 ((9 * 22) + 12) 6) ((9 * 22) + 18) mo) (((9 * 22) + 18) + 1) dn) (((9 * 22) + 18) + 2) ea) (((9 * 22) + 18) + 3) bn)] H := hP
    have hD : va_D A [oP pp pl pt pa mo dn ea bn stA 9, aI cI pl 6 lv, aI cI pt 6 te, aI cI pa 6 la, aI cI stA 220 (updN (updN (updN (updN (cpyN la (cpyN te (cpyN lv (cpyN st st 22 0 (9 * 22)) 0 (9 * 22) 6) 0 ((9 * 22) + 6) 6) 0 ((9 * 22) + 12) 6) ((9 * 22) + 18) mo) (((9 * 22) + 18) + 1) dn) (((9 * 22) + 18) + 2) ea) (((9 * 22) + 18) + 3) bn)] := hD
    refine lv_aload_n hx hb dX0_remembers_153 rfl (lv_at hl 1 rfl) ?_
    refine lv_dup hx hb dX0_remembers_154 rfl ?_
    refine z_get (k := 8) zcX0 hC hK hP 0 rfl (by decide) lF_X0_37 rfl dX0_remembers_155 ?_
    refine lv_iconst (v := nI 1) hx hb dX0_remembers_158 (by decide) ?_
    refine zi_add hC dX0_remembers_159 ?_
    refine z_put (k := 8) zcX0 hC hK hP hD hS 0 rfl (by decide) lF_X0_37 rfl rfl rfl (Nat.le_of_ble_eq_true rfl) dX0_remembers_160 (fun H locs hP hD hS => ?_)
    have hP : va_P D vwCl [oP pp pl pt pa mo dn ea bn stA (9 + 1), aI cI pl 6 lv, aI cI pt 6 te, aI cI pa 6 la, aI cI stA 220 (updN (updN (updN (updN (cpyN la (cpyN te (cpyN lv (cpyN st st 22 0 (9 * 22)) 0 (9 * 22) 6) 0 ((9 * 22) + 6) 6) 0 ((9 * 22) + 12) 6) ((9 * 22) + 18) mo) (((9 * 22) + 18) + 1) dn) (((9 * 22) + 18) + 2) ea) (((9 * 22) + 18) + 3) bn)] H := hP
    have hD : va_D A [oP pp pl pt pa mo dn ea bn stA (9 + 1), aI cI pl 6 lv, aI cI pt 6 te, aI cI pa 6 la, aI cI stA 220 (updN (updN (updN (updN (cpyN la (cpyN te (cpyN lv (cpyN st st 22 0 (9 * 22)) 0 (9 * 22) 6) 0 ((9 * 22) + 6) 6) 0 ((9 * 22) + 12) 6) ((9 * 22) + 18) mo) (((9 * 22) + 18) + 1) dn) (((9 * 22) + 18) + 2) ea) (((9 * 22) + 18) + 3) bn)] := hD
    exact zw_v hC hr hlk hA h0 (by unfold remS remK; first | (rw [if_pos c6, if_pos c6]; exact hP) | (rw [if_neg (by omega), if_neg (by omega), show k = 10 by omega]; exact hP) | (rw [if_neg (by omega), if_neg (by omega)]; exact hP)) hS dX0_remembers_163
set_option maxHeartbeats 1000000 in
set_option maxRecDepth 100000 in
theorem c_X0_stepsBack_0 {l : Launch} {D : va_G} {cI cZ cB cR : ClassId} {pp pl pt pa mo dn ea bn stA : Nat}  : mR l yX0_stepsBack cX0_stepsBack 2 (some .boolean) 1 40 D cI cZ cB cR [oP pp pl pt pa mo dn ea bn stA 0] [.ref pp] (some (.int (bI false))) := by
  refine mR_of rfl (Nat.le_of_ble_eq_true rfl) ?_
  intro p e s m args below meth c hC hr hlk hK hP ls hl
  have hl : lv_has ls 2 [(0, .ref pp)] := hl
  obtain ⟨hx, hb, hml, hown, hts⟩ := id hC
  refine lv_aload_n hx hb dX0_stepsBack_0 rfl (lv_at hl 0 rfl) ?_
  refine z_get (k := 8) zcX0 hC hK hP 0 rfl (by decide) lF_X0_37 rfl dX0_stepsBack_1 ?_
  refine z0_gt (tgt := 9) hC dX0_stepsBack_4 (by decide) (by omega) (fun c4 => by exfalso; omega) (fun c4 => ?_)
  refine lv_iconst (v := nI 0) hx hb dX0_stepsBack_7 (by decide) ?_
  refine z_top (y := bI false) rfl ?_
  exact zr_z hC hr hlk (by first | rfl | omega) dX0_stepsBack_8
set_option maxHeartbeats 1000000 in
set_option maxRecDepth 100000 in
theorem c_X0_stepsBack {l : Launch} {D : va_G} {cI cZ cB cR : ClassId} {pp : Nat} {pl pt pa mo dn ea bn stA k : Nat} {lv : Nat → Nat} {te : Nat → Nat} {la : Nat → Nat} {st : Nat → Nat}  (hk : 0 < k) (hk9 : k ≤ 10) : mW l yX0_stepsBack cX0_stepsBack 2 (some .boolean) 1 40 D cI cZ cB cR [oP pp pl pt pa mo dn ea bn stA k, aI cI pl 6 lv, aI cI pt 6 te, aI cI pa 6 la, aI cI stA 220 st] [oP pp pl pt pa (st ((k - 1) * 22 + 18)) (st ((k - 1) * 22 + 18 + 1)) (st ((k - 1) * 22 + 18 + 2)) (st ((k - 1) * 22 + 18 + 3)) stA (k - 1), aI cI pl 6 (cpyN st lv ((k - 1) * 22) 0 6), aI cI pt 6 (cpyN st te ((k - 1) * 22 + 6) 0 6), aI cI pa 6 (cpyN st la ((k - 1) * 22 + 12) 0 6), aI cI stA 220 st] [.ref pp] (some (.int (bI true))) := by
  refine mW_of rfl (Nat.le_of_ble_eq_true rfl) ?_
  intro p e s m args below meth c hC hr hlk hK A hA hD H0 h0 hP hS ls hl
  have hP : va_P D vwCl [oP pp pl pt pa mo dn ea bn stA k, aI cI pl 6 lv, aI cI pt 6 te, aI cI pa 6 la, aI cI stA 220 st] H0 := hP
  have hl : lv_has ls 2 [(0, .ref pp)] := hl
  obtain ⟨hx, hb, hml, hown, hts⟩ := id hC
  refine lv_aload_n hx hb dX0_stepsBack_0 rfl (lv_at hl 0 rfl) ?_
  refine z_get (k := 8) zcX0 hC hK hP 0 rfl (by decide) lF_X0_37 rfl dX0_stepsBack_1 ?_
  refine z0_gt (tgt := 9) hC dX0_stepsBack_4 (by decide) (by omega) (fun c4 => ?_) (fun c4 => by exfalso; omega)
  refine lv_aload_n hx hb dX0_stepsBack_9 rfl (lv_at hl 0 rfl) ?_
  refine lv_dup hx hb dX0_stepsBack_10 rfl ?_
  refine z_get (k := 8) zcX0 hC hK hP 0 rfl (by decide) lF_X0_37 rfl dX0_stepsBack_11 ?_
  refine lv_iconst (v := nI 1) hx hb dX0_stepsBack_14 (by decide) ?_
  refine zi_sub hC dX0_stepsBack_15 (by omega) ?_
  refine z_put (k := 8) zcX0 hC hK hP hD hS 0 rfl (by decide) lF_X0_37 rfl rfl rfl (Nat.le_of_ble_eq_true rfl) dX0_stepsBack_16 (fun H locs hP hD hS => ?_)
  have hP : va_P D vwCl [oP pp pl pt pa mo dn ea bn stA (k - 1), aI cI pl 6 lv, aI cI pt 6 te, aI cI pa 6 la, aI cI stA 220 st] H := hP
  have hD : va_D A [oP pp pl pt pa mo dn ea bn stA (k - 1), aI cI pl 6 lv, aI cI pt 6 te, aI cI pa 6 la, aI cI stA 220 st] := hD
  refine lv_aload_n hx hb dX0_stepsBack_19 rfl (lv_at hl 0 rfl) ?_
  refine z_get (k := 8) zcX0 hC hK hP 0 rfl (by decide) lF_X0_37 rfl dX0_stepsBack_20 ?_
  refine lv_bipush (v := nI 22) hx hb dX0_stepsBack_23 (by decide) ?_
  refine zi_mul hC dX0_stepsBack_25 ?_
  refine lv_istore_n (lv' := [(1, .int (nI ((k - 1) * 22))), (0, .ref pp)]) hx hb dX0_stepsBack_26 rfl hl (by decide) rfl (fun ls hl => ?_)
  refine lv_aload_n hx hb dX0_stepsBack_27 rfl (lv_at hl 1 rfl) ?_
  refine z_get (k := 7) zcX0 hC hK hP 0 rfl (by decide) lF_X0_34 rfl dX0_stepsBack_28 ?_
  refine lv_iload_n hx hb dX0_stepsBack_31 rfl (lv_at hl 0 rfl) ?_
  refine lv_aload_n hx hb dX0_stepsBack_32 rfl (lv_at hl 1 rfl) ?_
  refine z_get (k := 0) zcX0 hC hK hP 0 rfl (by decide) lF_X0_11 rfl dX0_stepsBack_33 ?_
  refine lv_iconst (v := nI 0) hx hb dX0_stepsBack_36 (by decide) ?_
  refine lv_bipush (v := nI 6) hx hb dX0_stepsBack_37 (by decide) ?_
  refine z_copy hC hK hP hD hS 4 1 rfl rfl (by omega) (by omega) (by decide) (by decide) (Nat.le_of_ble_eq_true rfl) (Nat.le_of_ble_eq_true rfl) lX_X0_53 hl.1 dX0_stepsBack_39 (fun H locs hP hD hS => ?_)
  have hP : va_P D vwCl [oP pp pl pt pa mo dn ea bn stA (k - 1), aI cI pl 6 (cpyN st lv ((k - 1) * 22) 0 6), aI cI pt 6 te, aI cI pa 6 la, aI cI stA 220 st] H := hP
  have hD : va_D A [oP pp pl pt pa mo dn ea bn stA (k - 1), aI cI pl 6 (cpyN st lv ((k - 1) * 22) 0 6), aI cI pt 6 te, aI cI pa 6 la, aI cI stA 220 st] := hD
  refine lv_aload_n hx hb dX0_stepsBack_42 rfl (lv_at hl 1 rfl) ?_
  refine z_get (k := 7) zcX0 hC hK hP 0 rfl (by decide) lF_X0_34 rfl dX0_stepsBack_43 ?_
  refine lv_iload_n hx hb dX0_stepsBack_46 rfl (lv_at hl 0 rfl) ?_
  refine lv_bipush (v := nI 6) hx hb dX0_stepsBack_47 (by decide) ?_
  refine zi_add hC dX0_stepsBack_49 ?_
  refine lv_aload_n hx hb dX0_stepsBack_50 rfl (lv_at hl 1 rfl) ?_
  refine z_get (k := 1) zcX0 hC hK hP 0 rfl (by decide) lF_X0_15 rfl dX0_stepsBack_51 ?_
  refine lv_iconst (v := nI 0) hx hb dX0_stepsBack_54 (by decide) ?_
  refine lv_bipush (v := nI 6) hx hb dX0_stepsBack_55 (by decide) ?_
  refine z_copy hC hK hP hD hS 4 2 rfl rfl (by omega) (by omega) (by decide) (by decide) (Nat.le_of_ble_eq_true rfl) (Nat.le_of_ble_eq_true rfl) lX_X0_53 hl.1 dX0_stepsBack_57 (fun H locs hP hD hS => ?_)
  have hP : va_P D vwCl [oP pp pl pt pa mo dn ea bn stA (k - 1), aI cI pl 6 (cpyN st lv ((k - 1) * 22) 0 6), aI cI pt 6 (cpyN st te (((k - 1) * 22) + 6) 0 6), aI cI pa 6 la, aI cI stA 220 st] H := hP
  have hD : va_D A [oP pp pl pt pa mo dn ea bn stA (k - 1), aI cI pl 6 (cpyN st lv ((k - 1) * 22) 0 6), aI cI pt 6 (cpyN st te (((k - 1) * 22) + 6) 0 6), aI cI pa 6 la, aI cI stA 220 st] := hD
  refine lv_aload_n hx hb dX0_stepsBack_60 rfl (lv_at hl 1 rfl) ?_
  refine z_get (k := 7) zcX0 hC hK hP 0 rfl (by decide) lF_X0_34 rfl dX0_stepsBack_61 ?_
  refine lv_iload_n hx hb dX0_stepsBack_64 rfl (lv_at hl 0 rfl) ?_
  refine lv_bipush (v := nI 12) hx hb dX0_stepsBack_65 (by decide) ?_
  refine zi_add hC dX0_stepsBack_67 ?_
  refine lv_aload_n hx hb dX0_stepsBack_68 rfl (lv_at hl 1 rfl) ?_
  refine z_get (k := 2) zcX0 hC hK hP 0 rfl (by decide) lF_X0_18 rfl dX0_stepsBack_69 ?_
  refine lv_iconst (v := nI 0) hx hb dX0_stepsBack_72 (by decide) ?_
  refine lv_bipush (v := nI 6) hx hb dX0_stepsBack_73 (by decide) ?_
  refine z_copy hC hK hP hD hS 4 3 rfl rfl (by omega) (by omega) (by decide) (by decide) (Nat.le_of_ble_eq_true rfl) (Nat.le_of_ble_eq_true rfl) lX_X0_53 hl.1 dX0_stepsBack_75 (fun H locs hP hD hS => ?_)
  have hP : va_P D vwCl [oP pp pl pt pa mo dn ea bn stA (k - 1), aI cI pl 6 (cpyN st lv ((k - 1) * 22) 0 6), aI cI pt 6 (cpyN st te (((k - 1) * 22) + 6) 0 6), aI cI pa 6 (cpyN st la (((k - 1) * 22) + 12) 0 6), aI cI stA 220 st] H := hP
  have hD : va_D A [oP pp pl pt pa mo dn ea bn stA (k - 1), aI cI pl 6 (cpyN st lv ((k - 1) * 22) 0 6), aI cI pt 6 (cpyN st te (((k - 1) * 22) + 6) 0 6), aI cI pa 6 (cpyN st la (((k - 1) * 22) + 12) 0 6), aI cI stA 220 st] := hD
  refine lv_aload_n hx hb dX0_stepsBack_78 rfl (lv_at hl 1 rfl) ?_
  refine lv_aload_n hx hb dX0_stepsBack_79 rfl (lv_at hl 1 rfl) ?_
  refine z_get (k := 7) zcX0 hC hK hP 0 rfl (by decide) lF_X0_34 rfl dX0_stepsBack_80 ?_
  refine lv_iload_n hx hb dX0_stepsBack_83 rfl (lv_at hl 0 rfl) ?_
  refine lv_bipush (v := nI 18) hx hb dX0_stepsBack_84 (by decide) ?_
  refine zi_add hC dX0_stepsBack_86 ?_
  refine z_ald hC hK hP 4 rfl (by omega) (by decide) dX0_stepsBack_87 ?_
  refine z_put (k := 3) zcX0 hC hK hP hD hS 0 rfl (by decide) lF_X0_21 rfl rfl rfl (Nat.le_of_ble_eq_true rfl) dX0_stepsBack_88 (fun H locs hP hD hS => ?_)
  have hP : va_P D vwCl [oP pp pl pt pa (st (((k - 1) * 22) + 18)) dn ea bn stA (k - 1), aI cI pl 6 (cpyN st lv ((k - 1) * 22) 0 6), aI cI pt 6 (cpyN st te (((k - 1) * 22) + 6) 0 6), aI cI pa 6 (cpyN st la (((k - 1) * 22) + 12) 0 6), aI cI stA 220 st] H := hP
  have hD : va_D A [oP pp pl pt pa (st (((k - 1) * 22) + 18)) dn ea bn stA (k - 1), aI cI pl 6 (cpyN st lv ((k - 1) * 22) 0 6), aI cI pt 6 (cpyN st te (((k - 1) * 22) + 6) 0 6), aI cI pa 6 (cpyN st la (((k - 1) * 22) + 12) 0 6), aI cI stA 220 st] := hD
  refine lv_aload_n hx hb dX0_stepsBack_91 rfl (lv_at hl 1 rfl) ?_
  refine lv_aload_n hx hb dX0_stepsBack_92 rfl (lv_at hl 1 rfl) ?_
  refine z_get (k := 7) zcX0 hC hK hP 0 rfl (by decide) lF_X0_34 rfl dX0_stepsBack_93 ?_
  refine lv_iload_n hx hb dX0_stepsBack_96 rfl (lv_at hl 0 rfl) ?_
  refine lv_bipush (v := nI 18) hx hb dX0_stepsBack_97 (by decide) ?_
  refine zi_add hC dX0_stepsBack_99 ?_
  refine lv_iconst (v := nI 1) hx hb dX0_stepsBack_100 (by decide) ?_
  refine zi_add hC dX0_stepsBack_101 ?_
  refine z_ald hC hK hP 4 rfl (by omega) (by decide) dX0_stepsBack_102 ?_
  refine z_put (k := 4) zcX0 hC hK hP hD hS 0 rfl (by decide) lF_X0_25 rfl rfl rfl (Nat.le_of_ble_eq_true rfl) dX0_stepsBack_103 (fun H locs hP hD hS => ?_)
  have hP : va_P D vwCl [oP pp pl pt pa (st (((k - 1) * 22) + 18)) (st ((((k - 1) * 22) + 18) + 1)) ea bn stA (k - 1), aI cI pl 6 (cpyN st lv ((k - 1) * 22) 0 6), aI cI pt 6 (cpyN st te (((k - 1) * 22) + 6) 0 6), aI cI pa 6 (cpyN st la (((k - 1) * 22) + 12) 0 6), aI cI stA 220 st] H := hP
  have hD : va_D A [oP pp pl pt pa (st (((k - 1) * 22) + 18)) (st ((((k - 1) * 22) + 18) + 1)) ea bn stA (k - 1), aI cI pl 6 (cpyN st lv ((k - 1) * 22) 0 6), aI cI pt 6 (cpyN st te (((k - 1) * 22) + 6) 0 6), aI cI pa 6 (cpyN st la (((k - 1) * 22) + 12) 0 6), aI cI stA 220 st] := hD
  refine lv_aload_n hx hb dX0_stepsBack_106 rfl (lv_at hl 1 rfl) ?_
  refine lv_aload_n hx hb dX0_stepsBack_107 rfl (lv_at hl 1 rfl) ?_
  refine z_get (k := 7) zcX0 hC hK hP 0 rfl (by decide) lF_X0_34 rfl dX0_stepsBack_108 ?_
  refine lv_iload_n hx hb dX0_stepsBack_111 rfl (lv_at hl 0 rfl) ?_
  refine lv_bipush (v := nI 18) hx hb dX0_stepsBack_112 (by decide) ?_
  refine zi_add hC dX0_stepsBack_114 ?_
  refine lv_iconst (v := nI 2) hx hb dX0_stepsBack_115 (by decide) ?_
  refine zi_add hC dX0_stepsBack_116 ?_
  refine z_ald hC hK hP 4 rfl (by omega) (by decide) dX0_stepsBack_117 ?_
  refine z_put (k := 5) zcX0 hC hK hP hD hS 0 rfl (by decide) lF_X0_28 rfl rfl rfl (Nat.le_of_ble_eq_true rfl) dX0_stepsBack_118 (fun H locs hP hD hS => ?_)
  have hP : va_P D vwCl [oP pp pl pt pa (st (((k - 1) * 22) + 18)) (st ((((k - 1) * 22) + 18) + 1)) (st ((((k - 1) * 22) + 18) + 2)) bn stA (k - 1), aI cI pl 6 (cpyN st lv ((k - 1) * 22) 0 6), aI cI pt 6 (cpyN st te (((k - 1) * 22) + 6) 0 6), aI cI pa 6 (cpyN st la (((k - 1) * 22) + 12) 0 6), aI cI stA 220 st] H := hP
  have hD : va_D A [oP pp pl pt pa (st (((k - 1) * 22) + 18)) (st ((((k - 1) * 22) + 18) + 1)) (st ((((k - 1) * 22) + 18) + 2)) bn stA (k - 1), aI cI pl 6 (cpyN st lv ((k - 1) * 22) 0 6), aI cI pt 6 (cpyN st te (((k - 1) * 22) + 6) 0 6), aI cI pa 6 (cpyN st la (((k - 1) * 22) + 12) 0 6), aI cI stA 220 st] := hD
  refine lv_aload_n hx hb dX0_stepsBack_121 rfl (lv_at hl 1 rfl) ?_
  refine lv_aload_n hx hb dX0_stepsBack_122 rfl (lv_at hl 1 rfl) ?_
  refine z_get (k := 7) zcX0 hC hK hP 0 rfl (by decide) lF_X0_34 rfl dX0_stepsBack_123 ?_
  refine lv_iload_n hx hb dX0_stepsBack_126 rfl (lv_at hl 0 rfl) ?_
  refine lv_bipush (v := nI 18) hx hb dX0_stepsBack_127 (by decide) ?_
  refine zi_add hC dX0_stepsBack_129 ?_
  refine lv_iconst (v := nI 3) hx hb dX0_stepsBack_130 (by decide) ?_
  refine zi_add hC dX0_stepsBack_131 ?_
  refine z_ald hC hK hP 4 rfl (by omega) (by decide) dX0_stepsBack_132 ?_
  refine z_put (k := 6) zcX0 hC hK hP hD hS 0 rfl (by decide) lF_X0_31 rfl rfl rfl (Nat.le_of_ble_eq_true rfl) dX0_stepsBack_133 (fun H locs hP hD hS => ?_)
  have hP : va_P D vwCl [oP pp pl pt pa (st (((k - 1) * 22) + 18)) (st ((((k - 1) * 22) + 18) + 1)) (st ((((k - 1) * 22) + 18) + 2)) (st ((((k - 1) * 22) + 18) + 3)) stA (k - 1), aI cI pl 6 (cpyN st lv ((k - 1) * 22) 0 6), aI cI pt 6 (cpyN st te (((k - 1) * 22) + 6) 0 6), aI cI pa 6 (cpyN st la (((k - 1) * 22) + 12) 0 6), aI cI stA 220 st] H := hP
  have hD : va_D A [oP pp pl pt pa (st (((k - 1) * 22) + 18)) (st ((((k - 1) * 22) + 18) + 1)) (st ((((k - 1) * 22) + 18) + 2)) (st ((((k - 1) * 22) + 18) + 3)) stA (k - 1), aI cI pl 6 (cpyN st lv ((k - 1) * 22) 0 6), aI cI pt 6 (cpyN st te (((k - 1) * 22) + 6) 0 6), aI cI pa 6 (cpyN st la (((k - 1) * 22) + 12) 0 6), aI cI stA 220 st] := hD
  refine lv_iconst (v := nI 1) hx hb dX0_stepsBack_136 (by decide) ?_
  refine z_top (y := bI true) rfl ?_
  exact zw_z hC hr hlk hA h0 hP hS (by first | rfl | omega) dX0_stepsBack_137
set_option maxHeartbeats 1000000 in
set_option maxRecDepth 100000 in
theorem c_X0_becomes {l : Launch} {D : va_G} {cI cZ cB cR : ClassId} {pp : Nat} {pl pt pa mo dn ea bn stA k : Nat} {lv : Nat → Nat} {te : Nat → Nat} {la : Nat → Nat} {st : Nat → Nat} {p2 pl2 pt2 pa2 mo2 dn2 ea2 bn2 stA2 k2 : Nat} {lv2 te2 la2 st2 : Nat → Nat}   : mW l yX0_becomes cX0_becomes 2 none 1 40 D cI cZ cB cR [oP pp pl pt pa mo dn ea bn stA k, aI cI pl 6 lv, aI cI pt 6 te, aI cI pa 6 la, aI cI stA 220 st, oP p2 pl2 pt2 pa2 mo2 dn2 ea2 bn2 stA2 k2, aI cI pl2 6 lv2, aI cI pt2 6 te2, aI cI pa2 6 la2, aI cI stA2 220 st2] [oP pp pl pt pa mo2 dn2 ea2 bn2 stA k2, aI cI pl 6 (cpyN lv2 lv 0 0 6), aI cI pt 6 (cpyN te2 te 0 0 6), aI cI pa 6 (cpyN la2 la 0 0 6), aI cI stA 220 (cpyN st2 st 0 0 220), oP p2 pl2 pt2 pa2 mo2 dn2 ea2 bn2 stA2 k2, aI cI pl2 6 lv2, aI cI pt2 6 te2, aI cI pa2 6 la2, aI cI stA2 220 st2] [.ref pp, .ref p2] (none) := by
  refine mW_of rfl (Nat.le_of_ble_eq_true rfl) ?_
  intro p e s m args below meth c hC hr hlk hK A hA hD H0 h0 hP hS ls hl
  have hP : va_P D vwCl [oP pp pl pt pa mo dn ea bn stA k, aI cI pl 6 lv, aI cI pt 6 te, aI cI pa 6 la, aI cI stA 220 st, oP p2 pl2 pt2 pa2 mo2 dn2 ea2 bn2 stA2 k2, aI cI pl2 6 lv2, aI cI pt2 6 te2, aI cI pa2 6 la2, aI cI stA2 220 st2] H0 := hP
  have hl : lv_has ls 2 [(0, .ref pp), (1, .ref p2)] := hl
  obtain ⟨hx, hb, hml, hown, hts⟩ := id hC
  refine lv_aload_n hx hb dX0_becomes_0 rfl (lv_at hl 1 rfl) ?_
  refine z_get (k := 0) zcX0 hC hK hP 5 rfl (by decide) lF_X0_11 rfl dX0_becomes_1 ?_
  refine lv_iconst (v := nI 0) hx hb dX0_becomes_4 (by decide) ?_
  refine lv_aload_n hx hb dX0_becomes_5 rfl (lv_at hl 0 rfl) ?_
  refine z_get (k := 0) zcX0 hC hK hP 0 rfl (by decide) lF_X0_11 rfl dX0_becomes_6 ?_
  refine lv_iconst (v := nI 0) hx hb dX0_becomes_9 (by decide) ?_
  refine lv_bipush (v := nI 6) hx hb dX0_becomes_10 (by decide) ?_
  refine z_copy hC hK hP hD hS 6 1 rfl rfl (by omega) (by omega) (by decide) (by decide) (Nat.le_of_ble_eq_true rfl) (Nat.le_of_ble_eq_true rfl) lX_X0_53 hl.1 dX0_becomes_12 (fun H locs hP hD hS => ?_)
  have hP : va_P D vwCl [oP pp pl pt pa mo dn ea bn stA k, aI cI pl 6 (cpyN lv2 lv 0 0 6), aI cI pt 6 te, aI cI pa 6 la, aI cI stA 220 st, oP p2 pl2 pt2 pa2 mo2 dn2 ea2 bn2 stA2 k2, aI cI pl2 6 lv2, aI cI pt2 6 te2, aI cI pa2 6 la2, aI cI stA2 220 st2] H := hP
  have hD : va_D A [oP pp pl pt pa mo dn ea bn stA k, aI cI pl 6 (cpyN lv2 lv 0 0 6), aI cI pt 6 te, aI cI pa 6 la, aI cI stA 220 st, oP p2 pl2 pt2 pa2 mo2 dn2 ea2 bn2 stA2 k2, aI cI pl2 6 lv2, aI cI pt2 6 te2, aI cI pa2 6 la2, aI cI stA2 220 st2] := hD
  refine lv_aload_n hx hb dX0_becomes_15 rfl (lv_at hl 1 rfl) ?_
  refine z_get (k := 1) zcX0 hC hK hP 5 rfl (by decide) lF_X0_15 rfl dX0_becomes_16 ?_
  refine lv_iconst (v := nI 0) hx hb dX0_becomes_19 (by decide) ?_
  refine lv_aload_n hx hb dX0_becomes_20 rfl (lv_at hl 0 rfl) ?_
  refine z_get (k := 1) zcX0 hC hK hP 0 rfl (by decide) lF_X0_15 rfl dX0_becomes_21 ?_
  refine lv_iconst (v := nI 0) hx hb dX0_becomes_24 (by decide) ?_
  refine lv_bipush (v := nI 6) hx hb dX0_becomes_25 (by decide) ?_
  refine z_copy hC hK hP hD hS 7 2 rfl rfl (by omega) (by omega) (by decide) (by decide) (Nat.le_of_ble_eq_true rfl) (Nat.le_of_ble_eq_true rfl) lX_X0_53 hl.1 dX0_becomes_27 (fun H locs hP hD hS => ?_)
  have hP : va_P D vwCl [oP pp pl pt pa mo dn ea bn stA k, aI cI pl 6 (cpyN lv2 lv 0 0 6), aI cI pt 6 (cpyN te2 te 0 0 6), aI cI pa 6 la, aI cI stA 220 st, oP p2 pl2 pt2 pa2 mo2 dn2 ea2 bn2 stA2 k2, aI cI pl2 6 lv2, aI cI pt2 6 te2, aI cI pa2 6 la2, aI cI stA2 220 st2] H := hP
  have hD : va_D A [oP pp pl pt pa mo dn ea bn stA k, aI cI pl 6 (cpyN lv2 lv 0 0 6), aI cI pt 6 (cpyN te2 te 0 0 6), aI cI pa 6 la, aI cI stA 220 st, oP p2 pl2 pt2 pa2 mo2 dn2 ea2 bn2 stA2 k2, aI cI pl2 6 lv2, aI cI pt2 6 te2, aI cI pa2 6 la2, aI cI stA2 220 st2] := hD
  refine lv_aload_n hx hb dX0_becomes_30 rfl (lv_at hl 1 rfl) ?_
  refine z_get (k := 2) zcX0 hC hK hP 5 rfl (by decide) lF_X0_18 rfl dX0_becomes_31 ?_
  refine lv_iconst (v := nI 0) hx hb dX0_becomes_34 (by decide) ?_
  refine lv_aload_n hx hb dX0_becomes_35 rfl (lv_at hl 0 rfl) ?_
  refine z_get (k := 2) zcX0 hC hK hP 0 rfl (by decide) lF_X0_18 rfl dX0_becomes_36 ?_
  refine lv_iconst (v := nI 0) hx hb dX0_becomes_39 (by decide) ?_
  refine lv_bipush (v := nI 6) hx hb dX0_becomes_40 (by decide) ?_
  refine z_copy hC hK hP hD hS 8 3 rfl rfl (by omega) (by omega) (by decide) (by decide) (Nat.le_of_ble_eq_true rfl) (Nat.le_of_ble_eq_true rfl) lX_X0_53 hl.1 dX0_becomes_42 (fun H locs hP hD hS => ?_)
  have hP : va_P D vwCl [oP pp pl pt pa mo dn ea bn stA k, aI cI pl 6 (cpyN lv2 lv 0 0 6), aI cI pt 6 (cpyN te2 te 0 0 6), aI cI pa 6 (cpyN la2 la 0 0 6), aI cI stA 220 st, oP p2 pl2 pt2 pa2 mo2 dn2 ea2 bn2 stA2 k2, aI cI pl2 6 lv2, aI cI pt2 6 te2, aI cI pa2 6 la2, aI cI stA2 220 st2] H := hP
  have hD : va_D A [oP pp pl pt pa mo dn ea bn stA k, aI cI pl 6 (cpyN lv2 lv 0 0 6), aI cI pt 6 (cpyN te2 te 0 0 6), aI cI pa 6 (cpyN la2 la 0 0 6), aI cI stA 220 st, oP p2 pl2 pt2 pa2 mo2 dn2 ea2 bn2 stA2 k2, aI cI pl2 6 lv2, aI cI pt2 6 te2, aI cI pa2 6 la2, aI cI stA2 220 st2] := hD
  refine lv_aload_n hx hb dX0_becomes_45 rfl (lv_at hl 0 rfl) ?_
  refine lv_aload_n hx hb dX0_becomes_46 rfl (lv_at hl 1 rfl) ?_
  refine z_get (k := 3) zcX0 hC hK hP 5 rfl (by decide) lF_X0_21 rfl dX0_becomes_47 ?_
  refine z_put (k := 3) zcX0 hC hK hP hD hS 0 rfl (by decide) lF_X0_21 rfl rfl rfl (Nat.le_of_ble_eq_true rfl) dX0_becomes_50 (fun H locs hP hD hS => ?_)
  have hP : va_P D vwCl [oP pp pl pt pa mo2 dn ea bn stA k, aI cI pl 6 (cpyN lv2 lv 0 0 6), aI cI pt 6 (cpyN te2 te 0 0 6), aI cI pa 6 (cpyN la2 la 0 0 6), aI cI stA 220 st, oP p2 pl2 pt2 pa2 mo2 dn2 ea2 bn2 stA2 k2, aI cI pl2 6 lv2, aI cI pt2 6 te2, aI cI pa2 6 la2, aI cI stA2 220 st2] H := hP
  have hD : va_D A [oP pp pl pt pa mo2 dn ea bn stA k, aI cI pl 6 (cpyN lv2 lv 0 0 6), aI cI pt 6 (cpyN te2 te 0 0 6), aI cI pa 6 (cpyN la2 la 0 0 6), aI cI stA 220 st, oP p2 pl2 pt2 pa2 mo2 dn2 ea2 bn2 stA2 k2, aI cI pl2 6 lv2, aI cI pt2 6 te2, aI cI pa2 6 la2, aI cI stA2 220 st2] := hD
  refine lv_aload_n hx hb dX0_becomes_53 rfl (lv_at hl 0 rfl) ?_
  refine lv_aload_n hx hb dX0_becomes_54 rfl (lv_at hl 1 rfl) ?_
  refine z_get (k := 4) zcX0 hC hK hP 5 rfl (by decide) lF_X0_25 rfl dX0_becomes_55 ?_
  refine z_put (k := 4) zcX0 hC hK hP hD hS 0 rfl (by decide) lF_X0_25 rfl rfl rfl (Nat.le_of_ble_eq_true rfl) dX0_becomes_58 (fun H locs hP hD hS => ?_)
  have hP : va_P D vwCl [oP pp pl pt pa mo2 dn2 ea bn stA k, aI cI pl 6 (cpyN lv2 lv 0 0 6), aI cI pt 6 (cpyN te2 te 0 0 6), aI cI pa 6 (cpyN la2 la 0 0 6), aI cI stA 220 st, oP p2 pl2 pt2 pa2 mo2 dn2 ea2 bn2 stA2 k2, aI cI pl2 6 lv2, aI cI pt2 6 te2, aI cI pa2 6 la2, aI cI stA2 220 st2] H := hP
  have hD : va_D A [oP pp pl pt pa mo2 dn2 ea bn stA k, aI cI pl 6 (cpyN lv2 lv 0 0 6), aI cI pt 6 (cpyN te2 te 0 0 6), aI cI pa 6 (cpyN la2 la 0 0 6), aI cI stA 220 st, oP p2 pl2 pt2 pa2 mo2 dn2 ea2 bn2 stA2 k2, aI cI pl2 6 lv2, aI cI pt2 6 te2, aI cI pa2 6 la2, aI cI stA2 220 st2] := hD
  refine lv_aload_n hx hb dX0_becomes_61 rfl (lv_at hl 0 rfl) ?_
  refine lv_aload_n hx hb dX0_becomes_62 rfl (lv_at hl 1 rfl) ?_
  refine z_get (k := 5) zcX0 hC hK hP 5 rfl (by decide) lF_X0_28 rfl dX0_becomes_63 ?_
  refine z_put (k := 5) zcX0 hC hK hP hD hS 0 rfl (by decide) lF_X0_28 rfl rfl rfl (Nat.le_of_ble_eq_true rfl) dX0_becomes_66 (fun H locs hP hD hS => ?_)
  have hP : va_P D vwCl [oP pp pl pt pa mo2 dn2 ea2 bn stA k, aI cI pl 6 (cpyN lv2 lv 0 0 6), aI cI pt 6 (cpyN te2 te 0 0 6), aI cI pa 6 (cpyN la2 la 0 0 6), aI cI stA 220 st, oP p2 pl2 pt2 pa2 mo2 dn2 ea2 bn2 stA2 k2, aI cI pl2 6 lv2, aI cI pt2 6 te2, aI cI pa2 6 la2, aI cI stA2 220 st2] H := hP
  have hD : va_D A [oP pp pl pt pa mo2 dn2 ea2 bn stA k, aI cI pl 6 (cpyN lv2 lv 0 0 6), aI cI pt 6 (cpyN te2 te 0 0 6), aI cI pa 6 (cpyN la2 la 0 0 6), aI cI stA 220 st, oP p2 pl2 pt2 pa2 mo2 dn2 ea2 bn2 stA2 k2, aI cI pl2 6 lv2, aI cI pt2 6 te2, aI cI pa2 6 la2, aI cI stA2 220 st2] := hD
  refine lv_aload_n hx hb dX0_becomes_69 rfl (lv_at hl 0 rfl) ?_
  refine lv_aload_n hx hb dX0_becomes_70 rfl (lv_at hl 1 rfl) ?_
  refine z_get (k := 6) zcX0 hC hK hP 5 rfl (by decide) lF_X0_31 rfl dX0_becomes_71 ?_
  refine z_put (k := 6) zcX0 hC hK hP hD hS 0 rfl (by decide) lF_X0_31 rfl rfl rfl (Nat.le_of_ble_eq_true rfl) dX0_becomes_74 (fun H locs hP hD hS => ?_)
  have hP : va_P D vwCl [oP pp pl pt pa mo2 dn2 ea2 bn2 stA k, aI cI pl 6 (cpyN lv2 lv 0 0 6), aI cI pt 6 (cpyN te2 te 0 0 6), aI cI pa 6 (cpyN la2 la 0 0 6), aI cI stA 220 st, oP p2 pl2 pt2 pa2 mo2 dn2 ea2 bn2 stA2 k2, aI cI pl2 6 lv2, aI cI pt2 6 te2, aI cI pa2 6 la2, aI cI stA2 220 st2] H := hP
  have hD : va_D A [oP pp pl pt pa mo2 dn2 ea2 bn2 stA k, aI cI pl 6 (cpyN lv2 lv 0 0 6), aI cI pt 6 (cpyN te2 te 0 0 6), aI cI pa 6 (cpyN la2 la 0 0 6), aI cI stA 220 st, oP p2 pl2 pt2 pa2 mo2 dn2 ea2 bn2 stA2 k2, aI cI pl2 6 lv2, aI cI pt2 6 te2, aI cI pa2 6 la2, aI cI stA2 220 st2] := hD
  refine lv_aload_n hx hb dX0_becomes_77 rfl (lv_at hl 1 rfl) ?_
  refine z_get (k := 7) zcX0 hC hK hP 5 rfl (by decide) lF_X0_34 rfl dX0_becomes_78 ?_
  refine lv_iconst (v := nI 0) hx hb dX0_becomes_81 (by decide) ?_
  refine lv_aload_n hx hb dX0_becomes_82 rfl (lv_at hl 0 rfl) ?_
  refine z_get (k := 7) zcX0 hC hK hP 0 rfl (by decide) lF_X0_34 rfl dX0_becomes_83 ?_
  refine lv_iconst (v := nI 0) hx hb dX0_becomes_86 (by decide) ?_
  refine lv_sipush (v := nI 220) hx hb dX0_becomes_87 (by decide) ?_
  refine z_copy hC hK hP hD hS 9 4 rfl rfl (by omega) (by omega) (by decide) (by decide) (Nat.le_of_ble_eq_true rfl) (Nat.le_of_ble_eq_true rfl) lX_X0_53 hl.1 dX0_becomes_90 (fun H locs hP hD hS => ?_)
  have hP : va_P D vwCl [oP pp pl pt pa mo2 dn2 ea2 bn2 stA k, aI cI pl 6 (cpyN lv2 lv 0 0 6), aI cI pt 6 (cpyN te2 te 0 0 6), aI cI pa 6 (cpyN la2 la 0 0 6), aI cI stA 220 (cpyN st2 st 0 0 220), oP p2 pl2 pt2 pa2 mo2 dn2 ea2 bn2 stA2 k2, aI cI pl2 6 lv2, aI cI pt2 6 te2, aI cI pa2 6 la2, aI cI stA2 220 st2] H := hP
  have hD : va_D A [oP pp pl pt pa mo2 dn2 ea2 bn2 stA k, aI cI pl 6 (cpyN lv2 lv 0 0 6), aI cI pt 6 (cpyN te2 te 0 0 6), aI cI pa 6 (cpyN la2 la 0 0 6), aI cI stA 220 (cpyN st2 st 0 0 220), oP p2 pl2 pt2 pa2 mo2 dn2 ea2 bn2 stA2 k2, aI cI pl2 6 lv2, aI cI pt2 6 te2, aI cI pa2 6 la2, aI cI stA2 220 st2] := hD
  refine lv_aload_n hx hb dX0_becomes_93 rfl (lv_at hl 0 rfl) ?_
  refine lv_aload_n hx hb dX0_becomes_94 rfl (lv_at hl 1 rfl) ?_
  refine z_get (k := 8) zcX0 hC hK hP 5 rfl (by decide) lF_X0_37 rfl dX0_becomes_95 ?_
  refine z_put (k := 8) zcX0 hC hK hP hD hS 0 rfl (by decide) lF_X0_37 rfl rfl rfl (Nat.le_of_ble_eq_true rfl) dX0_becomes_98 (fun H locs hP hD hS => ?_)
  have hP : va_P D vwCl [oP pp pl pt pa mo2 dn2 ea2 bn2 stA k2, aI cI pl 6 (cpyN lv2 lv 0 0 6), aI cI pt 6 (cpyN te2 te 0 0 6), aI cI pa 6 (cpyN la2 la 0 0 6), aI cI stA 220 (cpyN st2 st 0 0 220), oP p2 pl2 pt2 pa2 mo2 dn2 ea2 bn2 stA2 k2, aI cI pl2 6 lv2, aI cI pt2 6 te2, aI cI pa2 6 la2, aI cI stA2 220 st2] H := hP
  have hD : va_D A [oP pp pl pt pa mo2 dn2 ea2 bn2 stA k2, aI cI pl 6 (cpyN lv2 lv 0 0 6), aI cI pt 6 (cpyN te2 te 0 0 6), aI cI pa 6 (cpyN la2 la 0 0 6), aI cI stA 220 (cpyN st2 st 0 0 220), oP p2 pl2 pt2 pa2 mo2 dn2 ea2 bn2 stA2 k2, aI cI pl2 6 lv2, aI cI pt2 6 te2, aI cI pa2 6 la2, aI cI stA2 220 st2] := hD
  exact zw_v hC hr hlk hA h0 hP hS dX0_becomes_101
set_option maxHeartbeats 1000000 in
set_option maxRecDepth 100000 in
theorem c_X0_begins {l : Launch} {D : va_G} {cI cZ cB cR : ClassId} {pp b : Nat} {pl pt pa mo dn ea bn stA k : Nat} {n lvA aiA laA ac woA drA : Nat} {lv : Nat → Nat} {te : Nat → Nat} {la : Nat → Nat} {bl bla : Nat → Nat}   : mW l yX0_begins cX0_begins 3 none 0 0 D cI cZ cB cR [oP pp pl pt pa mo dn ea bn stA k, aI cI pl 6 lv, aI cI pt 6 te, aI cI pa 6 la, oB b n lvA aiA laA ac woA drA, aI cI lvA 6 bl, aI cI laA 6 bla] [oP pp pl pt pa 0 0 0 0 stA 0, aI cI pl 6 (cpyN bl lv 0 0 6), aI cI pt 6 (cpyN (fun _ => 0) te 0 0 6), aI cI pa 6 (cpyN bla la 0 0 6), oB b n lvA aiA laA ac woA drA, aI cI lvA 6 bl, aI cI laA 6 bla] [.ref pp, .ref b] (none) := by
  refine mW_of rfl (Nat.le_of_ble_eq_true rfl) ?_
  intro p e s m args below meth c hC hr hlk hK A hA hD H0 h0 hP hS ls hl
  have hP : va_P D vwCl [oP pp pl pt pa mo dn ea bn stA k, aI cI pl 6 lv, aI cI pt 6 te, aI cI pa 6 la, oB b n lvA aiA laA ac woA drA, aI cI lvA 6 bl, aI cI laA 6 bla] H0 := hP
  have hl : lv_has ls 3 [(0, .ref pp), (1, .ref b)] := hl
  obtain ⟨hx, hb, hml, hown, hts⟩ := id hC
  refine lv_iconst (v := nI 0) hx hb dX0_begins_0 (by decide) ?_
  refine lv_istore_n (lv' := [(2, .int (nI 0)), (0, .ref pp), (1, .ref b)]) hx hb dX0_begins_1 rfl hl (by decide) rfl (fun ls hl => ?_)
  have hL2 : ∀ (z2 : Nat) (d : Nat) (lv9 : Nat → Nat) (te9 : Nat → Nat) (la9 : Nat → Nat), 6 - d = z2 → d ≤ 6 → lv9 = cpyN bl lv 0 0 d → te9 = cpyN (fun _ => 0) te 0 0 d → la9 = cpyN bla la 0 0 d → ∀ (H : Heap) (locs : List Loc), va_P D vwCl [oP pp pl pt pa mo dn ea bn stA k, aI cI pl 6 lv9, aI cI pt 6 te9, aI cI pa 6 la9, oB b n lvA aiA laA ac woA drA, aI cI lvA 6 bl, aI cI laA 6 bla] H → va_D A [oP pp pl pt pa mo dn ea bn stA k, aI cI pl 6 lv9, aI cI pt 6 te9, aI cI pa 6 la9, oB b n lvA aiA laA ac woA drA, aI cI lvA 6 bl, aI cI laA 6 bla] → va_S A H0 H locs → ∀ ls : Array Slot, lv_has ls 3 [(0, .ref pp), (1, .ref b), (2, .int (nI d))] → W p l e { frames := 0, cells := 0, slots := 0, locals := 0 } s m args below meth c H locs 0 0 (MQ below (qW D [oP pp pl pt pa mo dn ea bn stA k, aI cI pl 6 lv, aI cI pt 6 te, aI cI pa 6 la, oB b n lvA aiA laA ac woA drA, aI cI lvA 6 bl, aI cI laA 6 bla] [oP pp pl pt pa 0 0 0 0 stA 0, aI cI pl 6 (cpyN bl lv 0 0 6), aI cI pt 6 (cpyN (fun _ => 0) te 0 0 6), aI cI pa 6 (cpyN bla la 0 0 6), oB b n lvA aiA laA ac woA drA, aI cI lvA 6 bl, aI cI laA 6 bla] (none)) args s 0 0 (zA [oP pp pl pt pa mo dn ea bn stA k, aI cI pl 6 lv, aI cI pt 6 te, aI cI pa 6 la, oB b n lvA aiA laA ac woA drA, aI cI lvA 6 bl, aI cI laA 6 bla])) (F0 m 2 ls []) := by
    intro z2
    induction z2 using Nat.strongRecOn with
    | _ z2 ih2 =>
    intro d lv9 te9 la9 hz2 hd hlv9 hte9 hla9 H locs hP hD hS ls hl
    refine lv_iload_n hx hb dX0_begins_2 rfl (lv_at hl 2 rfl) ?_
    refine lv_bipush (v := nI 6) hx hb dX0_begins_3 (by decide) ?_
    refine zc_ge (tgt := 45) hC dX0_begins_5 (by decide) (by omega) (by omega) (fun c5 => ?_) (fun c5 => ?_)
    · skip
      refine lv_aload_n hx hb dX0_begins_45 rfl (lv_at hl 0 rfl) ?_
      refine lv_iconst (v := nI 0) hx hb dX0_begins_46 (by decide) ?_
      refine z_put (k := 3) zcX0 hC hK hP hD hS 0 rfl (by decide) lF_X0_21 rfl rfl rfl (Nat.le_of_ble_eq_true rfl) dX0_begins_47 (fun H locs hP hD hS => ?_)
      have hP : va_P D vwCl [oP pp pl pt pa 0 dn ea bn stA k, aI cI pl 6 lv9, aI cI pt 6 te9, aI cI pa 6 la9, oB b n lvA aiA laA ac woA drA, aI cI lvA 6 bl, aI cI laA 6 bla] H := hP
      have hD : va_D A [oP pp pl pt pa 0 dn ea bn stA k, aI cI pl 6 lv9, aI cI pt 6 te9, aI cI pa 6 la9, oB b n lvA aiA laA ac woA drA, aI cI lvA 6 bl, aI cI laA 6 bla] := hD
      refine lv_aload_n hx hb dX0_begins_50 rfl (lv_at hl 0 rfl) ?_
      refine lv_iconst (v := nI 0) hx hb dX0_begins_51 (by decide) ?_
      refine z_put (k := 4) zcX0 hC hK hP hD hS 0 rfl (by decide) lF_X0_25 rfl rfl rfl (Nat.le_of_ble_eq_true rfl) dX0_begins_52 (fun H locs hP hD hS => ?_)
      have hP : va_P D vwCl [oP pp pl pt pa 0 0 ea bn stA k, aI cI pl 6 lv9, aI cI pt 6 te9, aI cI pa 6 la9, oB b n lvA aiA laA ac woA drA, aI cI lvA 6 bl, aI cI laA 6 bla] H := hP
      have hD : va_D A [oP pp pl pt pa 0 0 ea bn stA k, aI cI pl 6 lv9, aI cI pt 6 te9, aI cI pa 6 la9, oB b n lvA aiA laA ac woA drA, aI cI lvA 6 bl, aI cI laA 6 bla] := hD
      refine lv_aload_n hx hb dX0_begins_55 rfl (lv_at hl 0 rfl) ?_
      refine lv_iconst (v := nI 0) hx hb dX0_begins_56 (by decide) ?_
      refine z_put (k := 5) zcX0 hC hK hP hD hS 0 rfl (by decide) lF_X0_28 rfl rfl rfl (Nat.le_of_ble_eq_true rfl) dX0_begins_57 (fun H locs hP hD hS => ?_)
      have hP : va_P D vwCl [oP pp pl pt pa 0 0 0 bn stA k, aI cI pl 6 lv9, aI cI pt 6 te9, aI cI pa 6 la9, oB b n lvA aiA laA ac woA drA, aI cI lvA 6 bl, aI cI laA 6 bla] H := hP
      have hD : va_D A [oP pp pl pt pa 0 0 0 bn stA k, aI cI pl 6 lv9, aI cI pt 6 te9, aI cI pa 6 la9, oB b n lvA aiA laA ac woA drA, aI cI lvA 6 bl, aI cI laA 6 bla] := hD
      refine lv_aload_n hx hb dX0_begins_60 rfl (lv_at hl 0 rfl) ?_
      refine lv_iconst (v := nI 0) hx hb dX0_begins_61 (by decide) ?_
      refine z_put (k := 6) zcX0 hC hK hP hD hS 0 rfl (by decide) lF_X0_31 rfl rfl rfl (Nat.le_of_ble_eq_true rfl) dX0_begins_62 (fun H locs hP hD hS => ?_)
      have hP : va_P D vwCl [oP pp pl pt pa 0 0 0 0 stA k, aI cI pl 6 lv9, aI cI pt 6 te9, aI cI pa 6 la9, oB b n lvA aiA laA ac woA drA, aI cI lvA 6 bl, aI cI laA 6 bla] H := hP
      have hD : va_D A [oP pp pl pt pa 0 0 0 0 stA k, aI cI pl 6 lv9, aI cI pt 6 te9, aI cI pa 6 la9, oB b n lvA aiA laA ac woA drA, aI cI lvA 6 bl, aI cI laA 6 bla] := hD
      refine lv_aload_n hx hb dX0_begins_65 rfl (lv_at hl 0 rfl) ?_
      refine lv_iconst (v := nI 0) hx hb dX0_begins_66 (by decide) ?_
      refine z_put (k := 8) zcX0 hC hK hP hD hS 0 rfl (by decide) lF_X0_37 rfl rfl rfl (Nat.le_of_ble_eq_true rfl) dX0_begins_67 (fun H locs hP hD hS => ?_)
      have hP : va_P D vwCl [oP pp pl pt pa 0 0 0 0 stA 0, aI cI pl 6 lv9, aI cI pt 6 te9, aI cI pa 6 la9, oB b n lvA aiA laA ac woA drA, aI cI lvA 6 bl, aI cI laA 6 bla] H := hP
      have hD : va_D A [oP pp pl pt pa 0 0 0 0 stA 0, aI cI pl 6 lv9, aI cI pt 6 te9, aI cI pa 6 la9, oB b n lvA aiA laA ac woA drA, aI cI lvA 6 bl, aI cI laA 6 bla] := hD
      exact zw_v hC hr hlk hA h0 (by rw [hlv9, hte9, hla9, show d = 6 by omega] at hP; exact hP) hS dX0_begins_70
    · skip
      refine lv_aload_n hx hb dX0_begins_8 rfl (lv_at hl 0 rfl) ?_
      refine z_get (k := 0) zcX0 hC hK hP 0 rfl (by decide) lF_X0_11 rfl dX0_begins_9 ?_
      refine lv_iload_n hx hb dX0_begins_12 rfl (lv_at hl 2 rfl) ?_
      refine lv_aload_n hx hb dX0_begins_13 rfl (lv_at hl 1 rfl) ?_
      refine z_get (k := 1) zcX1 hC hK hP 4 rfl (by decide) lF_X0_40 rfl dX0_begins_14 ?_
      refine lv_iload_n hx hb dX0_begins_17 rfl (lv_at hl 2 rfl) ?_
      refine z_ald hC hK hP 5 rfl (by omega) (by decide) dX0_begins_18 ?_
      refine z_ast hC hK hP hD hS 1 rfl (by omega) (by decide) dX0_begins_19 (fun H locs hP hD hS => ?_)
      have hP : va_P D vwCl [oP pp pl pt pa mo dn ea bn stA k, aI cI pl 6 (updN lv9 d (bl d)), aI cI pt 6 te9, aI cI pa 6 la9, oB b n lvA aiA laA ac woA drA, aI cI lvA 6 bl, aI cI laA 6 bla] H := hP
      have hD : va_D A [oP pp pl pt pa mo dn ea bn stA k, aI cI pl 6 (updN lv9 d (bl d)), aI cI pt 6 te9, aI cI pa 6 la9, oB b n lvA aiA laA ac woA drA, aI cI lvA 6 bl, aI cI laA 6 bla] := hD
      refine lv_aload_n hx hb dX0_begins_20 rfl (lv_at hl 0 rfl) ?_
      refine z_get (k := 1) zcX0 hC hK hP 0 rfl (by decide) lF_X0_15 rfl dX0_begins_21 ?_
      refine lv_iload_n hx hb dX0_begins_24 rfl (lv_at hl 2 rfl) ?_
      refine lv_iconst (v := nI 0) hx hb dX0_begins_25 (by decide) ?_
      refine z_ast hC hK hP hD hS 2 rfl (by omega) (by decide) dX0_begins_26 (fun H locs hP hD hS => ?_)
      have hP : va_P D vwCl [oP pp pl pt pa mo dn ea bn stA k, aI cI pl 6 (updN lv9 d (bl d)), aI cI pt 6 (updN te9 d 0), aI cI pa 6 la9, oB b n lvA aiA laA ac woA drA, aI cI lvA 6 bl, aI cI laA 6 bla] H := hP
      have hD : va_D A [oP pp pl pt pa mo dn ea bn stA k, aI cI pl 6 (updN lv9 d (bl d)), aI cI pt 6 (updN te9 d 0), aI cI pa 6 la9, oB b n lvA aiA laA ac woA drA, aI cI lvA 6 bl, aI cI laA 6 bla] := hD
      refine lv_aload_n hx hb dX0_begins_27 rfl (lv_at hl 0 rfl) ?_
      refine z_get (k := 2) zcX0 hC hK hP 0 rfl (by decide) lF_X0_18 rfl dX0_begins_28 ?_
      refine lv_iload_n hx hb dX0_begins_31 rfl (lv_at hl 2 rfl) ?_
      refine lv_aload_n hx hb dX0_begins_32 rfl (lv_at hl 1 rfl) ?_
      refine z_get (k := 3) zcX1 hC hK hP 4 rfl (by decide) lF_X0_43 rfl dX0_begins_33 ?_
      refine lv_iload_n hx hb dX0_begins_36 rfl (lv_at hl 2 rfl) ?_
      refine z_ald hC hK hP 6 rfl (by omega) (by decide) dX0_begins_37 ?_
      refine z_ast hC hK hP hD hS 3 rfl (by omega) (by decide) dX0_begins_38 (fun H locs hP hD hS => ?_)
      have hP : va_P D vwCl [oP pp pl pt pa mo dn ea bn stA k, aI cI pl 6 (updN lv9 d (bl d)), aI cI pt 6 (updN te9 d 0), aI cI pa 6 (updN la9 d (bla d)), oB b n lvA aiA laA ac woA drA, aI cI lvA 6 bl, aI cI laA 6 bla] H := hP
      have hD : va_D A [oP pp pl pt pa mo dn ea bn stA k, aI cI pl 6 (updN lv9 d (bl d)), aI cI pt 6 (updN te9 d 0), aI cI pa 6 (updN la9 d (bla d)), oB b n lvA aiA laA ac woA drA, aI cI lvA 6 bl, aI cI laA 6 bla] := hD
      refine lv_iinc (v := nI (d + 1)) (lv' := [(2, .int (nI (d + 1))), (0, .ref pp), (1, .ref b)]) hx hb dX0_begins_39 hl (k := 2) rfl (z_inc d 1) (by decide) rfl (fun ls hl => ?_)
      refine lv_goto (tgt := 2) hx hb dX0_begins_42 (by decide) ?_
      exact ih2 (6 - (d + 1)) (by omega) (d + 1) (updN lv9 d (bl d)) (updN te9 d 0) (updN la9 d (bla d)) rfl (by omega) (by rw [hlv9, cpy_s]) (by rw [hte9]; exact cpy_s (fun _ => 0) te d) (by rw [hla9, cpy_s]) _ _ hP hD hS ls (lv_sub hl [1, 2, 0] rfl)
  exact hL2 _ 0 lv te la rfl (by omega) (by exact (cpy_0 _ _).symm) (by exact (cpy_0 _ _).symm) (by exact (cpy_0 _ _).symm) _ _ hP hD hS ls (lv_sub hl [1, 2, 0] rfl)
set_option maxHeartbeats 1000000 in
set_option maxRecDepth 100000 in
theorem c_X1_empties {l : Launch} {D : va_G} {cI cZ cB cR : ClassId} {b : Nat} {n lvA aiA laA ac woA drA : Nat}   : mW l yX1_empties cX1_empties 1 none 0 0 D cI cZ cB cR [oB b n lvA aiA laA ac woA drA] [oB b 0 lvA aiA laA 0 woA drA] [.ref b] (none) := by
  refine mW_of rfl (Nat.le_of_ble_eq_true rfl) ?_
  intro p e s m args below meth c hC hr hlk hK A hA hD H0 h0 hP hS ls hl
  have hP : va_P D vwCl [oB b n lvA aiA laA ac woA drA] H0 := hP
  have hl : lv_has ls 1 [(0, .ref b)] := hl
  obtain ⟨hx, hb, hml, hown, hts⟩ := id hC
  refine lv_aload_n hx hb dX1_empties_0 rfl (lv_at hl 0 rfl) ?_
  refine lv_iconst (v := nI 0) hx hb dX1_empties_1 (by decide) ?_
  refine z_put (k := 0) zcX1 hC hK hP hD hS 0 rfl (by decide) lF_X1_9 rfl rfl rfl (Nat.le_of_ble_eq_true rfl) dX1_empties_2 (fun H locs hP hD hS => ?_)
  have hP : va_P D vwCl [oB b 0 lvA aiA laA ac woA drA] H := hP
  have hD : va_D A [oB b 0 lvA aiA laA ac woA drA] := hD
  refine lv_aload_n hx hb dX1_empties_5 rfl (lv_at hl 0 rfl) ?_
  refine lv_iconst (v := nI 0) hx hb dX1_empties_6 (by decide) ?_
  refine z_put (k := 4) zcX1 hC hK hP hD hS 0 rfl (by decide) lF_X1_25 rfl rfl rfl (Nat.le_of_ble_eq_true rfl) dX1_empties_7 (fun H locs hP hD hS => ?_)
  have hP : va_P D vwCl [oB b 0 lvA aiA laA 0 woA drA] H := hP
  have hD : va_D A [oB b 0 lvA aiA laA 0 woA drA] := hD
  exact zw_v hC hr hlk hA h0 hP hS dX1_empties_10
set_option maxHeartbeats 1000000 in
set_option maxRecDepth 100000 in
theorem c_X1_addsDecanter {l : Launch} {D : va_G} {cI cZ cB cR : ClassId} {b : Nat} {n lvA aiA laA ac woA drA : Nat} {bl bla : Nat → Nat} {ai : Nat → Nat} {x9 y9 : Nat} (hn : n < 6) : mW l yX1_addsDecanter cX1_addsDecanter 3 none 0 0 D cI cZ cB cR [oB b n lvA aiA laA ac woA drA, aI cI lvA 6 bl, aI cI aiA 6 ai, aI cI laA 6 bla] [oB b (n + 1) lvA aiA laA ac woA drA, aI cI lvA 6 (updN bl n x9), aI cI aiA 6 (updN ai n y9), aI cI laA 6 (updN bla n n)] [.ref b, .int (nI x9), .int (nI y9)] (none) := by
  refine mW_of rfl (Nat.le_of_ble_eq_true rfl) ?_
  intro p e s m args below meth c hC hr hlk hK A hA hD H0 h0 hP hS ls hl
  have hP : va_P D vwCl [oB b n lvA aiA laA ac woA drA, aI cI lvA 6 bl, aI cI aiA 6 ai, aI cI laA 6 bla] H0 := hP
  have hl : lv_has ls 3 [(0, .ref b), (1, .int (nI x9)), (2, .int (nI y9))] := hl
  obtain ⟨hx, hb, hml, hown, hts⟩ := id hC
  refine lv_aload_n hx hb dX1_addsDecanter_0 rfl (lv_at hl 0 rfl) ?_
  refine z_get (k := 0) zcX1 hC hK hP 0 rfl (by decide) lF_X1_9 rfl dX1_addsDecanter_1 ?_
  refine lv_bipush (v := nI 6) hx hb dX1_addsDecanter_4 (by decide) ?_
  refine zc_ge (tgt := 52) hC dX1_addsDecanter_6 (by decide) (by omega) (by omega) (fun c6 => by exfalso; omega) (fun c6 => ?_)
  refine lv_aload_n hx hb dX1_addsDecanter_9 rfl (lv_at hl 0 rfl) ?_
  refine z_get (k := 1) zcX1 hC hK hP 0 rfl (by decide) lF_X1_15 rfl dX1_addsDecanter_10 ?_
  refine lv_aload_n hx hb dX1_addsDecanter_13 rfl (lv_at hl 0 rfl) ?_
  refine z_get (k := 0) zcX1 hC hK hP 0 rfl (by decide) lF_X1_9 rfl dX1_addsDecanter_14 ?_
  refine lv_iload_n hx hb dX1_addsDecanter_17 rfl (lv_at hl 1 rfl) ?_
  refine z_ast hC hK hP hD hS 1 rfl (by omega) (by decide) dX1_addsDecanter_18 (fun H locs hP hD hS => ?_)
  have hP : va_P D vwCl [oB b n lvA aiA laA ac woA drA, aI cI lvA 6 (updN bl n x9), aI cI aiA 6 ai, aI cI laA 6 bla] H := hP
  have hD : va_D A [oB b n lvA aiA laA ac woA drA, aI cI lvA 6 (updN bl n x9), aI cI aiA 6 ai, aI cI laA 6 bla] := hD
  refine lv_aload_n hx hb dX1_addsDecanter_19 rfl (lv_at hl 0 rfl) ?_
  refine z_get (k := 2) zcX1 hC hK hP 0 rfl (by decide) lF_X1_19 rfl dX1_addsDecanter_20 ?_
  refine lv_aload_n hx hb dX1_addsDecanter_23 rfl (lv_at hl 0 rfl) ?_
  refine z_get (k := 0) zcX1 hC hK hP 0 rfl (by decide) lF_X1_9 rfl dX1_addsDecanter_24 ?_
  refine lv_iload_n hx hb dX1_addsDecanter_27 rfl (lv_at hl 2 rfl) ?_
  refine z_ast hC hK hP hD hS 2 rfl (by omega) (by decide) dX1_addsDecanter_28 (fun H locs hP hD hS => ?_)
  have hP : va_P D vwCl [oB b n lvA aiA laA ac woA drA, aI cI lvA 6 (updN bl n x9), aI cI aiA 6 (updN ai n y9), aI cI laA 6 bla] H := hP
  have hD : va_D A [oB b n lvA aiA laA ac woA drA, aI cI lvA 6 (updN bl n x9), aI cI aiA 6 (updN ai n y9), aI cI laA 6 bla] := hD
  refine lv_aload_n hx hb dX1_addsDecanter_29 rfl (lv_at hl 0 rfl) ?_
  refine z_get (k := 3) zcX1 hC hK hP 0 rfl (by decide) lF_X1_22 rfl dX1_addsDecanter_30 ?_
  refine lv_aload_n hx hb dX1_addsDecanter_33 rfl (lv_at hl 0 rfl) ?_
  refine z_get (k := 0) zcX1 hC hK hP 0 rfl (by decide) lF_X1_9 rfl dX1_addsDecanter_34 ?_
  refine lv_aload_n hx hb dX1_addsDecanter_37 rfl (lv_at hl 0 rfl) ?_
  refine z_get (k := 0) zcX1 hC hK hP 0 rfl (by decide) lF_X1_9 rfl dX1_addsDecanter_38 ?_
  refine z_ast hC hK hP hD hS 3 rfl (by omega) (by decide) dX1_addsDecanter_41 (fun H locs hP hD hS => ?_)
  have hP : va_P D vwCl [oB b n lvA aiA laA ac woA drA, aI cI lvA 6 (updN bl n x9), aI cI aiA 6 (updN ai n y9), aI cI laA 6 (updN bla n n)] H := hP
  have hD : va_D A [oB b n lvA aiA laA ac woA drA, aI cI lvA 6 (updN bl n x9), aI cI aiA 6 (updN ai n y9), aI cI laA 6 (updN bla n n)] := hD
  refine lv_aload_n hx hb dX1_addsDecanter_42 rfl (lv_at hl 0 rfl) ?_
  refine lv_dup hx hb dX1_addsDecanter_43 rfl ?_
  refine z_get (k := 0) zcX1 hC hK hP 0 rfl (by decide) lF_X1_9 rfl dX1_addsDecanter_44 ?_
  refine lv_iconst (v := nI 1) hx hb dX1_addsDecanter_47 (by decide) ?_
  refine zi_add hC dX1_addsDecanter_48 ?_
  refine z_put (k := 0) zcX1 hC hK hP hD hS 0 rfl (by decide) lF_X1_9 rfl rfl rfl (Nat.le_of_ble_eq_true rfl) dX1_addsDecanter_49 (fun H locs hP hD hS => ?_)
  have hP : va_P D vwCl [oB b (n + 1) lvA aiA laA ac woA drA, aI cI lvA 6 (updN bl n x9), aI cI aiA 6 (updN ai n y9), aI cI laA 6 (updN bla n n)] H := hP
  have hD : va_D A [oB b (n + 1) lvA aiA laA ac woA drA, aI cI lvA 6 (updN bl n x9), aI cI aiA 6 (updN ai n y9), aI cI laA 6 (updN bla n n)] := hD
  exact zw_v hC hr hlk hA h0 hP hS dX1_addsDecanter_52
set_option maxHeartbeats 1000000 in
set_option maxRecDepth 100000 in
theorem c_X1_addsAct {l : Launch} {D : va_G} {cI cZ cB cR : ClassId} {b : Nat} {n lvA aiA laA ac woA drA : Nat} {wo : Nat → Nat} {r : Nat → Nat} {dr : Nat → Nat → Nat} {x9 : Nat} (hac : ac < 5) : mW l yX1_addsAct cX1_addsAct 3 none 0 0 D cI cZ cB cR [oB b n lvA aiA laA ac woA drA, aI cI woA 5 wo, aR cR drA 5 r, aI cI (r 0) 6 (dr 0), aI cI (r 1) 6 (dr 1), aI cI (r 2) 6 (dr 2), aI cI (r 3) 6 (dr 3), aI cI (r 4) 6 (dr 4)] [oB b n lvA aiA laA (ac + 1) woA drA, aI cI woA 5 (updN wo ac x9), aR cR drA 5 r, aI cI (r 0) 6 (updF dr ac (cpyN (fun _ => 0) (dr ac) 0 0 6) 0), aI cI (r 1) 6 (updF dr ac (cpyN (fun _ => 0) (dr ac) 0 0 6) 1), aI cI (r 2) 6 (updF dr ac (cpyN (fun _ => 0) (dr ac) 0 0 6) 2), aI cI (r 3) 6 (updF dr ac (cpyN (fun _ => 0) (dr ac) 0 0 6) 3), aI cI (r 4) 6 (updF dr ac (cpyN (fun _ => 0) (dr ac) 0 0 6) 4)] [.ref b, .int (nI x9)] (none) := by
  refine mW_of rfl (Nat.le_of_ble_eq_true rfl) ?_
  intro p e s m args below meth c hC hr hlk hK A hA hD H0 h0 hP hS ls hl
  have hP : va_P D vwCl [oB b n lvA aiA laA ac woA drA, aI cI woA 5 wo, aR cR drA 5 r, aI cI (r 0) 6 (dr 0), aI cI (r 1) 6 (dr 1), aI cI (r 2) 6 (dr 2), aI cI (r 3) 6 (dr 3), aI cI (r 4) 6 (dr 4)] H0 := hP
  have hl : lv_has ls 3 [(0, .ref b), (1, .int (nI x9))] := hl
  obtain ⟨hx, hb, hml, hown, hts⟩ := id hC
  refine lv_aload_n hx hb dX1_addsAct_0 rfl (lv_at hl 0 rfl) ?_
  refine z_get (k := 4) zcX1 hC hK hP 0 rfl (by decide) lF_X1_25 rfl dX1_addsAct_1 ?_
  refine lv_iconst (v := nI 5) hx hb dX1_addsAct_4 (by decide) ?_
  refine zc_ge (tgt := 54) hC dX1_addsAct_5 (by decide) (by omega) (by omega) (fun c5 => by exfalso; omega) (fun c5 => ?_)
  refine lv_aload_n hx hb dX1_addsAct_8 rfl (lv_at hl 0 rfl) ?_
  refine z_get (k := 5) zcX1 hC hK hP 0 rfl (by decide) lF_X1_28 rfl dX1_addsAct_9 ?_
  refine lv_aload_n hx hb dX1_addsAct_12 rfl (lv_at hl 0 rfl) ?_
  refine z_get (k := 4) zcX1 hC hK hP 0 rfl (by decide) lF_X1_25 rfl dX1_addsAct_13 ?_
  refine lv_iload_n hx hb dX1_addsAct_16 rfl (lv_at hl 1 rfl) ?_
  refine z_ast hC hK hP hD hS 1 rfl (by omega) (by decide) dX1_addsAct_17 (fun H locs hP hD hS => ?_)
  have hP : va_P D vwCl [oB b n lvA aiA laA ac woA drA, aI cI woA 5 (updN wo ac x9), aR cR drA 5 r, aI cI (r 0) 6 (dr 0), aI cI (r 1) 6 (dr 1), aI cI (r 2) 6 (dr 2), aI cI (r 3) 6 (dr 3), aI cI (r 4) 6 (dr 4)] H := hP
  have hD : va_D A [oB b n lvA aiA laA ac woA drA, aI cI woA 5 (updN wo ac x9), aR cR drA 5 r, aI cI (r 0) 6 (dr 0), aI cI (r 1) 6 (dr 1), aI cI (r 2) 6 (dr 2), aI cI (r 3) 6 (dr 3), aI cI (r 4) 6 (dr 4)] := hD
  refine lv_iconst (v := nI 0) hx hb dX1_addsAct_18 (by decide) ?_
  refine lv_istore_n (lv' := [(2, .int (nI 0)), (0, .ref b), (1, .int (nI x9))]) hx hb dX1_addsAct_19 rfl hl (by decide) rfl (fun ls hl => ?_)
  have hL20 : ∀ (z20 : Nat) (d : Nat) (dr9 : Nat → Nat → Nat), 6 - d = z20 → d ≤ 6 → dr9 = updF dr ac (cpyN (fun _ => 0) (dr ac) 0 0 d) → ∀ (H : Heap) (locs : List Loc), va_P D vwCl [oB b n lvA aiA laA ac woA drA, aI cI woA 5 (updN wo ac x9), aR cR drA 5 r, aI cI (r 0) 6 (dr9 0), aI cI (r 1) 6 (dr9 1), aI cI (r 2) 6 (dr9 2), aI cI (r 3) 6 (dr9 3), aI cI (r 4) 6 (dr9 4)] H → va_D A [oB b n lvA aiA laA ac woA drA, aI cI woA 5 (updN wo ac x9), aR cR drA 5 r, aI cI (r 0) 6 (dr9 0), aI cI (r 1) 6 (dr9 1), aI cI (r 2) 6 (dr9 2), aI cI (r 3) 6 (dr9 3), aI cI (r 4) 6 (dr9 4)] → va_S A H0 H locs → ∀ ls : Array Slot, lv_has ls 3 [(0, .ref b), (1, .int (nI x9)), (2, .int (nI d))] → W p l e { frames := 0, cells := 0, slots := 0, locals := 0 } s m args below meth c H locs 0 0 (MQ below (qW D [oB b n lvA aiA laA ac woA drA, aI cI woA 5 wo, aR cR drA 5 r, aI cI (r 0) 6 (dr 0), aI cI (r 1) 6 (dr 1), aI cI (r 2) 6 (dr 2), aI cI (r 3) 6 (dr 3), aI cI (r 4) 6 (dr 4)] [oB b n lvA aiA laA (ac + 1) woA drA, aI cI woA 5 (updN wo ac x9), aR cR drA 5 r, aI cI (r 0) 6 (updF dr ac (cpyN (fun _ => 0) (dr ac) 0 0 6) 0), aI cI (r 1) 6 (updF dr ac (cpyN (fun _ => 0) (dr ac) 0 0 6) 1), aI cI (r 2) 6 (updF dr ac (cpyN (fun _ => 0) (dr ac) 0 0 6) 2), aI cI (r 3) 6 (updF dr ac (cpyN (fun _ => 0) (dr ac) 0 0 6) 3), aI cI (r 4) 6 (updF dr ac (cpyN (fun _ => 0) (dr ac) 0 0 6) 4)] (none)) args s 0 0 (zA [oB b n lvA aiA laA ac woA drA, aI cI woA 5 wo, aR cR drA 5 r, aI cI (r 0) 6 (dr 0), aI cI (r 1) 6 (dr 1), aI cI (r 2) 6 (dr 2), aI cI (r 3) 6 (dr 3), aI cI (r 4) 6 (dr 4)])) (F0 m 20 ls []) := by
    intro z20
    induction z20 using Nat.strongRecOn with
    | _ z20 ih20 =>
    intro d dr9 hz20 hd hdr9 H locs hP hD hS ls hl
    refine lv_iload_n hx hb dX1_addsAct_20 rfl (lv_at hl 2 rfl) ?_
    refine lv_bipush (v := nI 6) hx hb dX1_addsAct_21 (by decide) ?_
    refine zc_ge (tgt := 44) hC dX1_addsAct_23 (by decide) (by omega) (by omega) (fun c23 => ?_) (fun c23 => ?_)
    · skip
      refine lv_aload_n hx hb dX1_addsAct_44 rfl (lv_at hl 0 rfl) ?_
      refine lv_dup hx hb dX1_addsAct_45 rfl ?_
      refine z_get (k := 4) zcX1 hC hK hP 0 rfl (by decide) lF_X1_25 rfl dX1_addsAct_46 ?_
      refine lv_iconst (v := nI 1) hx hb dX1_addsAct_49 (by decide) ?_
      refine zi_add hC dX1_addsAct_50 ?_
      refine z_put (k := 4) zcX1 hC hK hP hD hS 0 rfl (by decide) lF_X1_25 rfl rfl rfl (Nat.le_of_ble_eq_true rfl) dX1_addsAct_51 (fun H locs hP hD hS => ?_)
      have hP : va_P D vwCl [oB b n lvA aiA laA (ac + 1) woA drA, aI cI woA 5 (updN wo ac x9), aR cR drA 5 r, aI cI (r 0) 6 (dr9 0), aI cI (r 1) 6 (dr9 1), aI cI (r 2) 6 (dr9 2), aI cI (r 3) 6 (dr9 3), aI cI (r 4) 6 (dr9 4)] H := hP
      have hD : va_D A [oB b n lvA aiA laA (ac + 1) woA drA, aI cI woA 5 (updN wo ac x9), aR cR drA 5 r, aI cI (r 0) 6 (dr9 0), aI cI (r 1) 6 (dr9 1), aI cI (r 2) 6 (dr9 2), aI cI (r 3) 6 (dr9 3), aI cI (r 4) 6 (dr9 4)] := hD
      exact zw_v hC hr hlk hA h0 (by rw [hdr9, show d = 6 by omega] at hP; exact hP) hS dX1_addsAct_54
    · skip
      refine lv_aload_n hx hb dX1_addsAct_26 rfl (lv_at hl 0 rfl) ?_
      refine z_get (k := 6) zcX1 hC hK hP 0 rfl (by decide) lF_X1_33 rfl dX1_addsAct_27 ?_
      refine lv_aload_n hx hb dX1_addsAct_30 rfl (lv_at hl 0 rfl) ?_
      refine z_get (k := 4) zcX1 hC hK hP 0 rfl (by decide) lF_X1_25 rfl dX1_addsAct_31 ?_
      refine z_rld hC hK hP 2 rfl (by omega) (by decide) dX1_addsAct_34 ?_
      refine lv_iload_n hx hb dX1_addsAct_35 rfl (lv_at hl 2 rfl) ?_
      refine lv_iconst (v := nI 0) hx hb dX1_addsAct_36 (by decide) ?_
      refine z_ast hC hK hP hD hS (3 + ac) (row5 (X := [oB b n lvA aiA laA ac woA drA, aI cI woA 5 (updN wo ac x9), aR cR drA 5 r]) (dr := dr9) (by omega)) (by omega) (by decide) dX1_addsAct_37 (fun H locs hP hD hS => ?_)
      rw [show (3 + ac) = List.length [oB b n lvA aiA laA ac woA drA, aI cI woA 5 (updN wo ac x9), aR cR drA 5 r] + ac from rfl] at hP hD
      have hP := (row5_set (X := [oB b n lvA aiA laA ac woA drA, aI cI woA 5 (updN wo ac x9), aR cR drA 5 r]) (cI := cI) (r := r) (dr := dr9) (g := updN (dr9 ac) d 0) (show ac < 5 by omega)) ▸ hP
      have hD := (row5_set (X := [oB b n lvA aiA laA ac woA drA, aI cI woA 5 (updN wo ac x9), aR cR drA 5 r]) (cI := cI) (r := r) (dr := dr9) (g := updN (dr9 ac) d 0) (show ac < 5 by omega)) ▸ hD
      have hP : va_P D vwCl [oB b n lvA aiA laA ac woA drA, aI cI woA 5 (updN wo ac x9), aR cR drA 5 r, aI cI (r 0) 6 ((updF dr9 ac (updN (dr9 ac) d 0)) 0), aI cI (r 1) 6 ((updF dr9 ac (updN (dr9 ac) d 0)) 1), aI cI (r 2) 6 ((updF dr9 ac (updN (dr9 ac) d 0)) 2), aI cI (r 3) 6 ((updF dr9 ac (updN (dr9 ac) d 0)) 3), aI cI (r 4) 6 ((updF dr9 ac (updN (dr9 ac) d 0)) 4)] H := hP
      have hD : va_D A [oB b n lvA aiA laA ac woA drA, aI cI woA 5 (updN wo ac x9), aR cR drA 5 r, aI cI (r 0) 6 ((updF dr9 ac (updN (dr9 ac) d 0)) 0), aI cI (r 1) 6 ((updF dr9 ac (updN (dr9 ac) d 0)) 1), aI cI (r 2) 6 ((updF dr9 ac (updN (dr9 ac) d 0)) 2), aI cI (r 3) 6 ((updF dr9 ac (updN (dr9 ac) d 0)) 3), aI cI (r 4) 6 ((updF dr9 ac (updN (dr9 ac) d 0)) 4)] := hD
      refine lv_iinc (v := nI (d + 1)) (lv' := [(2, .int (nI (d + 1))), (0, .ref b), (1, .int (nI x9))]) hx hb dX1_addsAct_38 hl (k := 2) rfl (z_inc d 1) (by decide) rfl (fun ls hl => ?_)
      refine lv_goto (tgt := 20) hx hb dX1_addsAct_41 (by decide) ?_
      exact ih20 (6 - (d + 1)) (by omega) (d + 1) (updF dr9 ac (updN (dr9 ac) d 0)) rfl (by omega) (by rw [hdr9, updF_s, updF_u]; exact congrArg (updF dr ac) (cpy_s (fun _ => 0) (dr ac) d)) _ _ hP hD hS ls (lv_sub hl [1, 2, 0] rfl)
  exact hL20 _ 0 dr rfl (by omega) (by rw [cpy_0, updF_id]) _ _ hP hD hS ls (lv_sub hl [1, 2, 0] rfl)
set_option maxHeartbeats 1000000 in
set_option maxRecDepth 100000 in
theorem c_X1_latestActNeeds {l : Launch} {D : va_G} {cI cZ cB cR : ClassId} {b : Nat} {n lvA aiA laA ac woA drA : Nat} {r : Nat → Nat} {dr : Nat → Nat → Nat} {d x9 : Nat} (hac : 0 < ac) (hac5 : ac ≤ 5) (hd : d < n) (hn : n ≤ 6) : mW l yX1_latestActNeeds cX1_latestActNeeds 3 none 0 0 D cI cZ cB cR [oB b n lvA aiA laA ac woA drA, aR cR drA 5 r, aI cI (r 0) 6 (dr 0), aI cI (r 1) 6 (dr 1), aI cI (r 2) 6 (dr 2), aI cI (r 3) 6 (dr 3), aI cI (r 4) 6 (dr 4)] [oB b n lvA aiA laA ac woA drA, aR cR drA 5 r, aI cI (r 0) 6 (updF dr (ac - 1) (updN (dr (ac - 1)) d x9) 0), aI cI (r 1) 6 (updF dr (ac - 1) (updN (dr (ac - 1)) d x9) 1), aI cI (r 2) 6 (updF dr (ac - 1) (updN (dr (ac - 1)) d x9) 2), aI cI (r 3) 6 (updF dr (ac - 1) (updN (dr (ac - 1)) d x9) 3), aI cI (r 4) 6 (updF dr (ac - 1) (updN (dr (ac - 1)) d x9) 4)] [.ref b, .int (nI d), .int (nI x9)] (none) := by
  refine mW_of rfl (Nat.le_of_ble_eq_true rfl) ?_
  intro p e s m args below meth c hC hr hlk hK A hA hD H0 h0 hP hS ls hl
  have hP : va_P D vwCl [oB b n lvA aiA laA ac woA drA, aR cR drA 5 r, aI cI (r 0) 6 (dr 0), aI cI (r 1) 6 (dr 1), aI cI (r 2) 6 (dr 2), aI cI (r 3) 6 (dr 3), aI cI (r 4) 6 (dr 4)] H0 := hP
  have hl : lv_has ls 3 [(0, .ref b), (1, .int (nI d)), (2, .int (nI x9))] := hl
  obtain ⟨hx, hb, hml, hown, hts⟩ := id hC
  refine lv_aload_n hx hb dX1_latestActNeeds_0 rfl (lv_at hl 0 rfl) ?_
  refine z_get (k := 4) zcX1 hC hK hP 0 rfl (by decide) lF_X1_25 rfl dX1_latestActNeeds_1 ?_
  refine z0_le (tgt := 33) hC dX1_latestActNeeds_4 (by decide) (by omega) (fun c4 => by exfalso; omega) (fun c4 => ?_)
  refine lv_iload_n hx hb dX1_latestActNeeds_7 rfl (lv_at hl 1 rfl) ?_
  refine z0_lt (tgt := 33) hC dX1_latestActNeeds_8 (by decide) (by omega) ?_
  refine lv_iload_n hx hb dX1_latestActNeeds_11 rfl (lv_at hl 1 rfl) ?_
  refine lv_aload_n hx hb dX1_latestActNeeds_12 rfl (lv_at hl 0 rfl) ?_
  refine z_get (k := 0) zcX1 hC hK hP 0 rfl (by decide) lF_X1_9 rfl dX1_latestActNeeds_13 ?_
  refine zc_ge (tgt := 33) hC dX1_latestActNeeds_16 (by decide) (by omega) (by omega) (fun c16 => by exfalso; omega) (fun c16 => ?_)
  refine lv_aload_n hx hb dX1_latestActNeeds_19 rfl (lv_at hl 0 rfl) ?_
  refine z_get (k := 6) zcX1 hC hK hP 0 rfl (by decide) lF_X1_33 rfl dX1_latestActNeeds_20 ?_
  refine lv_aload_n hx hb dX1_latestActNeeds_23 rfl (lv_at hl 0 rfl) ?_
  refine z_get (k := 4) zcX1 hC hK hP 0 rfl (by decide) lF_X1_25 rfl dX1_latestActNeeds_24 ?_
  refine lv_iconst (v := nI 1) hx hb dX1_latestActNeeds_27 (by decide) ?_
  refine zi_sub hC dX1_latestActNeeds_28 (by omega) ?_
  refine z_rld hC hK hP 1 rfl (by omega) (by decide) dX1_latestActNeeds_29 ?_
  refine lv_iload_n hx hb dX1_latestActNeeds_30 rfl (lv_at hl 1 rfl) ?_
  refine lv_iload_n hx hb dX1_latestActNeeds_31 rfl (lv_at hl 2 rfl) ?_
  refine z_ast hC hK hP hD hS (2 + (ac - 1)) (row5 (X := [oB b n lvA aiA laA ac woA drA, aR cR drA 5 r]) (dr := dr) (by omega)) (by omega) (by decide) dX1_latestActNeeds_32 (fun H locs hP hD hS => ?_)
  rw [show (2 + (ac - 1)) = List.length [oB b n lvA aiA laA ac woA drA, aR cR drA 5 r] + (ac - 1) from rfl] at hP hD
  have hP := (row5_set (X := [oB b n lvA aiA laA ac woA drA, aR cR drA 5 r]) (cI := cI) (r := r) (dr := dr) (g := updN (dr (ac - 1)) d x9) (show ac - 1 < 5 by omega)) ▸ hP
  have hD := (row5_set (X := [oB b n lvA aiA laA ac woA drA, aR cR drA 5 r]) (cI := cI) (r := r) (dr := dr) (g := updN (dr (ac - 1)) d x9) (show ac - 1 < 5 by omega)) ▸ hD
  have hP : va_P D vwCl [oB b n lvA aiA laA ac woA drA, aR cR drA 5 r, aI cI (r 0) 6 ((updF dr (ac - 1) (updN (dr (ac - 1)) d x9)) 0), aI cI (r 1) 6 ((updF dr (ac - 1) (updN (dr (ac - 1)) d x9)) 1), aI cI (r 2) 6 ((updF dr (ac - 1) (updN (dr (ac - 1)) d x9)) 2), aI cI (r 3) 6 ((updF dr (ac - 1) (updN (dr (ac - 1)) d x9)) 3), aI cI (r 4) 6 ((updF dr (ac - 1) (updN (dr (ac - 1)) d x9)) 4)] H := hP
  have hD : va_D A [oB b n lvA aiA laA ac woA drA, aR cR drA 5 r, aI cI (r 0) 6 ((updF dr (ac - 1) (updN (dr (ac - 1)) d x9)) 0), aI cI (r 1) 6 ((updF dr (ac - 1) (updN (dr (ac - 1)) d x9)) 1), aI cI (r 2) 6 ((updF dr (ac - 1) (updN (dr (ac - 1)) d x9)) 2), aI cI (r 3) 6 ((updF dr (ac - 1) (updN (dr (ac - 1)) d x9)) 3), aI cI (r 4) 6 ((updF dr (ac - 1) (updN (dr (ac - 1)) d x9)) 4)] := hD
  exact zw_v hC hr hlk hA h0 hP hS dX1_latestActNeeds_33
set_option maxHeartbeats 1000000 in
set_option maxRecDepth 100000 in
theorem c_X1_exchangesLabels {l : Launch} {D : va_G} {cI cZ cB cR : ClassId} {b : Nat} {n lvA aiA laA ac woA drA : Nat} {bla : Nat → Nat} {d e9 : Nat} (hd : d < n) (he : e9 < n) (hn : n ≤ 6) : mW l yX1_exchangesLabels cX1_exchangesLabels 4 none 0 0 D cI cZ cB cR [oB b n lvA aiA laA ac woA drA, aI cI laA 6 bla] [oB b n lvA aiA laA ac woA drA, aI cI laA 6 (updN (updN bla d (bla e9)) e9 (bla d))] [.ref b, .int (nI d), .int (nI e9)] (none) := by
  refine mW_of rfl (Nat.le_of_ble_eq_true rfl) ?_
  intro p e s m args below meth c hC hr hlk hK A hA hD H0 h0 hP hS ls hl
  have hP : va_P D vwCl [oB b n lvA aiA laA ac woA drA, aI cI laA 6 bla] H0 := hP
  have hl : lv_has ls 4 [(0, .ref b), (1, .int (nI d)), (2, .int (nI e9))] := hl
  obtain ⟨hx, hb, hml, hown, hts⟩ := id hC
  refine lv_iload_n hx hb dX1_exchangesLabels_0 rfl (lv_at hl 1 rfl) ?_
  refine z0_lt (tgt := 50) hC dX1_exchangesLabels_1 (by decide) (by omega) ?_
  refine lv_iload_n hx hb dX1_exchangesLabels_4 rfl (lv_at hl 1 rfl) ?_
  refine lv_aload_n hx hb dX1_exchangesLabels_5 rfl (lv_at hl 0 rfl) ?_
  refine z_get (k := 0) zcX1 hC hK hP 0 rfl (by decide) lF_X1_9 rfl dX1_exchangesLabels_6 ?_
  refine zc_ge (tgt := 50) hC dX1_exchangesLabels_9 (by decide) (by omega) (by omega) (fun c9 => by exfalso; omega) (fun c9 => ?_)
  refine lv_iload_n hx hb dX1_exchangesLabels_12 rfl (lv_at hl 2 rfl) ?_
  refine z0_lt (tgt := 50) hC dX1_exchangesLabels_13 (by decide) (by omega) ?_
  refine lv_iload_n hx hb dX1_exchangesLabels_16 rfl (lv_at hl 2 rfl) ?_
  refine lv_aload_n hx hb dX1_exchangesLabels_17 rfl (lv_at hl 0 rfl) ?_
  refine z_get (k := 0) zcX1 hC hK hP 0 rfl (by decide) lF_X1_9 rfl dX1_exchangesLabels_18 ?_
  refine zc_ge (tgt := 50) hC dX1_exchangesLabels_21 (by decide) (by omega) (by omega) (fun c21 => by exfalso; omega) (fun c21 => ?_)
  refine lv_aload_n hx hb dX1_exchangesLabels_24 rfl (lv_at hl 0 rfl) ?_
  refine z_get (k := 3) zcX1 hC hK hP 0 rfl (by decide) lF_X1_22 rfl dX1_exchangesLabels_25 ?_
  refine lv_iload_n hx hb dX1_exchangesLabels_28 rfl (lv_at hl 1 rfl) ?_
  refine z_ald hC hK hP 1 rfl (by omega) (by decide) dX1_exchangesLabels_29 ?_
  refine lv_istore_n (lv' := [(3, .int (nI (bla d))), (0, .ref b), (1, .int (nI d)), (2, .int (nI e9))]) hx hb dX1_exchangesLabels_30 rfl hl (by decide) rfl (fun ls hl => ?_)
  refine lv_aload_n hx hb dX1_exchangesLabels_31 rfl (lv_at hl 1 rfl) ?_
  refine z_get (k := 3) zcX1 hC hK hP 0 rfl (by decide) lF_X1_22 rfl dX1_exchangesLabels_32 ?_
  refine lv_iload_n hx hb dX1_exchangesLabels_35 rfl (lv_at hl 2 rfl) ?_
  refine lv_aload_n hx hb dX1_exchangesLabels_36 rfl (lv_at hl 1 rfl) ?_
  refine z_get (k := 3) zcX1 hC hK hP 0 rfl (by decide) lF_X1_22 rfl dX1_exchangesLabels_37 ?_
  refine lv_iload_n hx hb dX1_exchangesLabels_40 rfl (lv_at hl 3 rfl) ?_
  refine z_ald hC hK hP 1 rfl (by omega) (by decide) dX1_exchangesLabels_41 ?_
  refine z_ast hC hK hP hD hS 1 rfl (by omega) (by decide) dX1_exchangesLabels_42 (fun H locs hP hD hS => ?_)
  have hP : va_P D vwCl [oB b n lvA aiA laA ac woA drA, aI cI laA 6 (updN bla d (bla e9))] H := hP
  have hD : va_D A [oB b n lvA aiA laA ac woA drA, aI cI laA 6 (updN bla d (bla e9))] := hD
  refine lv_aload_n hx hb dX1_exchangesLabels_43 rfl (lv_at hl 1 rfl) ?_
  refine z_get (k := 3) zcX1 hC hK hP 0 rfl (by decide) lF_X1_22 rfl dX1_exchangesLabels_44 ?_
  refine lv_iload_n hx hb dX1_exchangesLabels_47 rfl (lv_at hl 3 rfl) ?_
  refine lv_iload_n hx hb dX1_exchangesLabels_48 rfl (lv_at hl 0 rfl) ?_
  refine z_ast hC hK hP hD hS 1 rfl (by omega) (by decide) dX1_exchangesLabels_49 (fun H locs hP hD hS => ?_)
  have hP : va_P D vwCl [oB b n lvA aiA laA ac woA drA, aI cI laA 6 (updN (updN bla d (bla e9)) e9 (bla d))] H := hP
  have hD : va_D A [oB b n lvA aiA laA ac woA drA, aI cI laA 6 (updN (updN bla d (bla e9)) e9 (bla d))] := hD
  exact zw_v hC hr hlk hA h0 hP hS dX1_exchangesLabels_50
end
section
/-- the sort of a byte -/
def sortN (x : Nat) : Nat := if 97 ≤ x ∧ x ≤ 122 then 1 else if 48 ≤ x ∧ x ≤ 57 then 2 else if x = 59 then 3 else 4
def skp (by_ : Nat → Nat) : Nat → Nat → Nat
  | 0, p => p
  | k + 1, p => if by_ p = 32 then skp by_ k (p + 1) else p
def rn (by_ : Nat → Nat) (s : Nat) : Nat → Nat → Nat
  | 0, p => p
  | k + 1, p => if sortN (by_ p) = s then rn by_ s k (p + 1) else p
def advE (by_ : Nat → Nat) (len q : Nat) : Nat := if sortN (by_ q) = 1 ∨ sortN (by_ q) = 2 then rn by_ (sortN (by_ q)) (len - (q + 1)) (q + 1) else q + 1
def svK (s c w : Nat) : Nat := if s = 2 ∧ ¬ w = 1 ∧ ¬ (w = 2 ∧ c ≠ 48) then 4 else s
def svV (s c l w : Nat) (va : Int32) : Int32 := if s = 2 then (if w = 1 then nI (c - 48) else if w = 2 ∧ c ≠ 48 then nI (10 * (c - 48) + l - 48) else va) else if w = 1 then nI c else -1
abbrev Cu : Type := Nat × Nat × Nat × Int32
def advW (by_ : Nat → Nat) (len q : Nat) (va : Int32) : Cu := (advE by_ len q, svK (sortN (by_ q)) (by_ q) (advE by_ len q - q), q, svV (sortN (by_ q)) (by_ q) (by_ (advE by_ len q - 1)) (advE by_ len q - q) va)
def adv (by_ : Nat → Nat) (len : Nat) (u : Cu) : Cu := if skp by_ (len - u.1) u.1 < len then advW by_ len (skp by_ (len - u.1) u.1) u.2.2.2 else (len, 0, len, -1)
theorem sortN_le (x : Nat) : 1 ≤ sortN x ∧ sortN x ≤ 4 := by
  unfold sortN
  repeat' split
  all_goals omega
theorem sortN_2 {x : Nat} (h : sortN x = 2) : 48 ≤ x ∧ x ≤ 57 := by
  unfold sortN at h
  repeat' split at h
  all_goals omega
theorem skp_stop {by_ : Nat → Nat} {len p : Nat} (h : p < len) (h2 : by_ p ≠ 32) : skp by_ (len - p) p = p := by
  rw [show len - p = (len - (p + 1)) + 1 by omega]
  exact if_neg h2
theorem skp_end {by_ : Nat → Nat} {len p : Nat} (h : len ≤ p) : skp by_ (len - p) p = p := by
  rw [show len - p = 0 by omega]
  rfl
theorem skp_go {by_ : Nat → Nat} {len p : Nat} (h : p < len) (h2 : by_ p = 32) : skp by_ (len - p) p = skp by_ (len - (p + 1)) (p + 1) := by
  rw [show len - p = (len - (p + 1)) + 1 by omega]
  exact if_pos h2
theorem rn_stop {by_ : Nat → Nat} {s len p : Nat} (h : p < len) (h2 : sortN (by_ p) ≠ s) : rn by_ s (len - p) p = p := by
  rw [show len - p = (len - (p + 1)) + 1 by omega]
  exact if_neg h2
theorem rn_end {by_ : Nat → Nat} {s len p : Nat} (h : len ≤ p) : rn by_ s (len - p) p = p := by
  rw [show len - p = 0 by omega]
  rfl
theorem rn_go {by_ : Nat → Nat} {s len p : Nat} (h : p < len) (h2 : sortN (by_ p) = s) : rn by_ s (len - p) p = rn by_ s (len - (p + 1)) (p + 1) := by
  rw [show len - p = (len - (p + 1)) + 1 by omega]
  exact if_pos h2
set_option maxHeartbeats 1000000 in
set_option maxRecDepth 100000 in
theorem c_X2_byteAt {l : Launch} {D : va_G} {cI cZ cB cR : ClassId} {t byA len pl tk ta : Nat} {va : Int32} {by_ : Nat → Nat} {p9 : Nat} (hlen : len ≤ 150) (hby : ∀ i, by_ i < 256) (hp : p9 < len) : mR l yX2_byteAt cX2_byteAt 2 (some .int) 0 0 D cI cZ cB cR [oT t byA len pl tk ta va, aI cI byA 150 by_] [.ref t, .int (nI p9)] (some (.int (nI (by_ p9)))) := by
  refine mR_of rfl (Nat.le_of_ble_eq_true rfl) ?_
  intro p e s m args below meth c hC hr hlk hK hP ls hl
  have hl : lv_has ls 2 [(0, .ref t), (1, .int (nI p9))] := hl
  obtain ⟨hx, hb, hml, hown, hts⟩ := id hC
  refine lv_iload_n hx hb dX2_byteAt_0 rfl (lv_at hl 1 rfl) ?_
  refine z0_lt (tgt := 28) hC dX2_byteAt_1 (by decide) (by omega) ?_
  refine lv_iload_n hx hb dX2_byteAt_4 rfl (lv_at hl 1 rfl) ?_
  refine lv_aload_n hx hb dX2_byteAt_5 rfl (lv_at hl 0 rfl) ?_
  refine z_get (k := 1) zcX2 hC hK hP 0 rfl (by decide) lF_X2_15 rfl dX2_byteAt_6 ?_
  refine zc_ge (tgt := 28) hC dX2_byteAt_9 (by decide) (by omega) (by omega) (fun c9 => by exfalso; omega) (fun c9 => ?_)
  refine lv_iload_n hx hb dX2_byteAt_12 rfl (lv_at hl 1 rfl) ?_
  refine lv_sipush (v := nI 150) hx hb dX2_byteAt_13 (by decide) ?_
  refine zc_ge (tgt := 28) hC dX2_byteAt_16 (by decide) (by omega) (by omega) (fun c16 => by exfalso; omega) (fun c16 => ?_)
  refine lv_aload_n hx hb dX2_byteAt_19 rfl (lv_at hl 0 rfl) ?_
  refine z_get (k := 0) zcX2 hC hK hP 0 rfl (by decide) lF_X2_9 rfl dX2_byteAt_20 ?_
  refine lv_iload_n hx hb dX2_byteAt_23 rfl (lv_at hl 1 rfl) ?_
  refine z_ald hC hK hP 1 rfl (by omega) (by decide) dX2_byteAt_24 ?_
  refine lv_goto (tgt := 29) hx hb dX2_byteAt_25 (by decide) ?_
  exact zr_i hC hr hlk (by first | rfl | omega) dX2_byteAt_29
set_option maxHeartbeats 1000000 in
set_option maxRecDepth 100000 in
theorem c_X2_byteAt_e {l : Launch} {D : va_G} {cI cZ cB cR : ClassId} {t byA len pl tk ta : Nat} {va : Int32} {by_ : Nat → Nat} {p9 : Nat} (hlen : len ≤ 150) (hby : ∀ i, by_ i < 256) (hp : len ≤ p9) (hp2 : p9 < 1000) : mR l yX2_byteAt cX2_byteAt 2 (some .int) 0 0 D cI cZ cB cR [oT t byA len pl tk ta va, aI cI byA 150 by_] [.ref t, .int (nI p9)] (some (.int (-1))) := by
  refine mR_of rfl (Nat.le_of_ble_eq_true rfl) ?_
  intro p e s m args below meth c hC hr hlk hK hP ls hl
  have hl : lv_has ls 2 [(0, .ref t), (1, .int (nI p9))] := hl
  obtain ⟨hx, hb, hml, hown, hts⟩ := id hC
  refine lv_iload_n hx hb dX2_byteAt_0 rfl (lv_at hl 1 rfl) ?_
  refine z0_lt (tgt := 28) hC dX2_byteAt_1 (by decide) (by omega) ?_
  refine lv_iload_n hx hb dX2_byteAt_4 rfl (lv_at hl 1 rfl) ?_
  refine lv_aload_n hx hb dX2_byteAt_5 rfl (lv_at hl 0 rfl) ?_
  refine z_get (k := 1) zcX2 hC hK hP 0 rfl (by decide) lF_X2_15 rfl dX2_byteAt_6 ?_
  refine zc_ge (tgt := 28) hC dX2_byteAt_9 (by decide) (by omega) (by omega) (fun c9 => ?_) (fun c9 => by exfalso; omega)
  refine lv_iconst (v := (-1)) hx hb dX2_byteAt_28 (by decide) ?_
  exact zr_i hC hr hlk (by first | rfl | omega) dX2_byteAt_29
set_option maxHeartbeats 1000000 in
set_option maxRecDepth 100000 in
theorem c_X2_sortOf {l : Launch} {D : va_G} {cI cZ cB cR : ClassId} {x : Nat} (hx9 : x < 256) : mR l yX2_sortOf cX2_sortOf 1 (some .int) 0 0 D cI cZ cB cR [] [.int (nI x)] (some (.int (nI (sortN x)))) := by
  refine mR_of rfl (Nat.le_of_ble_eq_true rfl) ?_
  intro p e s m args below meth c hC hr hlk hK hP ls hl
  have hl : lv_has ls 1 [(0, .int (nI x))] := hl
  obtain ⟨hx, hb, hml, hown, hts⟩ := id hC
  refine lv_iload_n hx hb dX2_sortOf_0 rfl (lv_at hl 0 rfl) ?_
  have b1 : nI x ≠ (-1) := fun h => absurd (nI_toInt (n := x) (by omega)) (by rw [h]; show ¬ (-1 : Int) = _; omega)
  refine lv_iconst (v := (-1)) hx hb dX2_sortOf_1 (by decide) ?_
  refine lv_icmp_ne (tgt := 7) hx hb dX2_sortOf_2 (by decide) (fun c2 => ?_) (fun c2 => by exfalso; exact absurd c2 (by simpa using b1))
  refine lv_iload_n hx hb dX2_sortOf_7 rfl (lv_at hl 0 rfl) ?_
  refine lv_bipush (v := nI 97) hx hb dX2_sortOf_8 (by decide) ?_
  refine zc_lt (tgt := 21) hC dX2_sortOf_10 (by decide) (by omega) (by omega) (fun c10 => ?_) (fun c10 => ?_)
  · skip
    refine lv_iload_n hx hb dX2_sortOf_21 rfl (lv_at hl 0 rfl) ?_
    refine lv_bipush (v := nI 48) hx hb dX2_sortOf_22 (by decide) ?_
    refine zc_lt (tgt := 35) hC dX2_sortOf_24 (by decide) (by omega) (by omega) (fun c24 => ?_) (fun c24 => ?_)
    · skip
      refine lv_iload_n hx hb dX2_sortOf_35 rfl (lv_at hl 0 rfl) ?_
      refine lv_bipush (v := nI 59) hx hb dX2_sortOf_36 (by decide) ?_
      refine zc_ne (tgt := 45) hC dX2_sortOf_38 (by decide) (by omega) (by omega) (fun c38 => ?_) (fun c38 => ?_)
      · skip
        refine lv_iconst (v := nI 4) hx hb dX2_sortOf_45 (by decide) ?_
        exact zr_i hC hr hlk (by unfold sortN; rw [if_neg (by omega), if_neg (by omega)]; first | rw [if_pos c38] | rw [if_neg c38]) dX2_sortOf_46
      · skip
        refine lv_iconst (v := nI 3) hx hb dX2_sortOf_41 (by decide) ?_
        refine lv_goto (tgt := 46) hx hb dX2_sortOf_42 (by decide) ?_
        exact zr_i hC hr hlk (by unfold sortN; rw [if_neg (by omega), if_neg (by omega)]; first | rw [if_pos c38] | rw [if_neg c38]) dX2_sortOf_46
    · skip
      refine lv_iload_n hx hb dX2_sortOf_27 rfl (lv_at hl 0 rfl) ?_
      refine lv_bipush (v := nI 57) hx hb dX2_sortOf_28 (by decide) ?_
      refine zc_gt (tgt := 35) hC dX2_sortOf_30 (by decide) (by omega) (by omega) (fun c30 => ?_) (fun c30 => ?_)
      · skip
        refine lv_iload_n hx hb dX2_sortOf_35 rfl (lv_at hl 0 rfl) ?_
        refine lv_bipush (v := nI 59) hx hb dX2_sortOf_36 (by decide) ?_
        refine zc_ne (tgt := 45) hC dX2_sortOf_38 (by decide) (by omega) (by omega) (fun c38 => ?_) (fun c38 => ?_)
        · skip
          refine lv_iconst (v := nI 4) hx hb dX2_sortOf_45 (by decide) ?_
          exact zr_i hC hr hlk (by unfold sortN; rw [if_neg (by omega), if_neg (by omega)]; first | rw [if_pos c38] | rw [if_neg c38]) dX2_sortOf_46
        · skip
          refine lv_iconst (v := nI 3) hx hb dX2_sortOf_41 (by decide) ?_
          refine lv_goto (tgt := 46) hx hb dX2_sortOf_42 (by decide) ?_
          exact zr_i hC hr hlk (by unfold sortN; rw [if_neg (by omega), if_neg (by omega)]; first | rw [if_pos c38] | rw [if_neg c38]) dX2_sortOf_46
      · skip
        refine lv_iconst (v := nI 2) hx hb dX2_sortOf_33 (by decide) ?_
        exact zr_i hC hr hlk (by unfold sortN; rw [if_neg (by omega), if_pos ⟨by omega, by omega⟩]) dX2_sortOf_34
  · skip
    refine lv_iload_n hx hb dX2_sortOf_13 rfl (lv_at hl 0 rfl) ?_
    refine lv_bipush (v := nI 122) hx hb dX2_sortOf_14 (by decide) ?_
    refine zc_gt (tgt := 21) hC dX2_sortOf_16 (by decide) (by omega) (by omega) (fun c16 => ?_) (fun c16 => ?_)
    · skip
      refine lv_iload_n hx hb dX2_sortOf_21 rfl (lv_at hl 0 rfl) ?_
      refine lv_bipush (v := nI 48) hx hb dX2_sortOf_22 (by decide) ?_
      refine zc_lt (tgt := 35) hC dX2_sortOf_24 (by decide) (by omega) (by omega) (fun c24 => ?_) (fun c24 => ?_)
      · skip
        refine lv_iload_n hx hb dX2_sortOf_35 rfl (lv_at hl 0 rfl) ?_
        refine lv_bipush (v := nI 59) hx hb dX2_sortOf_36 (by decide) ?_
        refine zc_ne (tgt := 45) hC dX2_sortOf_38 (by decide) (by omega) (by omega) (fun c38 => ?_) (fun c38 => ?_)
        · skip
          refine lv_iconst (v := nI 4) hx hb dX2_sortOf_45 (by decide) ?_
          exact zr_i hC hr hlk (by unfold sortN; rw [if_neg (by omega), if_neg (by omega)]; first | rw [if_pos c38] | rw [if_neg c38]) dX2_sortOf_46
        · skip
          refine lv_iconst (v := nI 3) hx hb dX2_sortOf_41 (by decide) ?_
          refine lv_goto (tgt := 46) hx hb dX2_sortOf_42 (by decide) ?_
          exact zr_i hC hr hlk (by unfold sortN; rw [if_neg (by omega), if_neg (by omega)]; first | rw [if_pos c38] | rw [if_neg c38]) dX2_sortOf_46
      · skip
        refine lv_iload_n hx hb dX2_sortOf_27 rfl (lv_at hl 0 rfl) ?_
        refine lv_bipush (v := nI 57) hx hb dX2_sortOf_28 (by decide) ?_
        refine zc_gt (tgt := 35) hC dX2_sortOf_30 (by decide) (by omega) (by omega) (fun c30 => ?_) (fun c30 => ?_)
        · skip
          refine lv_iload_n hx hb dX2_sortOf_35 rfl (lv_at hl 0 rfl) ?_
          refine lv_bipush (v := nI 59) hx hb dX2_sortOf_36 (by decide) ?_
          refine zc_ne (tgt := 45) hC dX2_sortOf_38 (by decide) (by omega) (by omega) (fun c38 => ?_) (fun c38 => ?_)
          · skip
            refine lv_iconst (v := nI 4) hx hb dX2_sortOf_45 (by decide) ?_
            exact zr_i hC hr hlk (by unfold sortN; rw [if_neg (by omega), if_neg (by omega)]; first | rw [if_pos c38] | rw [if_neg c38]) dX2_sortOf_46
          · skip
            refine lv_iconst (v := nI 3) hx hb dX2_sortOf_41 (by decide) ?_
            refine lv_goto (tgt := 46) hx hb dX2_sortOf_42 (by decide) ?_
            exact zr_i hC hr hlk (by unfold sortN; rw [if_neg (by omega), if_neg (by omega)]; first | rw [if_pos c38] | rw [if_neg c38]) dX2_sortOf_46
        · skip
          refine lv_iconst (v := nI 2) hx hb dX2_sortOf_33 (by decide) ?_
          exact zr_i hC hr hlk (by unfold sortN; rw [if_neg (by omega), if_pos ⟨by omega, by omega⟩]) dX2_sortOf_34
    · skip
      refine lv_iconst (v := nI 1) hx hb dX2_sortOf_19 (by decide) ?_
      exact zr_i hC hr hlk (by unfold sortN; rw [if_pos ⟨by omega, by omega⟩]) dX2_sortOf_20
set_option maxHeartbeats 1000000 in
set_option maxRecDepth 100000 in
theorem c_X2_sortOf_e {l : Launch} {D : va_G} {cI cZ cB cR : ClassId}   : mR l yX2_sortOf cX2_sortOf 1 (some .int) 0 0 D cI cZ cB cR [] [.int (-1)] (some (.int (nI 0))) := by
  refine mR_of rfl (Nat.le_of_ble_eq_true rfl) ?_
  intro p e s m args below meth c hC hr hlk hK hP ls hl
  have hl : lv_has ls 1 [(0, .int (-1))] := hl
  obtain ⟨hx, hb, hml, hown, hts⟩ := id hC
  refine lv_iload_n hx hb dX2_sortOf_0 rfl (lv_at hl 0 rfl) ?_
  refine lv_iconst (v := (-1)) hx hb dX2_sortOf_1 (by decide) ?_
  refine lv_icmp_ne (tgt := 7) hx hb dX2_sortOf_2 (by decide) (fun c2 => by exfalso; exact absurd rfl c2) (fun c2 => ?_)
  refine lv_iconst (v := nI 0) hx hb dX2_sortOf_5 (by decide) ?_
  exact zr_i hC hr hlk (by first | rfl | omega) dX2_sortOf_6
set_option maxHeartbeats 1000000 in
set_option maxRecDepth 100000 in
theorem c_X2_setsValue {l : Launch} {D : va_G} {cI cZ cB cR : ClassId} {t byA len pl tk ta : Nat} {va : Int32} {c9 l9 w9 : Nat} (hw : w9 < 1000) (hc : c9 < 256) (hl9 : l9 < 256) (htk : tk < 100) (h2 : tk = 2 → 48 ≤ c9 ∧ 48 ≤ l9) : mW l yX2_setsValue cX2_setsValue 4 none 0 0 D cI cZ cB cR [oT t byA len pl tk ta va] [oT t byA len pl (svK tk c9 w9) ta (svV tk c9 l9 w9 va)] [.ref t, .int (nI c9), .int (nI l9), .int (nI w9)] (none) := by
  refine mW_of rfl (Nat.le_of_ble_eq_true rfl) ?_
  intro p e s m args below meth c hC hr hlk hK A hA hD H0 h0 hP hS ls hl
  have hP : va_P D vwCl [oT t byA len pl tk ta va] H0 := hP
  have hl : lv_has ls 4 [(0, .ref t), (1, .int (nI c9)), (2, .int (nI l9)), (3, .int (nI w9))] := hl
  obtain ⟨hx, hb, hml, hown, hts⟩ := id hC
  refine lv_aload_n hx hb dX2_setsValue_0 rfl (lv_at hl 0 rfl) ?_
  refine z_get (k := 3) zcX2 hC hK hP 0 rfl (by decide) lF_X2_22 rfl dX2_setsValue_1 ?_
  refine lv_iconst (v := nI 2) hx hb dX2_setsValue_4 (by decide) ?_
  refine zc_eq (tgt := 25) hC dX2_setsValue_5 (by decide) (by omega) (by omega) (fun c5 => ?_) (fun c5 => ?_)
  · skip
    have h3 := h2 c5
    refine lv_iload_n hx hb dX2_setsValue_25 rfl (lv_at hl 3 rfl) ?_
    refine lv_iconst (v := nI 1) hx hb dX2_setsValue_26 (by decide) ?_
    refine zc_ne (tgt := 41) hC dX2_setsValue_27 (by decide) (by omega) (by omega) (fun c27 => ?_) (fun c27 => ?_)
    · skip
      refine lv_iload_n hx hb dX2_setsValue_41 rfl (lv_at hl 3 rfl) ?_
      refine lv_iconst (v := nI 2) hx hb dX2_setsValue_42 (by decide) ?_
      refine zc_ne (tgt := 71) hC dX2_setsValue_43 (by decide) (by omega) (by omega) (fun c43 => ?_) (fun c43 => ?_)
      · skip
        refine lv_aload_n hx hb dX2_setsValue_71 rfl (lv_at hl 0 rfl) ?_
        refine lv_iconst (v := nI 4) hx hb dX2_setsValue_72 (by decide) ?_
        refine z_put (k := 3) zcX2 hC hK hP hD hS 0 rfl (by decide) lF_X2_22 rfl rfl rfl (Nat.le_of_ble_eq_true rfl) dX2_setsValue_73 (fun H locs hP hD hS => ?_)
        have hP : va_P D vwCl [oT t byA len pl 4 ta va] H := hP
        have hD : va_D A [oT t byA len pl 4 ta va] := hD
        exact zw_v hC hr hlk hA h0 (by unfold svK svV; first | (rw [if_neg (fun h => c5 h.1), if_neg c5, if_pos c11]; exact hP) | (rw [if_neg (fun h => c5 h.1), if_neg c5, if_neg c11]; exact hP) | (rw [if_neg (fun h => h.2.1 c27), if_pos c5, if_pos c27]; exact hP) | (rw [if_neg (fun h => h.2.2 ⟨c43, c49⟩), if_pos c5, if_neg c27, if_pos ⟨c43, c49⟩]; exact hP) | (rw [if_pos ⟨c5, c27, fun h => c43 h.1⟩, if_pos c5, if_neg c27, if_neg (fun h => c43 h.1)]; exact hP) | (rw [if_pos ⟨c5, c27, fun h => h.2 c49⟩, if_pos c5, if_neg c27, if_neg (fun h => h.2 c49)]; exact hP)) hS dX2_setsValue_76
      · skip
        refine lv_iload_n hx hb dX2_setsValue_46 rfl (lv_at hl 1 rfl) ?_
        refine lv_bipush (v := nI 48) hx hb dX2_setsValue_47 (by decide) ?_
        refine zc_eq (tgt := 71) hC dX2_setsValue_49 (by decide) (by omega) (by omega) (fun c49 => ?_) (fun c49 => ?_)
        · skip
          refine lv_aload_n hx hb dX2_setsValue_71 rfl (lv_at hl 0 rfl) ?_
          refine lv_iconst (v := nI 4) hx hb dX2_setsValue_72 (by decide) ?_
          refine z_put (k := 3) zcX2 hC hK hP hD hS 0 rfl (by decide) lF_X2_22 rfl rfl rfl (Nat.le_of_ble_eq_true rfl) dX2_setsValue_73 (fun H locs hP hD hS => ?_)
          have hP : va_P D vwCl [oT t byA len pl 4 ta va] H := hP
          have hD : va_D A [oT t byA len pl 4 ta va] := hD
          exact zw_v hC hr hlk hA h0 (by unfold svK svV; first | (rw [if_neg (fun h => c5 h.1), if_neg c5, if_pos c11]; exact hP) | (rw [if_neg (fun h => c5 h.1), if_neg c5, if_neg c11]; exact hP) | (rw [if_neg (fun h => h.2.1 c27), if_pos c5, if_pos c27]; exact hP) | (rw [if_neg (fun h => h.2.2 ⟨c43, c49⟩), if_pos c5, if_neg c27, if_pos ⟨c43, c49⟩]; exact hP) | (rw [if_pos ⟨c5, c27, fun h => c43 h.1⟩, if_pos c5, if_neg c27, if_neg (fun h => c43 h.1)]; exact hP) | (rw [if_pos ⟨c5, c27, fun h => h.2 c49⟩, if_pos c5, if_neg c27, if_neg (fun h => h.2 c49)]; exact hP)) hS dX2_setsValue_76
        · skip
          refine lv_aload_n hx hb dX2_setsValue_52 rfl (lv_at hl 0 rfl) ?_
          refine lv_bipush (v := nI 10) hx hb dX2_setsValue_53 (by decide) ?_
          refine lv_iload_n hx hb dX2_setsValue_55 rfl (lv_at hl 1 rfl) ?_
          refine lv_bipush (v := nI 48) hx hb dX2_setsValue_56 (by decide) ?_
          refine zi_sub hC dX2_setsValue_58 (by omega) ?_
          refine zi_mul hC dX2_setsValue_59 ?_
          refine lv_iload_n hx hb dX2_setsValue_60 rfl (lv_at hl 2 rfl) ?_
          refine zi_add hC dX2_setsValue_61 ?_
          refine lv_bipush (v := nI 48) hx hb dX2_setsValue_62 (by decide) ?_
          refine zi_sub hC dX2_setsValue_64 (by omega) ?_
          refine z_put (k := 5) zcX2 hC hK hP hD hS 0 rfl (by decide) lF_X2_28 rfl rfl rfl (Nat.le_of_ble_eq_true rfl) dX2_setsValue_65 (fun H locs hP hD hS => ?_)
          have hP : va_P D vwCl [oT t byA len pl tk ta (nI (((10 * (c9 - 48)) + l9) - 48))] H := hP
          have hD : va_D A [oT t byA len pl tk ta (nI (((10 * (c9 - 48)) + l9) - 48))] := hD
          refine lv_goto (tgt := 76) hx hb dX2_setsValue_68 (by decide) ?_
          exact zw_v hC hr hlk hA h0 (by unfold svK svV; first | (rw [if_neg (fun h => c5 h.1), if_neg c5, if_pos c11]; exact hP) | (rw [if_neg (fun h => c5 h.1), if_neg c5, if_neg c11]; exact hP) | (rw [if_neg (fun h => h.2.1 c27), if_pos c5, if_pos c27]; exact hP) | (rw [if_neg (fun h => h.2.2 ⟨c43, c49⟩), if_pos c5, if_neg c27, if_pos ⟨c43, c49⟩]; exact hP) | (rw [if_pos ⟨c5, c27, fun h => c43 h.1⟩, if_pos c5, if_neg c27, if_neg (fun h => c43 h.1)]; exact hP) | (rw [if_pos ⟨c5, c27, fun h => h.2 c49⟩, if_pos c5, if_neg c27, if_neg (fun h => h.2 c49)]; exact hP)) hS dX2_setsValue_76
    · skip
      refine lv_aload_n hx hb dX2_setsValue_30 rfl (lv_at hl 0 rfl) ?_
      refine lv_iload_n hx hb dX2_setsValue_31 rfl (lv_at hl 1 rfl) ?_
      refine lv_bipush (v := nI 48) hx hb dX2_setsValue_32 (by decide) ?_
      refine zi_sub hC dX2_setsValue_34 (by omega) ?_
      refine z_put (k := 5) zcX2 hC hK hP hD hS 0 rfl (by decide) lF_X2_28 rfl rfl rfl (Nat.le_of_ble_eq_true rfl) dX2_setsValue_35 (fun H locs hP hD hS => ?_)
      have hP : va_P D vwCl [oT t byA len pl tk ta (nI (c9 - 48))] H := hP
      have hD : va_D A [oT t byA len pl tk ta (nI (c9 - 48))] := hD
      refine lv_goto (tgt := 76) hx hb dX2_setsValue_38 (by decide) ?_
      exact zw_v hC hr hlk hA h0 (by unfold svK svV; first | (rw [if_neg (fun h => c5 h.1), if_neg c5, if_pos c11]; exact hP) | (rw [if_neg (fun h => c5 h.1), if_neg c5, if_neg c11]; exact hP) | (rw [if_neg (fun h => h.2.1 c27), if_pos c5, if_pos c27]; exact hP) | (rw [if_neg (fun h => h.2.2 ⟨c43, c49⟩), if_pos c5, if_neg c27, if_pos ⟨c43, c49⟩]; exact hP) | (rw [if_pos ⟨c5, c27, fun h => c43 h.1⟩, if_pos c5, if_neg c27, if_neg (fun h => c43 h.1)]; exact hP) | (rw [if_pos ⟨c5, c27, fun h => h.2 c49⟩, if_pos c5, if_neg c27, if_neg (fun h => h.2 c49)]; exact hP)) hS dX2_setsValue_76
  · skip
    refine lv_aload_n hx hb dX2_setsValue_8 rfl (lv_at hl 0 rfl) ?_
    refine lv_iload_n hx hb dX2_setsValue_9 rfl (lv_at hl 3 rfl) ?_
    refine lv_iconst (v := nI 1) hx hb dX2_setsValue_10 (by decide) ?_
    refine zc_ne (tgt := 18) hC dX2_setsValue_11 (by decide) (by omega) (by omega) (fun c11 => ?_) (fun c11 => ?_)
    · skip
      refine lv_iconst (v := (-1)) hx hb dX2_setsValue_18 (by decide) ?_
      refine z_put (k := 5) zcX2 hC hK hP hD hS 0 rfl (by decide) lF_X2_28 rfl rfl rfl (Nat.le_of_ble_eq_true rfl) dX2_setsValue_19 (fun H locs hP hD hS => ?_)
      have hP : va_P D vwCl [oT t byA len pl tk ta (-1)] H := hP
      have hD : va_D A [oT t byA len pl tk ta (-1)] := hD
      refine lv_goto (tgt := 76) hx hb dX2_setsValue_22 (by decide) ?_
      exact zw_v hC hr hlk hA h0 (by unfold svK svV; first | (rw [if_neg (fun h => c5 h.1), if_neg c5, if_pos c11]; exact hP) | (rw [if_neg (fun h => c5 h.1), if_neg c5, if_neg c11]; exact hP) | (rw [if_neg (fun h => h.2.1 c27), if_pos c5, if_pos c27]; exact hP) | (rw [if_neg (fun h => h.2.2 ⟨c43, c49⟩), if_pos c5, if_neg c27, if_pos ⟨c43, c49⟩]; exact hP) | (rw [if_pos ⟨c5, c27, fun h => c43 h.1⟩, if_pos c5, if_neg c27, if_neg (fun h => c43 h.1)]; exact hP) | (rw [if_pos ⟨c5, c27, fun h => h.2 c49⟩, if_pos c5, if_neg c27, if_neg (fun h => h.2 c49)]; exact hP)) hS dX2_setsValue_76
    · skip
      refine lv_iload_n hx hb dX2_setsValue_14 rfl (lv_at hl 1 rfl) ?_
      refine lv_goto (tgt := 19) hx hb dX2_setsValue_15 (by decide) ?_
      refine z_put (k := 5) zcX2 hC hK hP hD hS 0 rfl (by decide) lF_X2_28 rfl rfl rfl (Nat.le_of_ble_eq_true rfl) dX2_setsValue_19 (fun H locs hP hD hS => ?_)
      have hP : va_P D vwCl [oT t byA len pl tk ta (nI c9)] H := hP
      have hD : va_D A [oT t byA len pl tk ta (nI c9)] := hD
      refine lv_goto (tgt := 76) hx hb dX2_setsValue_22 (by decide) ?_
      exact zw_v hC hr hlk hA h0 (by unfold svK svV; first | (rw [if_neg (fun h => c5 h.1), if_neg c5, if_pos c11]; exact hP) | (rw [if_neg (fun h => c5 h.1), if_neg c5, if_neg c11]; exact hP) | (rw [if_neg (fun h => h.2.1 c27), if_pos c5, if_pos c27]; exact hP) | (rw [if_neg (fun h => h.2.2 ⟨c43, c49⟩), if_pos c5, if_neg c27, if_pos ⟨c43, c49⟩]; exact hP) | (rw [if_pos ⟨c5, c27, fun h => c43 h.1⟩, if_pos c5, if_neg c27, if_neg (fun h => c43 h.1)]; exact hP) | (rw [if_pos ⟨c5, c27, fun h => h.2 c49⟩, if_pos c5, if_neg c27, if_neg (fun h => h.2 c49)]; exact hP)) hS dX2_setsValue_76
set_option maxHeartbeats 1000000 in
set_option maxRecDepth 100000 in
theorem c_X2_setsValue_e {l : Launch} {D : va_G} {cI cZ cB cR : ClassId} {t byA len pl ta : Nat} {va : Int32}  : mW l yX2_setsValue cX2_setsValue 4 none 0 0 D cI cZ cB cR [oT t byA len pl 0 ta va] [oT t byA len pl 0 ta (-1)] [.ref t, .int (-1), .int (-1), .int (nI 0)] (none) := by
  refine mW_of rfl (Nat.le_of_ble_eq_true rfl) ?_
  intro p e s m args below meth c hC hr hlk hK A hA hD H0 h0 hP hS ls hl
  have hP : va_P D vwCl [oT t byA len pl 0 ta va] H0 := hP
  have hl : lv_has ls 4 [(0, .ref t), (1, .int (-1)), (2, .int (-1)), (3, .int (nI 0))] := hl
  obtain ⟨hx, hb, hml, hown, hts⟩ := id hC
  refine lv_aload_n hx hb dX2_setsValue_0 rfl (lv_at hl 0 rfl) ?_
  refine z_get (k := 3) zcX2 hC hK hP 0 rfl (by decide) lF_X2_22 rfl dX2_setsValue_1 ?_
  refine lv_iconst (v := nI 2) hx hb dX2_setsValue_4 (by decide) ?_
  refine zc_eq (tgt := 25) hC dX2_setsValue_5 (by decide) (by omega) (by omega) (fun c5 => by exfalso; omega) (fun c5 => ?_)
  refine lv_aload_n hx hb dX2_setsValue_8 rfl (lv_at hl 0 rfl) ?_
  refine lv_iload_n hx hb dX2_setsValue_9 rfl (lv_at hl 3 rfl) ?_
  refine lv_iconst (v := nI 1) hx hb dX2_setsValue_10 (by decide) ?_
  refine zc_ne (tgt := 18) hC dX2_setsValue_11 (by decide) (by omega) (by omega) (fun c11 => ?_) (fun c11 => by exfalso; omega)
  refine lv_iconst (v := (-1)) hx hb dX2_setsValue_18 (by decide) ?_
  refine z_put (k := 5) zcX2 hC hK hP hD hS 0 rfl (by decide) lF_X2_28 rfl rfl rfl (Nat.le_of_ble_eq_true rfl) dX2_setsValue_19 (fun H locs hP hD hS => ?_)
  have hP : va_P D vwCl [oT t byA len pl 0 ta (-1)] H := hP
  have hD : va_D A [oT t byA len pl 0 ta (-1)] := hD
  refine lv_goto (tgt := 76) hx hb dX2_setsValue_22 (by decide) ?_
  exact zw_v hC hr hlk hA h0 hP hS dX2_setsValue_76
end
section
theorem adv_x {by_ : Nat → Nat} {len p e l : Nat} {r : Bool} (hr9 : r = decide (sortN (by_ p) = 1 ∨ sortN (by_ p) = 2)) (hrel : (e = p ∧ l = by_ p) ∨ (p < e ∧ l = by_ (e - 1) ∧ (r = false → e = p + 1) ∧ (r = true → sortN l = sortN (by_ p) ∧ rn by_ (sortN (by_ p)) (len - e) e = rn by_ (sortN (by_ p)) (len - (p + 1)) (p + 1)))) (hne : e ≠ p) (hstop : r = true → rn by_ (sortN (by_ p)) (len - e) e = e) : advE by_ len p = e ∧ l = by_ (e - 1) ∧ (sortN (by_ p) = 2 → 48 ≤ by_ (e - 1)) := by
  rcases hrel with h | ⟨h1, h2, h3, h4⟩
  · exact absurd h.1 hne
  · refine ⟨?_, h2, fun h => ?_⟩
    · unfold advE
      cases hr : r with
      | true =>
        rw [hr] at hr9
        rw [if_pos (of_decide_eq_true hr9.symm), ← (h4 hr).2]
        exact hstop hr
      | false =>
        rw [hr] at hr9
        rw [if_neg (of_decide_eq_false hr9.symm)]
        exact (h3 hr).symm
    · have hr : r = true := by rw [hr9]; exact decide_eq_true (Or.inr h)
      rw [← h2]
      exact (sortN_2 ((h4 hr).1.trans h)).1
theorem adv_end {by_ : Nat → Nat} {len p9 pl tk ta : Nat} {va : Int32} (h : skp by_ (len - pl) pl = p9) (h2 : p9 = len) : adv by_ len (pl, tk, ta, va) = (p9, 0, p9, -1) := by
  unfold adv
  show (if skp by_ (len - pl) pl < len then _ else _) = _
  rw [h, if_neg (by omega), h2]
theorem adv_tok {by_ : Nat → Nat} {len p9 pl tk ta : Nat} {va : Int32} (h : skp by_ (len - pl) pl = p9) (h2 : p9 < len) : adv by_ len (pl, tk, ta, va) = advW by_ len p9 va := by
  unfold adv
  show (if skp by_ (len - pl) pl < len then advW by_ len (skp by_ (len - pl) pl) va else _) = _
  rw [h, if_pos h2]
set_option maxHeartbeats 1000000 in
set_option maxRecDepth 100000 in
theorem c_X2_advances {l : Launch} {D : va_G} {cI cZ cB cR : ClassId} {t byA len pl tk ta : Nat} {va : Int32} {by_ : Nat → Nat}  (hlen : len ≤ 150) (hby : ∀ i, by_ i < 256) (hpl : pl ≤ len) : mW l yX2_advances cX2_advances 4 none 1 23 D cI cZ cB cR [oT t byA len pl tk ta va, aI cI byA 150 by_] [oT t byA len ((adv by_ len (pl, tk, ta, va)).1) ((adv by_ len (pl, tk, ta, va)).2.1) ((adv by_ len (pl, tk, ta, va)).2.2.1) ((adv by_ len (pl, tk, ta, va)).2.2.2), aI cI byA 150 by_] [.ref t] (none) := by
  refine mW_of rfl (Nat.le_of_ble_eq_true rfl) ?_
  intro p e s m args below meth c hC hr hlk hK A hA hD H0 h0 hP hS ls hl
  have hP : va_P D vwCl [oT t byA len pl tk ta va, aI cI byA 150 by_] H0 := hP
  have hl : lv_has ls 4 [(0, .ref t)] := hl
  obtain ⟨hx, hb, hml, hown, hts⟩ := id hC
  have hL0 : ∀ (z0 : Nat) (p9 : Nat), len - p9 = z0 → p9 ≤ len → skp by_ (len - p9) p9 = skp by_ (len - pl) pl → ∀ (H : Heap) (locs : List Loc), va_P D vwCl [oT t byA len p9 tk ta va, aI cI byA 150 by_] H → va_D A [oT t byA len p9 tk ta va, aI cI byA 150 by_] → va_S A H0 H locs → ∀ ls : Array Slot, lv_has ls 4 [(0, .ref t)] → W p l e { frames := 1, cells := 0, slots := 0, locals := 23 } s m args below meth c H locs 0 0 (MQ below (qW D [oT t byA len pl tk ta va, aI cI byA 150 by_] [oT t byA len ((adv by_ len (pl, tk, ta, va)).1) ((adv by_ len (pl, tk, ta, va)).2.1) ((adv by_ len (pl, tk, ta, va)).2.2.1) ((adv by_ len (pl, tk, ta, va)).2.2.2), aI cI byA 150 by_] (none)) args s 0 0 (zA [oT t byA len pl tk ta va, aI cI byA 150 by_])) (F0 m 0 ls []) := by
    intro z0
    induction z0 using Nat.strongRecOn with
    | _ z0 ih0 =>
    intro p9 hz0 hp hs H locs hP hD hS ls hl
    refine lv_aload_n hx hb dX2_advances_0 rfl (lv_at hl 0 rfl) ?_
    refine z_get (k := 2) zcX2 hC hK hP 0 rfl (by decide) lF_X2_19 rfl dX2_advances_1 ?_
    refine lv_aload_n hx hb dX2_advances_4 rfl (lv_at hl 0 rfl) ?_
    refine z_get (k := 1) zcX2 hC hK hP 0 rfl (by decide) lF_X2_15 rfl dX2_advances_5 ?_
    refine zc_ge (tgt := 37) hC dX2_advances_8 (by decide) (by omega) (by omega) (fun c8 => ?_) (fun c8 => ?_)
    · skip
      refine lv_aload_n hx hb dX2_advances_37 rfl (lv_at hl 0 rfl) ?_
      refine lv_aload_n hx hb dX2_advances_38 rfl (lv_at hl 0 rfl) ?_
      refine z_get (k := 2) zcX2 hC hK hP 0 rfl (by decide) lF_X2_19 rfl dX2_advances_39 ?_
      refine z_put (k := 4) zcX2 hC hK hP hD hS 0 rfl (by decide) lF_X2_25 rfl rfl rfl (Nat.le_of_ble_eq_true rfl) dX2_advances_42 (fun H locs hP hD hS => ?_)
      have hP : va_P D vwCl [oT t byA len p9 tk p9 va, aI cI byA 150 by_] H := hP
      have hD : va_D A [oT t byA len p9 tk p9 va, aI cI byA 150 by_] := hD
      refine lv_aload_n hx hb dX2_advances_45 rfl (lv_at hl 0 rfl) ?_
      refine lv_aload_n hx hb dX2_advances_46 rfl (lv_at hl 0 rfl) ?_
      refine z_get (k := 2) zcX2 hC hK hP 0 rfl (by decide) lF_X2_19 rfl dX2_advances_47 ?_
      refine zRV (As := [.int (nI p9)]) (b := t) (rest := []) hC (c_X2_byteAt_e (l := l) (hlen := hlen) (hby := hby) (hp := by omega) (hp2 := by omega)) lM_X2_77 vM_X2_byteAt (by decide) hK hP [0, 1] rfl ⟨rfl, rfl, rfl⟩ rfl hl.1 rfl (Nat.le_of_ble_eq_true rfl) dX2_advances_50 (by decide) ?_
      show W _ _ _ _ _ _ _ _ _ _ _ _ _ _ _ (F0 m 53 ls [.int (-1)])
      refine lv_istore_n (lv' := [(1, .int (-1)), (0, .ref t)]) hx hb dX2_advances_53 rfl hl (by decide) rfl (fun ls hl => ?_)
      refine lv_iload_n hx hb dX2_advances_54 rfl (lv_at hl 0 rfl) ?_
      refine lv_istore_n (lv' := [(2, .int (-1)), (1, .int (-1)), (0, .ref t)]) hx hb dX2_advances_55 rfl hl (by decide) rfl (fun ls hl => ?_)
      refine lv_aload_n hx hb dX2_advances_56 rfl (lv_at hl 2 rfl) ?_
      refine lv_iload_n hx hb dX2_advances_57 rfl (lv_at hl 1 rfl) ?_
      refine zRS (As := [.int (-1)]) (rest := [.ref t]) hC (c_X2_sortOf_e (l := l) ) lM_X2_81 sM_X2_sortOf (by decide) hK rfl hl.1 rfl (Nat.le_of_ble_eq_true rfl) dX2_advances_58 (by decide) ?_
      show W _ _ _ _ _ _ _ _ _ _ _ _ _ _ _ (F0 m 61 ls [.int (nI 0), .ref t])
      have b61 := sortN_le (by_ p9)
      refine z_put (k := 3) zcX2 hC hK hP hD hS 0 rfl (by decide) lF_X2_22 rfl rfl rfl (Nat.le_of_ble_eq_true rfl) dX2_advances_61 (fun H locs hP hD hS => ?_)
      have hP : va_P D vwCl [oT t byA len p9 0 p9 va, aI cI byA 150 by_] H := hP
      have hD : va_D A [oT t byA len p9 0 p9 va, aI cI byA 150 by_] := hD
      refine lv_aload_n hx hb dX2_advances_64 rfl (lv_at hl 2 rfl) ?_
      refine z_get (k := 3) zcX2 hC hK hP 0 rfl (by decide) lF_X2_22 rfl dX2_advances_65 ?_
      refine lv_iconst (v := nI 1) hx hb dX2_advances_68 (by decide) ?_
      refine zc_eq (tgt := 80) hC dX2_advances_69 (by decide) (by omega) (by omega) (fun c69 => by exfalso; cases c69) (fun c69 => ?_)
      refine lv_aload_n hx hb dX2_advances_72 rfl (lv_at hl 2 rfl) ?_
      refine z_get (k := 3) zcX2 hC hK hP 0 rfl (by decide) lF_X2_22 rfl dX2_advances_73 ?_
      refine lv_iconst (v := nI 2) hx hb dX2_advances_76 (by decide) ?_
      refine zc_ne (tgt := 84) hC dX2_advances_77 (by decide) (by omega) (by omega) (fun c77 => ?_) (fun c77 => ?_)
      · skip
        refine lv_iconst (v := nI 0) hx hb dX2_advances_84 (by decide) ?_
        refine lv_istore_n (lv' := [(3, .int (nI 0)), (2, .int (-1)), (1, .int (-1)), (0, .ref t)]) hx hb dX2_advances_85 rfl hl (by decide) rfl (fun ls hl => ?_)
        refine lv_aload_n hx hb dX2_advances_86 rfl (lv_at hl 3 rfl) ?_
        refine z_get (k := 2) zcX2 hC hK hP 0 rfl (by decide) lF_X2_19 rfl dX2_advances_87 ?_
        refine lv_aload_n hx hb dX2_advances_90 rfl (lv_at hl 3 rfl) ?_
        refine z_get (k := 1) zcX2 hC hK hP 0 rfl (by decide) lF_X2_15 rfl dX2_advances_91 ?_
        refine zc_ge (tgt := 152) hC dX2_advances_94 (by decide) (by omega) (by omega) (fun c94 => ?_) (fun c94 => by exfalso; omega)
        refine lv_aload_n hx hb dX2_advances_152 rfl (lv_at hl 3 rfl) ?_
        refine lv_iload_n hx hb dX2_advances_153 rfl (lv_at hl 2 rfl) ?_
        refine lv_iload_n hx hb dX2_advances_154 rfl (lv_at hl 1 rfl) ?_
        refine lv_aload_n hx hb dX2_advances_155 rfl (lv_at hl 3 rfl) ?_
        refine z_get (k := 2) zcX2 hC hK hP 0 rfl (by decide) lF_X2_19 rfl dX2_advances_156 ?_
        refine lv_aload_n hx hb dX2_advances_159 rfl (lv_at hl 3 rfl) ?_
        refine z_get (k := 4) zcX2 hC hK hP 0 rfl (by decide) lF_X2_25 rfl dX2_advances_160 ?_
        refine zi_sub hC dX2_advances_163 (by omega) ?_
        refine z_top (show (nI (p9 - p9)) = nI 0 from by rw [Nat.sub_self]) ?_
        refine zWV (ws1 := [oT t byA len p9 0 p9 (-1), aI cI byA 150 by_]) (As := [.int (-1), .int (-1), .int (nI 0)]) (b := t) (rest := []) hC (c_X2_setsValue_e (l := l) ) lM_X2_84 vM_X2_setsValue (by decide) hK hP hD hS [0] [1] rfl (by decide) rfl rfl rfl rfl ⟨rfl, rfl, rfl⟩ rfl hl.1 rfl (Nat.le_of_ble_eq_true rfl) dX2_advances_164 (by decide) (fun H locs hP hD hS => ?_)
        show W _ _ _ _ _ _ _ _ _ _ _ _ _ _ _ (F0 m 167 ls [])
        exact zw_v hC hr hlk hA h0 (by rw [adv_end (hs.symm.trans (skp_end c8)) (by omega)]; exact hP) hS dX2_advances_167
      · skip
        refine lv_iconst (v := nI 1) hx hb dX2_advances_80 (by decide) ?_
        refine lv_goto (tgt := 85) hx hb dX2_advances_81 (by decide) ?_
        refine lv_istore_n (lv' := [(3, .int (nI 1)), (2, .int (-1)), (1, .int (-1)), (0, .ref t)]) hx hb dX2_advances_85 rfl hl (by decide) rfl (fun ls hl => ?_)
        refine lv_aload_n hx hb dX2_advances_86 rfl (lv_at hl 3 rfl) ?_
        refine z_get (k := 2) zcX2 hC hK hP 0 rfl (by decide) lF_X2_19 rfl dX2_advances_87 ?_
        refine lv_aload_n hx hb dX2_advances_90 rfl (lv_at hl 3 rfl) ?_
        refine z_get (k := 1) zcX2 hC hK hP 0 rfl (by decide) lF_X2_15 rfl dX2_advances_91 ?_
        refine zc_ge (tgt := 152) hC dX2_advances_94 (by decide) (by omega) (by omega) (fun c94 => ?_) (fun c94 => by exfalso; omega)
        refine lv_aload_n hx hb dX2_advances_152 rfl (lv_at hl 3 rfl) ?_
        refine lv_iload_n hx hb dX2_advances_153 rfl (lv_at hl 2 rfl) ?_
        refine lv_iload_n hx hb dX2_advances_154 rfl (lv_at hl 1 rfl) ?_
        refine lv_aload_n hx hb dX2_advances_155 rfl (lv_at hl 3 rfl) ?_
        refine z_get (k := 2) zcX2 hC hK hP 0 rfl (by decide) lF_X2_19 rfl dX2_advances_156 ?_
        refine lv_aload_n hx hb dX2_advances_159 rfl (lv_at hl 3 rfl) ?_
        refine z_get (k := 4) zcX2 hC hK hP 0 rfl (by decide) lF_X2_25 rfl dX2_advances_160 ?_
        refine zi_sub hC dX2_advances_163 (by omega) ?_
        refine z_top (show (nI (p9 - p9)) = nI 0 from by rw [Nat.sub_self]) ?_
        refine zWV (ws1 := [oT t byA len p9 0 p9 (-1), aI cI byA 150 by_]) (As := [.int (-1), .int (-1), .int (nI 0)]) (b := t) (rest := []) hC (c_X2_setsValue_e (l := l) ) lM_X2_84 vM_X2_setsValue (by decide) hK hP hD hS [0] [1] rfl (by decide) rfl rfl rfl rfl ⟨rfl, rfl, rfl⟩ rfl hl.1 rfl (Nat.le_of_ble_eq_true rfl) dX2_advances_164 (by decide) (fun H locs hP hD hS => ?_)
        show W _ _ _ _ _ _ _ _ _ _ _ _ _ _ _ (F0 m 167 ls [])
        exact zw_v hC hr hlk hA h0 (by rw [adv_end (hs.symm.trans (skp_end c8)) (by omega)]; exact hP) hS dX2_advances_167
    · skip
      refine lv_aload_n hx hb dX2_advances_11 rfl (lv_at hl 0 rfl) ?_
      refine lv_aload_n hx hb dX2_advances_12 rfl (lv_at hl 0 rfl) ?_
      refine z_get (k := 2) zcX2 hC hK hP 0 rfl (by decide) lF_X2_19 rfl dX2_advances_13 ?_
      refine zRV (As := [.int (nI p9)]) (b := t) (rest := []) hC (c_X2_byteAt (l := l) (hlen := hlen) (hby := hby) (hp := by omega)) lM_X2_77 vM_X2_byteAt (by decide) hK hP [0, 1] rfl ⟨rfl, rfl, rfl⟩ rfl hl.1 rfl (Nat.le_of_ble_eq_true rfl) dX2_advances_16 (by decide) ?_
      show W _ _ _ _ _ _ _ _ _ _ _ _ _ _ _ (F0 m 19 ls [.int (nI (by_ p9))])
      refine lv_bipush (v := nI 32) hx hb dX2_advances_19 (by decide) ?_
      have b21 := hby p9
      refine zc_ne (tgt := 37) hC dX2_advances_21 (by decide) (by omega) (by omega) (fun c21 => ?_) (fun c21 => ?_)
      · skip
        refine lv_aload_n hx hb dX2_advances_37 rfl (lv_at hl 0 rfl) ?_
        refine lv_aload_n hx hb dX2_advances_38 rfl (lv_at hl 0 rfl) ?_
        refine z_get (k := 2) zcX2 hC hK hP 0 rfl (by decide) lF_X2_19 rfl dX2_advances_39 ?_
        refine z_put (k := 4) zcX2 hC hK hP hD hS 0 rfl (by decide) lF_X2_25 rfl rfl rfl (Nat.le_of_ble_eq_true rfl) dX2_advances_42 (fun H locs hP hD hS => ?_)
        have hP : va_P D vwCl [oT t byA len p9 tk p9 va, aI cI byA 150 by_] H := hP
        have hD : va_D A [oT t byA len p9 tk p9 va, aI cI byA 150 by_] := hD
        refine lv_aload_n hx hb dX2_advances_45 rfl (lv_at hl 0 rfl) ?_
        refine lv_aload_n hx hb dX2_advances_46 rfl (lv_at hl 0 rfl) ?_
        refine z_get (k := 2) zcX2 hC hK hP 0 rfl (by decide) lF_X2_19 rfl dX2_advances_47 ?_
        refine zRV (As := [.int (nI p9)]) (b := t) (rest := []) hC (c_X2_byteAt (l := l) (hlen := hlen) (hby := hby) (hp := by omega)) lM_X2_77 vM_X2_byteAt (by decide) hK hP [0, 1] rfl ⟨rfl, rfl, rfl⟩ rfl hl.1 rfl (Nat.le_of_ble_eq_true rfl) dX2_advances_50 (by decide) ?_
        show W _ _ _ _ _ _ _ _ _ _ _ _ _ _ _ (F0 m 53 ls [.int (nI (by_ p9))])
        refine lv_istore_n (lv' := [(1, .int (nI (by_ p9))), (0, .ref t)]) hx hb dX2_advances_53 rfl hl (by decide) rfl (fun ls hl => ?_)
        refine lv_iload_n hx hb dX2_advances_54 rfl (lv_at hl 0 rfl) ?_
        refine lv_istore_n (lv' := [(2, .int (nI (by_ p9))), (1, .int (nI (by_ p9))), (0, .ref t)]) hx hb dX2_advances_55 rfl hl (by decide) rfl (fun ls hl => ?_)
        refine lv_aload_n hx hb dX2_advances_56 rfl (lv_at hl 2 rfl) ?_
        refine lv_iload_n hx hb dX2_advances_57 rfl (lv_at hl 1 rfl) ?_
        refine zRS (As := [.int (nI (by_ p9))]) (rest := [.ref t]) hC (c_X2_sortOf (l := l) (hx9 := hby _)) lM_X2_81 sM_X2_sortOf (by decide) hK rfl hl.1 rfl (Nat.le_of_ble_eq_true rfl) dX2_advances_58 (by decide) ?_
        show W _ _ _ _ _ _ _ _ _ _ _ _ _ _ _ (F0 m 61 ls [.int (nI (sortN (by_ p9))), .ref t])
        have b61 := sortN_le (by_ p9)
        refine z_put (k := 3) zcX2 hC hK hP hD hS 0 rfl (by decide) lF_X2_22 rfl rfl rfl (Nat.le_of_ble_eq_true rfl) dX2_advances_61 (fun H locs hP hD hS => ?_)
        have hP : va_P D vwCl [oT t byA len p9 (sortN (by_ p9)) p9 va, aI cI byA 150 by_] H := hP
        have hD : va_D A [oT t byA len p9 (sortN (by_ p9)) p9 va, aI cI byA 150 by_] := hD
        have hJ85 : ∀ (r9 : Bool), True → r9 = decide (sortN (by_ p9) = 1 ∨ sortN (by_ p9) = 2) → ∀ (H : Heap) (locs : List Loc), va_P D vwCl [oT t byA len p9 (sortN (by_ p9)) p9 va, aI cI byA 150 by_] H → va_D A [oT t byA len p9 (sortN (by_ p9)) p9 va, aI cI byA 150 by_] → va_S A H0 H locs → ∀ ls : Array Slot, lv_has ls 4 [(0, .ref t), (1, .int (nI (by_ p9))), (2, .int (nI (by_ p9)))] → W p l e { frames := 1, cells := 0, slots := 0, locals := 23 } s m args below meth c H locs 0 0 (MQ below (qW D [oT t byA len pl tk ta va, aI cI byA 150 by_] [oT t byA len ((adv by_ len (pl, tk, ta, va)).1) ((adv by_ len (pl, tk, ta, va)).2.1) ((adv by_ len (pl, tk, ta, va)).2.2.1) ((adv by_ len (pl, tk, ta, va)).2.2.2), aI cI byA 150 by_] (none)) args s 0 0 (zA [oT t byA len pl tk ta va, aI cI byA 150 by_])) (F0 m 85 ls [.int (bI r9)]) := by
          intro r9 _ hr9 H locs hP hD hS ls hl
          refine lv_istore_n (lv' := [(3, .int (bI r9)), (0, .ref t), (1, .int (nI (by_ p9))), (2, .int (nI (by_ p9)))]) hx hb dX2_advances_85 rfl hl (by decide) rfl (fun ls hl => ?_)
          have hL86 : ∀ (z86 : Nat) (e9 : Nat) (l9 : Nat), len - e9 = z86 → p9 ≤ e9 ∧ e9 ≤ len → (e9 = p9 ∧ l9 = by_ p9) ∨ (p9 < e9 ∧ l9 = by_ (e9 - 1) ∧ (r9 = false → e9 = p9 + 1) ∧ (r9 = true → sortN l9 = sortN (by_ p9) ∧ rn by_ (sortN (by_ p9)) (len - e9) e9 = rn by_ (sortN (by_ p9)) (len - (p9 + 1)) (p9 + 1))) → ∀ (H : Heap) (locs : List Loc), va_P D vwCl [oT t byA len e9 (sortN (by_ p9)) p9 va, aI cI byA 150 by_] H → va_D A [oT t byA len e9 (sortN (by_ p9)) p9 va, aI cI byA 150 by_] → va_S A H0 H locs → ∀ ls : Array Slot, lv_has ls 4 [(0, .ref t), (1, .int (nI (by_ p9))), (3, .int (bI r9)), (2, .int (nI l9))] → W p l e { frames := 1, cells := 0, slots := 0, locals := 23 } s m args below meth c H locs 0 0 (MQ below (qW D [oT t byA len pl tk ta va, aI cI byA 150 by_] [oT t byA len ((adv by_ len (pl, tk, ta, va)).1) ((adv by_ len (pl, tk, ta, va)).2.1) ((adv by_ len (pl, tk, ta, va)).2.2.1) ((adv by_ len (pl, tk, ta, va)).2.2.2), aI cI byA 150 by_] (none)) args s 0 0 (zA [oT t byA len pl tk ta va, aI cI byA 150 by_])) (F0 m 86 ls []) := by
            intro z86
            induction z86 using Nat.strongRecOn with
            | _ z86 ih86 =>
            intro e9 l9 hz86 he hrel H locs hP hD hS ls hl
            refine lv_aload_n hx hb dX2_advances_86 rfl (lv_at hl 0 rfl) ?_
            refine z_get (k := 2) zcX2 hC hK hP 0 rfl (by decide) lF_X2_19 rfl dX2_advances_87 ?_
            refine lv_aload_n hx hb dX2_advances_90 rfl (lv_at hl 0 rfl) ?_
            refine z_get (k := 1) zcX2 hC hK hP 0 rfl (by decide) lF_X2_15 rfl dX2_advances_91 ?_
            refine zc_ge (tgt := 152) hC dX2_advances_94 (by decide) (by omega) (by omega) (fun c94 => ?_) (fun c94 => ?_)
            · skip
              obtain ⟨hE, hl9, hlx⟩ := adv_x hr9 hrel (by omega) (fun _ => rn_end c94)
              refine lv_aload_n hx hb dX2_advances_152 rfl (lv_at hl 0 rfl) ?_
              refine lv_iload_n hx hb dX2_advances_153 rfl (lv_at hl 1 rfl) ?_
              refine lv_iload_n hx hb dX2_advances_154 rfl (lv_at hl 3 rfl) ?_
              refine lv_aload_n hx hb dX2_advances_155 rfl (lv_at hl 0 rfl) ?_
              refine z_get (k := 2) zcX2 hC hK hP 0 rfl (by decide) lF_X2_19 rfl dX2_advances_156 ?_
              refine lv_aload_n hx hb dX2_advances_159 rfl (lv_at hl 0 rfl) ?_
              refine z_get (k := 4) zcX2 hC hK hP 0 rfl (by decide) lF_X2_25 rfl dX2_advances_160 ?_
              refine zi_sub hC dX2_advances_163 (by omega) ?_
              refine zWV (ws1 := [oT t byA len e9 (svK (sortN (by_ p9)) (by_ p9) (e9 - p9)) p9 (svV (sortN (by_ p9)) (by_ p9) l9 (e9 - p9) va), aI cI byA 150 by_]) (As := [.int (nI (by_ p9)), .int (nI l9), .int (nI (e9 - p9))]) (b := t) (rest := []) hC (c_X2_setsValue (l := l) (hw := by omega) (hc := hby _) (hl9 := by rw [hl9]; exact hby _) (htk := by omega) (h2 := fun h => ⟨(sortN_2 h).1, by rw [hl9]; exact hlx h⟩)) lM_X2_84 vM_X2_setsValue (by decide) hK hP hD hS [0] [1] rfl (by decide) rfl rfl rfl rfl ⟨rfl, rfl, rfl⟩ rfl hl.1 rfl (Nat.le_of_ble_eq_true rfl) dX2_advances_164 (by decide) (fun H locs hP hD hS => ?_)
              show W _ _ _ _ _ _ _ _ _ _ _ _ _ _ _ (F0 m 167 ls [])
              exact zw_v hC hr hlk hA h0 (by rw [adv_tok (hs.symm.trans (skp_stop c8 c21)) c8]; unfold advW; rw [hE, ← hl9]; exact hP) hS dX2_advances_167
            · skip
              refine lv_aload_n hx hb dX2_advances_97 rfl (lv_at hl 0 rfl) ?_
              refine z_get (k := 2) zcX2 hC hK hP 0 rfl (by decide) lF_X2_19 rfl dX2_advances_98 ?_
              refine lv_aload_n hx hb dX2_advances_101 rfl (lv_at hl 0 rfl) ?_
              refine z_get (k := 4) zcX2 hC hK hP 0 rfl (by decide) lF_X2_25 rfl dX2_advances_102 ?_
              refine zc_eq (tgt := 130) hC dX2_advances_105 (by decide) (by omega) (by omega) (fun c105 => ?_) (fun c105 => ?_)
              · skip
                refine lv_aload_n hx hb dX2_advances_130 rfl (lv_at hl 0 rfl) ?_
                refine lv_aload_n hx hb dX2_advances_131 rfl (lv_at hl 0 rfl) ?_
                refine z_get (k := 2) zcX2 hC hK hP 0 rfl (by decide) lF_X2_19 rfl dX2_advances_132 ?_
                refine zRV (As := [.int (nI e9)]) (b := t) (rest := []) hC (c_X2_byteAt (l := l) (hlen := hlen) (hby := hby) (hp := by omega)) lM_X2_77 vM_X2_byteAt (by decide) hK hP [0, 1] rfl ⟨rfl, rfl, rfl⟩ rfl hl.1 rfl (Nat.le_of_ble_eq_true rfl) dX2_advances_135 (by decide) ?_
                show W _ _ _ _ _ _ _ _ _ _ _ _ _ _ _ (F0 m 138 ls [.int (nI (by_ e9))])
                refine lv_istore_n (lv' := [(2, .int (nI (by_ e9))), (0, .ref t), (1, .int (nI (by_ p9))), (3, .int (bI r9))]) hx hb dX2_advances_138 rfl hl (by decide) rfl (fun ls hl => ?_)
                refine lv_aload_n hx hb dX2_advances_139 rfl (lv_at hl 1 rfl) ?_
                refine lv_dup hx hb dX2_advances_140 rfl ?_
                refine z_get (k := 2) zcX2 hC hK hP 0 rfl (by decide) lF_X2_19 rfl dX2_advances_141 ?_
                refine lv_iconst (v := nI 1) hx hb dX2_advances_144 (by decide) ?_
                refine zi_add hC dX2_advances_145 ?_
                refine z_put (k := 2) zcX2 hC hK hP hD hS 0 rfl (by decide) lF_X2_19 rfl rfl rfl (Nat.le_of_ble_eq_true rfl) dX2_advances_146 (fun H locs hP hD hS => ?_)
                have hP : va_P D vwCl [oT t byA len (e9 + 1) (sortN (by_ p9)) p9 va, aI cI byA 150 by_] H := hP
                have hD : va_D A [oT t byA len (e9 + 1) (sortN (by_ p9)) p9 va, aI cI byA 150 by_] := hD
                refine lv_goto (tgt := 86) hx hb dX2_advances_149 (by decide) ?_
                exact ih86 (len - (e9 + 1)) (by omega) (e9 + 1) (by_ e9) rfl (by omega) (by first | exact Or.inr ⟨by omega, by rw [Nat.add_sub_cancel], fun _ => by omega, fun _ => ⟨by rw [c105], by rw [c105]⟩⟩ | exact Or.inr ⟨by omega, by rw [Nat.add_sub_cancel], fun h => absurd (h.symm.trans c109) (by decide), fun _ => ⟨c127, (rn_go c94 c127).symm.trans (by rcases hrel with h | h; exact absurd h.1 c105; exact (h.2.2.2 c109).2)⟩⟩) _ _ hP hD hS ls (lv_sub hl [1, 2, 3, 0] rfl)
              · skip
                refine lv_iload_n hx hb dX2_advances_108 rfl (lv_at hl 2 rfl) ?_
                refine zb_eq (tgt := 152) hC dX2_advances_109 (by decide) (fun c109 => ?_) (fun c109 => ?_)
                · skip
                  obtain ⟨hE, hl9, hlx⟩ := adv_x hr9 hrel c105 (fun h => absurd (h.symm.trans c109) (by decide))
                  refine lv_aload_n hx hb dX2_advances_152 rfl (lv_at hl 0 rfl) ?_
                  refine lv_iload_n hx hb dX2_advances_153 rfl (lv_at hl 1 rfl) ?_
                  refine lv_iload_n hx hb dX2_advances_154 rfl (lv_at hl 3 rfl) ?_
                  refine lv_aload_n hx hb dX2_advances_155 rfl (lv_at hl 0 rfl) ?_
                  refine z_get (k := 2) zcX2 hC hK hP 0 rfl (by decide) lF_X2_19 rfl dX2_advances_156 ?_
                  refine lv_aload_n hx hb dX2_advances_159 rfl (lv_at hl 0 rfl) ?_
                  refine z_get (k := 4) zcX2 hC hK hP 0 rfl (by decide) lF_X2_25 rfl dX2_advances_160 ?_
                  refine zi_sub hC dX2_advances_163 (by omega) ?_
                  refine zWV (ws1 := [oT t byA len e9 (svK (sortN (by_ p9)) (by_ p9) (e9 - p9)) p9 (svV (sortN (by_ p9)) (by_ p9) l9 (e9 - p9) va), aI cI byA 150 by_]) (As := [.int (nI (by_ p9)), .int (nI l9), .int (nI (e9 - p9))]) (b := t) (rest := []) hC (c_X2_setsValue (l := l) (hw := by omega) (hc := hby _) (hl9 := by rw [hl9]; exact hby _) (htk := by omega) (h2 := fun h => ⟨(sortN_2 h).1, by rw [hl9]; exact hlx h⟩)) lM_X2_84 vM_X2_setsValue (by decide) hK hP hD hS [0] [1] rfl (by decide) rfl rfl rfl rfl ⟨rfl, rfl, rfl⟩ rfl hl.1 rfl (Nat.le_of_ble_eq_true rfl) dX2_advances_164 (by decide) (fun H locs hP hD hS => ?_)
                  show W _ _ _ _ _ _ _ _ _ _ _ _ _ _ _ (F0 m 167 ls [])
                  exact zw_v hC hr hlk hA h0 (by rw [adv_tok (hs.symm.trans (skp_stop c8 c21)) c8]; unfold advW; rw [hE, ← hl9]; exact hP) hS dX2_advances_167
                · skip
                  refine lv_aload_n hx hb dX2_advances_112 rfl (lv_at hl 0 rfl) ?_
                  refine lv_aload_n hx hb dX2_advances_113 rfl (lv_at hl 0 rfl) ?_
                  refine z_get (k := 2) zcX2 hC hK hP 0 rfl (by decide) lF_X2_19 rfl dX2_advances_114 ?_
                  refine zRV (As := [.int (nI e9)]) (b := t) (rest := []) hC (c_X2_byteAt (l := l) (hlen := hlen) (hby := hby) (hp := by omega)) lM_X2_77 vM_X2_byteAt (by decide) hK hP [0, 1] rfl ⟨rfl, rfl, rfl⟩ rfl hl.1 rfl (Nat.le_of_ble_eq_true rfl) dX2_advances_117 (by decide) ?_
                  show W _ _ _ _ _ _ _ _ _ _ _ _ _ _ _ (F0 m 120 ls [.int (nI (by_ e9))])
                  refine zRS (As := [.int (nI (by_ e9))]) (rest := []) hC (c_X2_sortOf (l := l) (hx9 := hby _)) lM_X2_81 sM_X2_sortOf (by decide) hK rfl hl.1 rfl (Nat.le_of_ble_eq_true rfl) dX2_advances_120 (by decide) ?_
                  show W _ _ _ _ _ _ _ _ _ _ _ _ _ _ _ (F0 m 123 ls [.int (nI (sortN (by_ e9)))])
                  refine lv_aload_n hx hb dX2_advances_123 rfl (lv_at hl 0 rfl) ?_
                  have b124 := sortN_le (by_ e9)
                  refine z_get (k := 3) zcX2 hC hK hP 0 rfl (by decide) lF_X2_22 rfl dX2_advances_124 ?_
                  refine zc_ne (tgt := 152) hC dX2_advances_127 (by decide) (by omega) (by omega) (fun c127 => ?_) (fun c127 => ?_)
                  · skip
                    obtain ⟨hE, hl9, hlx⟩ := adv_x hr9 hrel c105 (fun _ => rn_stop c94 c127)
                    refine lv_aload_n hx hb dX2_advances_152 rfl (lv_at hl 0 rfl) ?_
                    refine lv_iload_n hx hb dX2_advances_153 rfl (lv_at hl 1 rfl) ?_
                    refine lv_iload_n hx hb dX2_advances_154 rfl (lv_at hl 3 rfl) ?_
                    refine lv_aload_n hx hb dX2_advances_155 rfl (lv_at hl 0 rfl) ?_
                    refine z_get (k := 2) zcX2 hC hK hP 0 rfl (by decide) lF_X2_19 rfl dX2_advances_156 ?_
                    refine lv_aload_n hx hb dX2_advances_159 rfl (lv_at hl 0 rfl) ?_
                    refine z_get (k := 4) zcX2 hC hK hP 0 rfl (by decide) lF_X2_25 rfl dX2_advances_160 ?_
                    refine zi_sub hC dX2_advances_163 (by omega) ?_
                    refine zWV (ws1 := [oT t byA len e9 (svK (sortN (by_ p9)) (by_ p9) (e9 - p9)) p9 (svV (sortN (by_ p9)) (by_ p9) l9 (e9 - p9) va), aI cI byA 150 by_]) (As := [.int (nI (by_ p9)), .int (nI l9), .int (nI (e9 - p9))]) (b := t) (rest := []) hC (c_X2_setsValue (l := l) (hw := by omega) (hc := hby _) (hl9 := by rw [hl9]; exact hby _) (htk := by omega) (h2 := fun h => ⟨(sortN_2 h).1, by rw [hl9]; exact hlx h⟩)) lM_X2_84 vM_X2_setsValue (by decide) hK hP hD hS [0] [1] rfl (by decide) rfl rfl rfl rfl ⟨rfl, rfl, rfl⟩ rfl hl.1 rfl (Nat.le_of_ble_eq_true rfl) dX2_advances_164 (by decide) (fun H locs hP hD hS => ?_)
                    show W _ _ _ _ _ _ _ _ _ _ _ _ _ _ _ (F0 m 167 ls [])
                    exact zw_v hC hr hlk hA h0 (by rw [adv_tok (hs.symm.trans (skp_stop c8 c21)) c8]; unfold advW; rw [hE, ← hl9]; exact hP) hS dX2_advances_167
                  · skip
                    refine lv_aload_n hx hb dX2_advances_130 rfl (lv_at hl 0 rfl) ?_
                    refine lv_aload_n hx hb dX2_advances_131 rfl (lv_at hl 0 rfl) ?_
                    refine z_get (k := 2) zcX2 hC hK hP 0 rfl (by decide) lF_X2_19 rfl dX2_advances_132 ?_
                    refine zRV (As := [.int (nI e9)]) (b := t) (rest := []) hC (c_X2_byteAt (l := l) (hlen := hlen) (hby := hby) (hp := by omega)) lM_X2_77 vM_X2_byteAt (by decide) hK hP [0, 1] rfl ⟨rfl, rfl, rfl⟩ rfl hl.1 rfl (Nat.le_of_ble_eq_true rfl) dX2_advances_135 (by decide) ?_
                    show W _ _ _ _ _ _ _ _ _ _ _ _ _ _ _ (F0 m 138 ls [.int (nI (by_ e9))])
                    refine lv_istore_n (lv' := [(2, .int (nI (by_ e9))), (0, .ref t), (1, .int (nI (by_ p9))), (3, .int (bI r9))]) hx hb dX2_advances_138 rfl hl (by decide) rfl (fun ls hl => ?_)
                    refine lv_aload_n hx hb dX2_advances_139 rfl (lv_at hl 1 rfl) ?_
                    refine lv_dup hx hb dX2_advances_140 rfl ?_
                    refine z_get (k := 2) zcX2 hC hK hP 0 rfl (by decide) lF_X2_19 rfl dX2_advances_141 ?_
                    refine lv_iconst (v := nI 1) hx hb dX2_advances_144 (by decide) ?_
                    refine zi_add hC dX2_advances_145 ?_
                    refine z_put (k := 2) zcX2 hC hK hP hD hS 0 rfl (by decide) lF_X2_19 rfl rfl rfl (Nat.le_of_ble_eq_true rfl) dX2_advances_146 (fun H locs hP hD hS => ?_)
                    have hP : va_P D vwCl [oT t byA len (e9 + 1) (sortN (by_ p9)) p9 va, aI cI byA 150 by_] H := hP
                    have hD : va_D A [oT t byA len (e9 + 1) (sortN (by_ p9)) p9 va, aI cI byA 150 by_] := hD
                    refine lv_goto (tgt := 86) hx hb dX2_advances_149 (by decide) ?_
                    exact ih86 (len - (e9 + 1)) (by omega) (e9 + 1) (by_ e9) rfl (by omega) (by first | exact Or.inr ⟨by omega, by rw [Nat.add_sub_cancel], fun _ => by omega, fun _ => ⟨by rw [c105], by rw [c105]⟩⟩ | exact Or.inr ⟨by omega, by rw [Nat.add_sub_cancel], fun h => absurd (h.symm.trans c109) (by decide), fun _ => ⟨c127, (rn_go c94 c127).symm.trans (by rcases hrel with h | h; exact absurd h.1 c105; exact (h.2.2.2 c109).2)⟩⟩) _ _ hP hD hS ls (lv_sub hl [1, 2, 3, 0] rfl)
          exact hL86 _ p9 (by_ p9) rfl (by omega) (by exact Or.inl ⟨rfl, rfl⟩) _ _ hP hD hS ls (lv_sub hl [1, 2, 0, 3] rfl)
        refine lv_aload_n hx hb dX2_advances_64 rfl (lv_at hl 2 rfl) ?_
        refine z_get (k := 3) zcX2 hC hK hP 0 rfl (by decide) lF_X2_22 rfl dX2_advances_65 ?_
        refine lv_iconst (v := nI 1) hx hb dX2_advances_68 (by decide) ?_
        refine zc_eq (tgt := 80) hC dX2_advances_69 (by decide) (by omega) (by omega) (fun c69 => ?_) (fun c69 => ?_)
        · skip
          refine lv_iconst (v := nI 1) hx hb dX2_advances_80 (by decide) ?_
          refine lv_goto (tgt := 85) hx hb dX2_advances_81 (by decide) ?_
          exact hJ85 true trivial (by first | exact (decide_eq_true (Or.inl c69)).symm | exact (decide_eq_true (Or.inr c77)).symm | exact (decide_eq_false (by omega)).symm) _ _ hP hD hS ls (lv_sub hl [2, 1, 0] rfl)
        · skip
          refine lv_aload_n hx hb dX2_advances_72 rfl (lv_at hl 2 rfl) ?_
          refine z_get (k := 3) zcX2 hC hK hP 0 rfl (by decide) lF_X2_22 rfl dX2_advances_73 ?_
          refine lv_iconst (v := nI 2) hx hb dX2_advances_76 (by decide) ?_
          refine zc_ne (tgt := 84) hC dX2_advances_77 (by decide) (by omega) (by omega) (fun c77 => ?_) (fun c77 => ?_)
          · skip
            refine lv_iconst (v := nI 0) hx hb dX2_advances_84 (by decide) ?_
            exact hJ85 false trivial (by first | exact (decide_eq_true (Or.inl c69)).symm | exact (decide_eq_true (Or.inr c77)).symm | exact (decide_eq_false (by omega)).symm) _ _ hP hD hS ls (lv_sub hl [2, 1, 0] rfl)
          · skip
            refine lv_iconst (v := nI 1) hx hb dX2_advances_80 (by decide) ?_
            refine lv_goto (tgt := 85) hx hb dX2_advances_81 (by decide) ?_
            exact hJ85 true trivial (by first | exact (decide_eq_true (Or.inl c69)).symm | exact (decide_eq_true (Or.inr c77)).symm | exact (decide_eq_false (by omega)).symm) _ _ hP hD hS ls (lv_sub hl [2, 1, 0] rfl)
      · skip
        refine lv_aload_n hx hb dX2_advances_24 rfl (lv_at hl 0 rfl) ?_
        refine lv_dup hx hb dX2_advances_25 rfl ?_
        refine z_get (k := 2) zcX2 hC hK hP 0 rfl (by decide) lF_X2_19 rfl dX2_advances_26 ?_
        refine lv_iconst (v := nI 1) hx hb dX2_advances_29 (by decide) ?_
        refine zi_add hC dX2_advances_30 ?_
        refine z_put (k := 2) zcX2 hC hK hP hD hS 0 rfl (by decide) lF_X2_19 rfl rfl rfl (Nat.le_of_ble_eq_true rfl) dX2_advances_31 (fun H locs hP hD hS => ?_)
        have hP : va_P D vwCl [oT t byA len (p9 + 1) tk ta va, aI cI byA 150 by_] H := hP
        have hD : va_D A [oT t byA len (p9 + 1) tk ta va, aI cI byA 150 by_] := hD
        refine lv_goto (tgt := 0) hx hb dX2_advances_34 (by decide) ?_
        exact ih0 (len - (p9 + 1)) (by omega) (p9 + 1) rfl (by omega) (by rw [← hs, skp_go c8 c21]) _ _ hP hD hS ls (lv_sub hl [0] rfl)
  exact hL0 _ pl rfl (by omega) (by rfl) _ _ hP hD hS ls (lv_sub hl [0] rfl)
end
section
def numOk (by_ : Nat → Nat) (len : Nat) (u : Cu) (m : Int32) : Bool := decide ((adv by_ len u).2.1 = 2 ∧ (adv by_ len u).2.2.2 ≤ m)
def vN (u : Cu) : Nat := u.2.2.2.toNatClampNeg
/-- a token's pieces fit -/
def wfU (len : Nat) (u : Cu) : Prop := u.1 ≤ len ∧ u.2.1 ≤ 4 ∧ u.2.2.1 ≤ len ∧ (u.2.1 = 2 → u.2.2.2 = nI (vN u) ∧ vN u < 100)
theorem skp_le {by_ : Nat → Nat} : ∀ k p, skp by_ k p ≤ p + k
  | 0, p => Nat.le_refl _
  | k + 1, p => by
    unfold skp
    split
    · have := skp_le (by_ := by_) k (p + 1); omega
    · omega
theorem rn_in {by_ : Nat → Nat} {s : Nat} : ∀ k p, p ≤ rn by_ s k p ∧ rn by_ s k p ≤ p + k ∧ (∀ i, p ≤ i → i < rn by_ s k p → sortN (by_ i) = s)
  | 0, p => ⟨Nat.le_refl _, Nat.le_refl _, fun i h1 h2 => absurd h1 (by show ¬ p ≤ i; have : i < p := h2; omega)⟩
  | k + 1, p => by
    unfold rn
    split
    · rename_i h
      obtain ⟨h1, h2, h3⟩ := rn_in (by_ := by_) (s := s) k (p + 1)
      refine ⟨by omega, by omega, fun i h4 h5 => ?_⟩
      by_cases e : i = p
      · rw [e]; exact h
      · exact h3 i (by omega) h5
    · exact ⟨Nat.le_refl _, by omega, fun i h1 h2 => absurd h1 (by omega)⟩
theorem advE_in {by_ : Nat → Nat} {len q : Nat} (h : q < len) : q < advE by_ len q ∧ advE by_ len q ≤ len ∧ (sortN (by_ q) = 2 → sortN (by_ (advE by_ len q - 1)) = 2) := by
  unfold advE
  split
  · obtain ⟨h1, h2, h3⟩ := rn_in (by_ := by_) (s := sortN (by_ q)) (len - (q + 1)) (q + 1)
    refine ⟨by omega, by omega, fun h4 => ?_⟩
    by_cases e : rn by_ (sortN (by_ q)) (len - (q + 1)) (q + 1) = q + 1
    · rw [e, Nat.add_sub_cancel]; exact h4
    · rw [h3 _ (by omega) (by omega), h4]
  · refine ⟨by omega, by omega, fun h4 => ?_⟩
    rw [Nat.add_sub_cancel]; exact h4
theorem adv_wf {by_ : Nat → Nat} {len : Nat} {u : Cu} (h : u.1 ≤ len) : wfU len (adv by_ len u) := by
  have hq := skp_le (by_ := by_) (len - u.1) u.1
  unfold adv
  by_cases hl : skp by_ (len - u.1) u.1 < len
  · rw [if_pos hl]
    generalize skp by_ (len - u.1) u.1 = q at hl
    obtain ⟨h1, h2, h3⟩ := advE_in (by_ := by_) hl
    have hs := sortN_le (by_ q)
    unfold advW wfU
    refine ⟨h2, ?_, Nat.le_of_lt hl, fun hk => ?_⟩
    · show svK _ _ _ ≤ 4
      unfold svK
      split <;> omega
    · have hk : svK (sortN (by_ q)) (by_ q) (advE by_ len q - q) = 2 := hk
      unfold svK at hk
      split at hk
      · omega
      · rename_i hn
        have d1 := sortN_2 hk
        have d2 := sortN_2 (h3 hk)
        have key : ∃ v, v < 100 ∧ svV (sortN (by_ q)) (by_ q) (by_ (advE by_ len q - 1)) (advE by_ len q - q) u.2.2.2 = nI v := by
          unfold svV
          rw [if_pos hk]
          by_cases w1 : advE by_ len q - q = 1
          · rw [if_pos w1]; exact ⟨_, by omega, rfl⟩
          · rw [if_neg w1]
            by_cases w2 : advE by_ len q - q = 2 ∧ by_ q ≠ 48
            · rw [if_pos w2]; exact ⟨_, by omega, rfl⟩
            · exact absurd ⟨hk, w1, w2⟩ hn
        obtain ⟨v, hv, e⟩ := key
        have e2 : vN (advW by_ len q u.2.2.2) = v := by
          show Int32.toNatClampNeg (svV _ _ _ _ _) = v
          rw [e]
          exact nI_clamp (by omega)
        show svV _ _ _ _ _ = nI (vN (advW by_ len q u.2.2.2)) ∧ vN (advW by_ len q u.2.2.2) < 100
        rw [e2, e]
        exact ⟨rfl, hv⟩
  · rw [if_neg hl]
    exact ⟨Nat.le_refl _, by show 0 ≤ 4; omega, Nat.le_refl _, fun h => absurd h (by show ¬ 0 = 2; omega)⟩
theorem numOk_t {by_ : Nat → Nat} {len : Nat} {u : Cu} {m : Int32} (hu : u.1 ≤ len) (h : numOk by_ len u m = true) : (adv by_ len u).2.2.2 = nI (vN (adv by_ len u)) ∧ vN (adv by_ len u) < 100 ∧ nI (vN (adv by_ len u)) ≤ m := by
  have h1 := of_decide_eq_true h
  obtain ⟨-, -, -, h2⟩ := adv_wf (by_ := by_) hu
  obtain ⟨h3, h4⟩ := h2 h1.1
  exact ⟨h3, h4, h3 ▸ h1.2⟩
theorem numOk_n {by_ : Nat → Nat} {len n : Nat} {u : Cu} (hu : u.1 ≤ len) (hn : n ≤ 6) (h : numOk by_ len u (nI n - nI 1) = true) : vN (adv by_ len u) < n := by
  obtain ⟨-, h2, h3⟩ := numOk_t hu h
  have h4 := Int32.le_iff_toInt_le.mp h3
  rw [pk_sub_toInt (by omega) (by omega), nI_toInt (by omega)] at h4
  omega
def rdF (by_ : Nat → Nat) (len : Nat) (u : Cu) (n : Nat) (bl ai bla : Nat → Nat) : Bool × Cu × Nat × (Nat → Nat) × (Nat → Nat) × (Nat → Nat) :=
  if numOk by_ len u (nI 40) = true then (if numOk by_ len (adv by_ len u) (nI 5) = true then (decide ((adv by_ len (adv by_ len (adv by_ len u))).2.1 = 3), adv by_ len (adv by_ len (adv by_ len u)), n + 1, updN bl n (vN (adv by_ len u)), updN ai n (vN (adv by_ len (adv by_ len u))), updN bla n n) else (false, adv by_ len (adv by_ len u), n, bl, ai, bla)) else (false, adv by_ len u, n, bl, ai, bla)
def actL (by_ : Nat → Nat) (len n a : Nat) : Nat → Cu → (Nat → Nat → Nat) → Bool × Cu × (Nat → Nat → Nat)
  | 0, u, dr => (decide (u.2.1 = 3), u, dr)
  | k + 1, u, dr => if u.2.1 = 2 then (if vN u < n then (if numOk by_ len u (nI 9) = true then actL by_ len n a k (adv by_ len (adv by_ len u)) (updF dr a (updN (dr a) (vN u) (vN (adv by_ len u)))) else (false, adv by_ len u, dr)) else (false, u, dr)) else (decide (u.2.1 = 3), u, dr)
theorem actL_0 (by_ : Nat → Nat) (len n a : Nat) (u : Cu) (dr : Nat → Nat → Nat) : actL by_ len n a 0 u dr = (decide (u.2.1 = 3), u, dr) := rfl
theorem actL_s (by_ : Nat → Nat) (len n a k : Nat) (u : Cu) (dr : Nat → Nat → Nat) : actL by_ len n a (k + 1) u dr = if u.2.1 = 2 then (if vN u < n then (if numOk by_ len u (nI 9) = true then actL by_ len n a k (adv by_ len (adv by_ len u)) (updF dr a (updN (dr a) (vN u) (vN (adv by_ len u)))) else (false, adv by_ len u, dr)) else (false, u, dr)) else (decide (u.2.1 = 3), u, dr) := rfl
def raF (by_ : Nat → Nat) (len : Nat) (u : Cu) (n ac : Nat) (wo : Nat → Nat) (dr : Nat → Nat → Nat) : Bool × Cu × Nat × (Nat → Nat) × (Nat → Nat → Nat) :=
  if numOk by_ len u (nI 99) = true then ((actL by_ len n (ac + 1 - 1) 6 (adv by_ len (adv by_ len u)) (updF dr ac (cpyN (fun _ => 0) (dr ac) 0 0 6))).1, (actL by_ len n (ac + 1 - 1) 6 (adv by_ len (adv by_ len u)) (updF dr ac (cpyN (fun _ => 0) (dr ac) 0 0 6))).2.1, ac + 1, updN wo ac (vN (adv by_ len u)), (actL by_ len n (ac + 1 - 1) 6 (adv by_ len (adv by_ len u)) (updF dr ac (cpyN (fun _ => 0) (dr ac) 0 0 6))).2.2) else (false, adv by_ len u, ac, wo, dr)
def rxF (by_ : Nat → Nat) (len : Nat) (u : Cu) (n : Nat) (bla : Nat → Nat) : Bool × Cu × (Nat → Nat) :=
  if numOk by_ len u (nI n - nI 1) = true then (if numOk by_ len (adv by_ len u) (nI n - nI 1) = true ∧ vN (adv by_ len (adv by_ len u)) ≠ vN (adv by_ len u) then (decide ((adv by_ len (adv by_ len (adv by_ len u))).2.1 = 3), adv by_ len (adv by_ len (adv by_ len u)), updN (updN bla (vN (adv by_ len u)) (bla (vN (adv by_ len (adv by_ len u))))) (vN (adv by_ len (adv by_ len u))) (bla (vN (adv by_ len u)))) else (false, adv by_ len (adv by_ len u), bla)) else (false, adv by_ len u, bla)
set_option maxHeartbeats 1000000 in
set_option maxRecDepth 100000 in
theorem c_X2_readsNumber {l : Launch} {D : va_G} {cI cZ cB cR : ClassId} {t byA len : Nat} {u : Cu} {by_ : Nat → Nat} {m9 : Int32} (hlen : len ≤ 150) (hby : ∀ i, by_ i < 256) (hu : u.1 ≤ len)  : mW l yX2_readsNumber cX2_readsNumber 2 (some .boolean) 2 46 D cI cZ cB cR [oT t byA len u.1 u.2.1 u.2.2.1 u.2.2.2, aI cI byA 150 by_] [oT t byA len ((adv by_ len u).1) ((adv by_ len u).2.1) ((adv by_ len u).2.2.1) ((adv by_ len u).2.2.2), aI cI byA 150 by_] [.ref t, .int m9] (some (.int (bI (numOk by_ len u m9)))) := by
  refine mW_of rfl (Nat.le_of_ble_eq_true rfl) ?_
  intro p e s m args below meth c hC hr hlk hK A hA hD H0 h0 hP hS ls hl
  have hP : va_P D vwCl [oT t byA len u.1 u.2.1 u.2.2.1 u.2.2.2, aI cI byA 150 by_] H0 := hP
  have hl : lv_has ls 2 [(0, .ref t), (1, .int m9)] := hl
  obtain ⟨hx, hb, hml, hown, hts⟩ := id hC
  refine lv_aload_n hx hb dX2_readsNumber_0 rfl (lv_at hl 0 rfl) ?_
  refine zWV (ws1 := [oT t byA len ((adv by_ len u).1) ((adv by_ len u).2.1) ((adv by_ len u).2.2.1) ((adv by_ len u).2.2.2), aI cI byA 150 by_]) (As := []) (b := t) (rest := []) hC (c_X2_advances (l := l) (hlen := hlen) (hby := hby) (hpl := hu)) lM_X2_31 vM_X2_advances (by decide) hK hP hD hS [0, 1] [] rfl (by decide) rfl rfl rfl rfl ⟨rfl, rfl, rfl⟩ rfl hl.1 rfl (Nat.le_of_ble_eq_true rfl) dX2_readsNumber_1 (by decide) (fun H locs hP hD hS => ?_)
  show W _ _ _ _ _ _ _ _ _ _ _ _ _ _ _ (F0 m 4 ls [])
  refine lv_aload_n hx hb dX2_readsNumber_4 rfl (lv_at hl 0 rfl) ?_
  refine z_get (k := 3) zcX2 hC hK hP 0 rfl (by decide) lF_X2_22 rfl dX2_readsNumber_5 ?_
  have b8 := (adv_wf (by_ := by_) hu).2.1
  refine lv_iconst (v := nI 2) hx hb dX2_readsNumber_8 (by decide) ?_
  refine zc_ne (tgt := 24) hC dX2_readsNumber_9 (by decide) (by omega) (by omega) (fun c9 => ?_) (fun c9 => ?_)
  · skip
    refine lv_iconst (v := nI 0) hx hb dX2_readsNumber_24 (by decide) ?_
    refine z_top (y := bI false) rfl ?_
    exact zw_z hC hr hlk hA h0 hP hS (by unfold numOk; first | exact (decide_eq_true ⟨c9, Int32.not_lt.mp c17⟩).symm | exact (decide_eq_false (fun h => c9 h.1)).symm | exact (decide_eq_false (fun h => absurd h.2 (Int32.not_le.mpr c17))).symm) dX2_readsNumber_25
  · skip
    refine lv_aload_n hx hb dX2_readsNumber_12 rfl (lv_at hl 0 rfl) ?_
    refine z_get (k := 5) zcX2 hC hK hP 0 rfl (by decide) lF_X2_28 rfl dX2_readsNumber_13 ?_
    refine lv_iload_n hx hb dX2_readsNumber_16 rfl (lv_at hl 1 rfl) ?_
    refine lv_icmp_gt (tgt := 24) hx hb dX2_readsNumber_17 (by decide) (fun c17 => ?_) (fun c17 => ?_)
    · skip
      refine lv_iconst (v := nI 0) hx hb dX2_readsNumber_24 (by decide) ?_
      refine z_top (y := bI false) rfl ?_
      exact zw_z hC hr hlk hA h0 hP hS (by unfold numOk; first | exact (decide_eq_true ⟨c9, Int32.not_lt.mp c17⟩).symm | exact (decide_eq_false (fun h => c9 h.1)).symm | exact (decide_eq_false (fun h => absurd h.2 (Int32.not_le.mpr c17))).symm) dX2_readsNumber_25
    · skip
      refine lv_iconst (v := nI 1) hx hb dX2_readsNumber_20 (by decide) ?_
      refine lv_goto (tgt := 25) hx hb dX2_readsNumber_21 (by decide) ?_
      refine z_top (y := bI true) rfl ?_
      exact zw_z hC hr hlk hA h0 hP hS (by unfold numOk; first | exact (decide_eq_true ⟨c9, Int32.not_lt.mp c17⟩).symm | exact (decide_eq_false (fun h => c9 h.1)).symm | exact (decide_eq_false (fun h => absurd h.2 (Int32.not_le.mpr c17))).symm) dX2_readsNumber_25
set_option maxHeartbeats 1000000 in
set_option maxRecDepth 100000 in
theorem c_X2_readsStop {l : Launch} {D : va_G} {cI cZ cB cR : ClassId} {t byA len : Nat} {u : Cu} {by_ : Nat → Nat}  (hlen : len ≤ 150) (hby : ∀ i, by_ i < 256) (hu : u.1 ≤ len)  : mW l yX2_readsStop cX2_readsStop 1 (some .boolean) 2 46 D cI cZ cB cR [oT t byA len u.1 u.2.1 u.2.2.1 u.2.2.2, aI cI byA 150 by_] [oT t byA len ((adv by_ len u).1) ((adv by_ len u).2.1) ((adv by_ len u).2.2.1) ((adv by_ len u).2.2.2), aI cI byA 150 by_] [.ref t] (some (.int (bI (decide ((adv by_ len u).2.1 = 3))))) := by
  refine mW_of rfl (Nat.le_of_ble_eq_true rfl) ?_
  intro p e s m args below meth c hC hr hlk hK A hA hD H0 h0 hP hS ls hl
  have hP : va_P D vwCl [oT t byA len u.1 u.2.1 u.2.2.1 u.2.2.2, aI cI byA 150 by_] H0 := hP
  have hl : lv_has ls 1 [(0, .ref t)] := hl
  obtain ⟨hx, hb, hml, hown, hts⟩ := id hC
  refine lv_aload_n hx hb dX2_readsStop_0 rfl (lv_at hl 0 rfl) ?_
  refine zWV (ws1 := [oT t byA len ((adv by_ len u).1) ((adv by_ len u).2.1) ((adv by_ len u).2.2.1) ((adv by_ len u).2.2.2), aI cI byA 150 by_]) (As := []) (b := t) (rest := []) hC (c_X2_advances (l := l) (hlen := hlen) (hby := hby) (hpl := hu)) lM_X2_31 vM_X2_advances (by decide) hK hP hD hS [0, 1] [] rfl (by decide) rfl rfl rfl rfl ⟨rfl, rfl, rfl⟩ rfl hl.1 rfl (Nat.le_of_ble_eq_true rfl) dX2_readsStop_1 (by decide) (fun H locs hP hD hS => ?_)
  show W _ _ _ _ _ _ _ _ _ _ _ _ _ _ _ (F0 m 4 ls [])
  refine lv_aload_n hx hb dX2_readsStop_4 rfl (lv_at hl 0 rfl) ?_
  refine z_get (k := 3) zcX2 hC hK hP 0 rfl (by decide) lF_X2_22 rfl dX2_readsStop_5 ?_
  have b8 := (adv_wf (by_ := by_) hu).2.1
  refine lv_iconst (v := nI 3) hx hb dX2_readsStop_8 (by decide) ?_
  refine zc_ne (tgt := 16) hC dX2_readsStop_9 (by decide) (by omega) (by omega) (fun c9 => ?_) (fun c9 => ?_)
  · skip
    refine lv_iconst (v := nI 0) hx hb dX2_readsStop_16 (by decide) ?_
    refine z_top (y := bI false) rfl ?_
    exact zw_z hC hr hlk hA h0 hP hS (by first | exact (decide_eq_true c9).symm | exact (decide_eq_false c9).symm) dX2_readsStop_17
  · skip
    refine lv_iconst (v := nI 1) hx hb dX2_readsStop_12 (by decide) ?_
    refine lv_goto (tgt := 17) hx hb dX2_readsStop_13 (by decide) ?_
    refine z_top (y := bI true) rfl ?_
    exact zw_z hC hr hlk hA h0 hP hS (by first | exact (decide_eq_true c9).symm | exact (decide_eq_false c9).symm) dX2_readsStop_17
set_option maxHeartbeats 1000000 in
set_option maxRecDepth 100000 in
theorem c_X2_readsDecanter {l : Launch} {D : va_G} {cI cZ cB cR : ClassId} {t byA len : Nat} {u : Cu} {by_ : Nat → Nat} {b : Nat} {n lvA aiA laA ac woA drA : Nat} {bl bla : Nat → Nat} {ai : Nat → Nat}  (hlen : len ≤ 150) (hby : ∀ i, by_ i < 256) (hu : u.1 ≤ len) (hn : n < 6) : mW l yX2_readsDecanter cX2_readsDecanter 3 (some .boolean) 3 67 D cI cZ cB cR [oT t byA len u.1 u.2.1 u.2.2.1 u.2.2.2, aI cI byA 150 by_, oB b n lvA aiA laA ac woA drA, aI cI lvA 6 bl, aI cI aiA 6 ai, aI cI laA 6 bla] [oT t byA len (((rdF by_ len u n bl ai bla).2.1).1) (((rdF by_ len u n bl ai bla).2.1).2.1) (((rdF by_ len u n bl ai bla).2.1).2.2.1) (((rdF by_ len u n bl ai bla).2.1).2.2.2), aI cI byA 150 by_, oB b ((rdF by_ len u n bl ai bla).2.2.1) lvA aiA laA ac woA drA, aI cI lvA 6 ((rdF by_ len u n bl ai bla).2.2.2.1), aI cI aiA 6 ((rdF by_ len u n bl ai bla).2.2.2.2.1), aI cI laA 6 ((rdF by_ len u n bl ai bla).2.2.2.2.2)] [.ref t, .ref b] (some (.int (bI (rdF by_ len u n bl ai bla).1))) := by
  refine mW_of rfl (Nat.le_of_ble_eq_true rfl) ?_
  intro p e s m args below meth c hC hr hlk hK A hA hD H0 h0 hP hS ls hl
  have hP : va_P D vwCl [oT t byA len u.1 u.2.1 u.2.2.1 u.2.2.2, aI cI byA 150 by_, oB b n lvA aiA laA ac woA drA, aI cI lvA 6 bl, aI cI aiA 6 ai, aI cI laA 6 bla] H0 := hP
  have hl : lv_has ls 3 [(0, .ref t), (1, .ref b)] := hl
  obtain ⟨hx, hb, hml, hown, hts⟩ := id hC
  refine lv_aload_n hx hb dX2_readsDecanter_0 rfl (lv_at hl 0 rfl) ?_
  refine lv_bipush (v := nI 40) hx hb dX2_readsDecanter_1 (by decide) ?_
  refine zWV (ws1 := [oT t byA len ((adv by_ len u).1) ((adv by_ len u).2.1) ((adv by_ len u).2.2.1) ((adv by_ len u).2.2.2), aI cI byA 150 by_, oB b n lvA aiA laA ac woA drA, aI cI lvA 6 bl, aI cI aiA 6 ai, aI cI laA 6 bla]) (As := [.int (nI 40)]) (b := t) (rest := []) hC (c_X2_readsNumber (l := l) (u := u) (hlen := hlen) (hby := hby) (hu := hu)) lM_X2_55 vM_X2_readsNumber (by decide) hK hP hD hS [0, 1] [2, 3, 4, 5] rfl (by decide) rfl rfl rfl rfl ⟨rfl, rfl, rfl⟩ rfl hl.1 rfl (Nat.le_of_ble_eq_true rfl) dX2_readsDecanter_3 (by decide) (fun H locs hP hD hS => ?_)
  show W _ _ _ _ _ _ _ _ _ _ _ _ _ _ _ (F0 m 6 ls [.int (bI (numOk by_ len u (nI 40)))])
  refine zb_ne (tgt := 11) hC dX2_readsDecanter_6 (by decide) (fun c6 => ?_) (fun c6 => ?_)
  · skip
    refine lv_aload_n hx hb dX2_readsDecanter_11 rfl (lv_at hl 0 rfl) ?_
    refine z_get (k := 5) zcX2 hC hK hP 0 rfl (by decide) lF_X2_28 rfl dX2_readsDecanter_12 ?_
    refine z_top (show ((adv by_ len u).2.2.2) = nI (vN (adv by_ len u)) from by exact (numOk_t hu c6).1) ?_
    refine lv_istore_n (lv' := [(2, .int (nI (vN (adv by_ len u)))), (0, .ref t), (1, .ref b)]) hx hb dX2_readsDecanter_15 rfl hl (by decide) rfl (fun ls hl => ?_)
    refine lv_aload_n hx hb dX2_readsDecanter_16 rfl (lv_at hl 1 rfl) ?_
    refine lv_iconst (v := nI 5) hx hb dX2_readsDecanter_17 (by decide) ?_
    refine zWV (ws1 := [oT t byA len ((adv by_ len (adv by_ len u)).1) ((adv by_ len (adv by_ len u)).2.1) ((adv by_ len (adv by_ len u)).2.2.1) ((adv by_ len (adv by_ len u)).2.2.2), aI cI byA 150 by_, oB b n lvA aiA laA ac woA drA, aI cI lvA 6 bl, aI cI aiA 6 ai, aI cI laA 6 bla]) (As := [.int (nI 5)]) (b := t) (rest := []) hC (c_X2_readsNumber (l := l) (u := adv by_ len u) (hlen := hlen) (hby := hby) (hu := (adv_wf (by_ := by_) hu).1)) lM_X2_55 vM_X2_readsNumber (by decide) hK hP hD hS [0, 1] [2, 3, 4, 5] rfl (by decide) rfl rfl rfl rfl ⟨rfl, rfl, rfl⟩ rfl hl.1 rfl (Nat.le_of_ble_eq_true rfl) dX2_readsDecanter_18 (by decide) (fun H locs hP hD hS => ?_)
    show W _ _ _ _ _ _ _ _ _ _ _ _ _ _ _ (F0 m 21 ls [.int (bI (numOk by_ len (adv by_ len u) (nI 5)))])
    refine zb_ne (tgt := 26) hC dX2_readsDecanter_21 (by decide) (fun c21 => ?_) (fun c21 => ?_)
    · skip
      refine lv_aload_n hx hb dX2_readsDecanter_26 rfl (lv_at hl 2 rfl) ?_
      refine lv_iload_n hx hb dX2_readsDecanter_27 rfl (lv_at hl 0 rfl) ?_
      refine lv_aload_n hx hb dX2_readsDecanter_28 rfl (lv_at hl 1 rfl) ?_
      refine z_get (k := 5) zcX2 hC hK hP 0 rfl (by decide) lF_X2_28 rfl dX2_readsDecanter_29 ?_
      refine z_top (show ((adv by_ len (adv by_ len u)).2.2.2) = nI (vN (adv by_ len (adv by_ len u))) from by exact (numOk_t (adv_wf (by_ := by_) hu).1 c21).1) ?_
      refine zWVN (ws1 := [oT t byA len ((adv by_ len (adv by_ len u)).1) ((adv by_ len (adv by_ len u)).2.1) ((adv by_ len (adv by_ len u)).2.2.1) ((adv by_ len (adv by_ len u)).2.2.2), aI cI byA 150 by_, oB b (n + 1) lvA aiA laA ac woA drA, aI cI lvA 6 (updN bl n (vN (adv by_ len u))), aI cI aiA 6 (updN ai n (vN (adv by_ len (adv by_ len u)))), aI cI laA 6 (updN bla n n)]) (As := [.int (nI (vN (adv by_ len u))), .int (nI (vN (adv by_ len (adv by_ len u))))]) (b := b) (rest := []) hC (c_X1_addsDecanter (l := l) (hn := hn)) lM_X2_59 vM_X1_addsDecanter (by decide) hK hP hD hS [2, 3, 4, 5] [0, 1] rfl (by decide) rfl rfl rfl rfl ⟨rfl, rfl, rfl⟩ rfl hl.1 rfl (Nat.le_of_ble_eq_true rfl) dX2_readsDecanter_32 (by decide) (fun H locs hP hD hS => ?_)
      show W _ _ _ _ _ _ _ _ _ _ _ _ _ _ _ (F0 m 35 ls [])
      refine lv_aload_n hx hb dX2_readsDecanter_35 rfl (lv_at hl 1 rfl) ?_
      refine zWV (ws1 := [oT t byA len ((adv by_ len (adv by_ len (adv by_ len u))).1) ((adv by_ len (adv by_ len (adv by_ len u))).2.1) ((adv by_ len (adv by_ len (adv by_ len u))).2.2.1) ((adv by_ len (adv by_ len (adv by_ len u))).2.2.2), aI cI byA 150 by_, oB b (n + 1) lvA aiA laA ac woA drA, aI cI lvA 6 (updN bl n (vN (adv by_ len u))), aI cI aiA 6 (updN ai n (vN (adv by_ len (adv by_ len u)))), aI cI laA 6 (updN bla n n)]) (As := []) (b := t) (rest := []) hC (c_X2_readsStop (l := l) (u := adv by_ len (adv by_ len u)) (hlen := hlen) (hby := hby) (hu := (adv_wf (by_ := by_) (adv_wf (by_ := by_) hu).1).1)) lM_X2_63 vM_X2_readsStop (by decide) hK hP hD hS [0, 1] [2, 3, 4, 5] rfl (by decide) rfl rfl rfl rfl ⟨rfl, rfl, rfl⟩ rfl hl.1 rfl (Nat.le_of_ble_eq_true rfl) dX2_readsDecanter_36 (by decide) (fun H locs hP hD hS => ?_)
      show W _ _ _ _ _ _ _ _ _ _ _ _ _ _ _ (F0 m 39 ls [.int (bI (decide ((adv by_ len (adv by_ len (adv by_ len u))).2.1 = 3)))])
      exact zw_z hC hr hlk hA h0 (by unfold rdF; first | (rw [if_pos c6, if_pos c21]; exact hP) | (rw [if_pos c6, if_neg (by rw [c21]; decide)]; exact hP) | (rw [if_neg (by rw [c6]; decide)]; exact hP)) hS (by unfold rdF; first | rw [if_pos c6, if_pos c21] | rw [if_pos c6, if_neg (by rw [c21]; decide)] | rw [if_neg (by rw [c6]; decide)]) dX2_readsDecanter_39
    · skip
      refine lv_iconst (v := nI 0) hx hb dX2_readsDecanter_24 (by decide) ?_
      refine z_top (y := bI false) rfl ?_
      exact zw_z hC hr hlk hA h0 (by unfold rdF; first | (rw [if_pos c6, if_pos c21]; exact hP) | (rw [if_pos c6, if_neg (by rw [c21]; decide)]; exact hP) | (rw [if_neg (by rw [c6]; decide)]; exact hP)) hS (by unfold rdF; first | rw [if_pos c6, if_pos c21] | rw [if_pos c6, if_neg (by rw [c21]; decide)] | rw [if_neg (by rw [c6]; decide)]) dX2_readsDecanter_25
  · skip
    refine lv_iconst (v := nI 0) hx hb dX2_readsDecanter_9 (by decide) ?_
    refine z_top (y := bI false) rfl ?_
    exact zw_z hC hr hlk hA h0 (by unfold rdF; first | (rw [if_pos c6, if_pos c21]; exact hP) | (rw [if_pos c6, if_neg (by rw [c21]; decide)]; exact hP) | (rw [if_neg (by rw [c6]; decide)]; exact hP)) hS (by unfold rdF; first | rw [if_pos c6, if_pos c21] | rw [if_pos c6, if_neg (by rw [c21]; decide)] | rw [if_neg (by rw [c6]; decide)]) dX2_readsDecanter_10
set_option maxHeartbeats 1000000 in
set_option maxRecDepth 100000 in
theorem c_X2_readsExchange {l : Launch} {D : va_G} {cI cZ cB cR : ClassId} {t byA len : Nat} {u : Cu} {by_ : Nat → Nat} {b : Nat} {n lvA aiA laA ac woA drA : Nat} {bla : Nat → Nat}  (hlen : len ≤ 150) (hby : ∀ i, by_ i < 256) (hu : u.1 ≤ len) (hn : n ≤ 6) : mW l yX2_readsExchange cX2_readsExchange 3 (some .boolean) 3 67 D cI cZ cB cR [oT t byA len u.1 u.2.1 u.2.2.1 u.2.2.2, aI cI byA 150 by_, oB b n lvA aiA laA ac woA drA, aI cI laA 6 bla] [oT t byA len (((rxF by_ len u n bla).2.1).1) (((rxF by_ len u n bla).2.1).2.1) (((rxF by_ len u n bla).2.1).2.2.1) (((rxF by_ len u n bla).2.1).2.2.2), aI cI byA 150 by_, oB b n lvA aiA laA ac woA drA, aI cI laA 6 ((rxF by_ len u n bla).2.2)] [.ref t, .ref b] (some (.int (bI (rxF by_ len u n bla).1))) := by
  refine mW_of rfl (Nat.le_of_ble_eq_true rfl) ?_
  intro p e s m args below meth c hC hr hlk hK A hA hD H0 h0 hP hS ls hl
  have hP : va_P D vwCl [oT t byA len u.1 u.2.1 u.2.2.1 u.2.2.2, aI cI byA 150 by_, oB b n lvA aiA laA ac woA drA, aI cI laA 6 bla] H0 := hP
  have hl : lv_has ls 3 [(0, .ref t), (1, .ref b)] := hl
  obtain ⟨hx, hb, hml, hown, hts⟩ := id hC
  refine lv_aload_n hx hb dX2_readsExchange_0 rfl (lv_at hl 0 rfl) ?_
  refine lv_aload_n hx hb dX2_readsExchange_1 rfl (lv_at hl 1 rfl) ?_
  refine z_get (k := 0) zcX1 hC hK hP 2 rfl (by decide) lF_X2_38 rfl dX2_readsExchange_2 ?_
  refine lv_iconst (v := nI 1) hx hb dX2_readsExchange_5 (by decide) ?_
  refine lv_isub hx hb dX2_readsExchange_6 ?_
  refine zWV (ws1 := [oT t byA len ((adv by_ len u).1) ((adv by_ len u).2.1) ((adv by_ len u).2.2.1) ((adv by_ len u).2.2.2), aI cI byA 150 by_, oB b n lvA aiA laA ac woA drA, aI cI laA 6 bla]) (As := [.int ((nI n) - (nI 1))]) (b := t) (rest := []) hC (c_X2_readsNumber (l := l) (u := u) (hlen := hlen) (hby := hby) (hu := hu)) lM_X2_55 vM_X2_readsNumber (by decide) hK hP hD hS [0, 1] [2, 3] rfl (by decide) rfl rfl rfl rfl ⟨rfl, rfl, rfl⟩ rfl hl.1 rfl (Nat.le_of_ble_eq_true rfl) dX2_readsExchange_7 (by decide) (fun H locs hP hD hS => ?_)
  show W _ _ _ _ _ _ _ _ _ _ _ _ _ _ _ (F0 m 10 ls [.int (bI (numOk by_ len u (nI n - nI 1)))])
  refine zb_ne (tgt := 15) hC dX2_readsExchange_10 (by decide) (fun c10 => ?_) (fun c10 => ?_)
  · skip
    refine lv_aload_n hx hb dX2_readsExchange_15 rfl (lv_at hl 0 rfl) ?_
    refine z_get (k := 5) zcX2 hC hK hP 0 rfl (by decide) lF_X2_28 rfl dX2_readsExchange_16 ?_
    have b19 := (numOk_t hu c10).2.1
    refine z_top (show ((adv by_ len u).2.2.2) = nI (vN (adv by_ len u)) from by exact (numOk_t hu c10).1) ?_
    refine lv_istore_n (lv' := [(2, .int (nI (vN (adv by_ len u)))), (0, .ref t), (1, .ref b)]) hx hb dX2_readsExchange_19 rfl hl (by decide) rfl (fun ls hl => ?_)
    refine lv_aload_n hx hb dX2_readsExchange_20 rfl (lv_at hl 1 rfl) ?_
    refine lv_aload_n hx hb dX2_readsExchange_21 rfl (lv_at hl 2 rfl) ?_
    refine z_get (k := 0) zcX1 hC hK hP 2 rfl (by decide) lF_X2_38 rfl dX2_readsExchange_22 ?_
    refine lv_iconst (v := nI 1) hx hb dX2_readsExchange_25 (by decide) ?_
    refine lv_isub hx hb dX2_readsExchange_26 ?_
    refine zWV (ws1 := [oT t byA len ((adv by_ len (adv by_ len u)).1) ((adv by_ len (adv by_ len u)).2.1) ((adv by_ len (adv by_ len u)).2.2.1) ((adv by_ len (adv by_ len u)).2.2.2), aI cI byA 150 by_, oB b n lvA aiA laA ac woA drA, aI cI laA 6 bla]) (As := [.int ((nI n) - (nI 1))]) (b := t) (rest := []) hC (c_X2_readsNumber (l := l) (u := adv by_ len u) (hlen := hlen) (hby := hby) (hu := (adv_wf (by_ := by_) hu).1)) lM_X2_55 vM_X2_readsNumber (by decide) hK hP hD hS [0, 1] [2, 3] rfl (by decide) rfl rfl rfl rfl ⟨rfl, rfl, rfl⟩ rfl hl.1 rfl (Nat.le_of_ble_eq_true rfl) dX2_readsExchange_27 (by decide) (fun H locs hP hD hS => ?_)
    show W _ _ _ _ _ _ _ _ _ _ _ _ _ _ _ (F0 m 30 ls [.int (bI (numOk by_ len (adv by_ len u) (nI n - nI 1)))])
    refine zb_eq (tgt := 41) hC dX2_readsExchange_30 (by decide) (fun c30 => ?_) (fun c30 => ?_)
    · skip
      refine lv_iconst (v := nI 0) hx hb dX2_readsExchange_41 (by decide) ?_
      refine z_top (y := bI false) rfl ?_
      exact zw_z hC hr hlk hA h0 (by unfold rxF; rw [if_pos c10, if_neg (fun h => absurd (h.1.symm.trans c30) (by decide))]; exact hP) hS (by unfold rxF; rw [if_pos c10, if_neg (fun h => absurd (h.1.symm.trans c30) (by decide))]) dX2_readsExchange_42
    · skip
      refine lv_aload_n hx hb dX2_readsExchange_33 rfl (lv_at hl 1 rfl) ?_
      refine z_get (k := 5) zcX2 hC hK hP 0 rfl (by decide) lF_X2_28 rfl dX2_readsExchange_34 ?_
      have b37 := (numOk_t (adv_wf (by_ := by_) hu).1 c30).2.1
      refine z_top (show ((adv by_ len (adv by_ len u)).2.2.2) = nI (vN (adv by_ len (adv by_ len u))) from by exact (numOk_t (adv_wf (by_ := by_) hu).1 c30).1) ?_
      refine lv_iload_n hx hb dX2_readsExchange_37 rfl (lv_at hl 0 rfl) ?_
      refine zc_ne (tgt := 43) hC dX2_readsExchange_38 (by decide) (by omega) (by omega) (fun c38 => ?_) (fun c38 => ?_)
      · skip
        refine lv_aload_n hx hb dX2_readsExchange_43 rfl (lv_at hl 2 rfl) ?_
        refine lv_iload_n hx hb dX2_readsExchange_44 rfl (lv_at hl 0 rfl) ?_
        refine lv_aload_n hx hb dX2_readsExchange_45 rfl (lv_at hl 1 rfl) ?_
        refine z_get (k := 5) zcX2 hC hK hP 0 rfl (by decide) lF_X2_28 rfl dX2_readsExchange_46 ?_
        refine z_top (show ((adv by_ len (adv by_ len u)).2.2.2) = nI (vN (adv by_ len (adv by_ len u))) from by exact (numOk_t (adv_wf (by_ := by_) hu).1 c30).1) ?_
        refine zWVN (ws1 := [oT t byA len ((adv by_ len (adv by_ len u)).1) ((adv by_ len (adv by_ len u)).2.1) ((adv by_ len (adv by_ len u)).2.2.1) ((adv by_ len (adv by_ len u)).2.2.2), aI cI byA 150 by_, oB b n lvA aiA laA ac woA drA, aI cI laA 6 (updN (updN bla (vN (adv by_ len u)) (bla (vN (adv by_ len (adv by_ len u))))) (vN (adv by_ len (adv by_ len u))) (bla (vN (adv by_ len u))))]) (As := [.int (nI (vN (adv by_ len u))), .int (nI (vN (adv by_ len (adv by_ len u))))]) (b := b) (rest := []) hC (c_X1_exchangesLabels (l := l) (hd := numOk_n hu hn c10) (he := numOk_n (adv_wf (by_ := by_) hu).1 hn c30) (hn := hn)) lM_X2_74 vM_X1_exchangesLabels (by decide) hK hP hD hS [2, 3] [0, 1] rfl (by decide) rfl rfl rfl rfl ⟨rfl, rfl, rfl⟩ rfl hl.1 rfl (Nat.le_of_ble_eq_true rfl) dX2_readsExchange_49 (by decide) (fun H locs hP hD hS => ?_)
        show W _ _ _ _ _ _ _ _ _ _ _ _ _ _ _ (F0 m 52 ls [])
        refine lv_aload_n hx hb dX2_readsExchange_52 rfl (lv_at hl 1 rfl) ?_
        refine zWV (ws1 := [oT t byA len ((adv by_ len (adv by_ len (adv by_ len u))).1) ((adv by_ len (adv by_ len (adv by_ len u))).2.1) ((adv by_ len (adv by_ len (adv by_ len u))).2.2.1) ((adv by_ len (adv by_ len (adv by_ len u))).2.2.2), aI cI byA 150 by_, oB b n lvA aiA laA ac woA drA, aI cI laA 6 (updN (updN bla (vN (adv by_ len u)) (bla (vN (adv by_ len (adv by_ len u))))) (vN (adv by_ len (adv by_ len u))) (bla (vN (adv by_ len u))))]) (As := []) (b := t) (rest := []) hC (c_X2_readsStop (l := l) (u := adv by_ len (adv by_ len u)) (hlen := hlen) (hby := hby) (hu := (adv_wf (by_ := by_) (adv_wf (by_ := by_) hu).1).1)) lM_X2_63 vM_X2_readsStop (by decide) hK hP hD hS [0, 1] [2, 3] rfl (by decide) rfl rfl rfl rfl ⟨rfl, rfl, rfl⟩ rfl hl.1 rfl (Nat.le_of_ble_eq_true rfl) dX2_readsExchange_53 (by decide) (fun H locs hP hD hS => ?_)
        show W _ _ _ _ _ _ _ _ _ _ _ _ _ _ _ (F0 m 56 ls [.int (bI (decide ((adv by_ len (adv by_ len (adv by_ len u))).2.1 = 3)))])
        exact zw_z hC hr hlk hA h0 (by unfold rxF; rw [if_pos c10, if_pos ⟨c30, c38⟩]; exact hP) hS (by unfold rxF; rw [if_pos c10, if_pos ⟨c30, c38⟩]) dX2_readsExchange_56
      · skip
        refine lv_iconst (v := nI 0) hx hb dX2_readsExchange_41 (by decide) ?_
        refine z_top (y := bI false) rfl ?_
        exact zw_z hC hr hlk hA h0 (by unfold rxF; rw [if_pos c10, if_neg (fun h => h.2 c38)]; exact hP) hS (by unfold rxF; rw [if_pos c10, if_neg (fun h => h.2 c38)]) dX2_readsExchange_42
  · skip
    refine lv_iconst (v := nI 0) hx hb dX2_readsExchange_13 (by decide) ?_
    refine z_top (y := bI false) rfl ?_
    exact zw_z hC hr hlk hA h0 (by unfold rxF; rw [if_neg (by rw [c10]; decide)]; exact hP) hS (by unfold rxF; rw [if_neg (by rw [c10]; decide)]) dX2_readsExchange_14
set_option maxHeartbeats 1000000 in
set_option maxRecDepth 100000 in
theorem c_X2_readsAct {l : Launch} {D : va_G} {cI cZ cB cR : ClassId} {t byA len : Nat} {u : Cu} {by_ : Nat → Nat} {b : Nat} {n lvA aiA laA ac woA drA : Nat} {wo : Nat → Nat} {r : Nat → Nat} {dr : Nat → Nat → Nat}  (hlen : len ≤ 150) (hby : ∀ i, by_ i < 256) (hu : u.1 ≤ len) (hn : n ≤ 6) (hac : ac < 5) : mW l yX2_readsAct cX2_readsAct 4 (some .boolean) 3 67 D cI cZ cB cR [oT t byA len u.1 u.2.1 u.2.2.1 u.2.2.2, aI cI byA 150 by_, oB b n lvA aiA laA ac woA drA, aI cI woA 5 wo, aR cR drA 5 r, aI cI (r 0) 6 (dr 0), aI cI (r 1) 6 (dr 1), aI cI (r 2) 6 (dr 2), aI cI (r 3) 6 (dr 3), aI cI (r 4) 6 (dr 4)] [oT t byA len (((raF by_ len u n ac wo dr).2.1).1) (((raF by_ len u n ac wo dr).2.1).2.1) (((raF by_ len u n ac wo dr).2.1).2.2.1) (((raF by_ len u n ac wo dr).2.1).2.2.2), aI cI byA 150 by_, oB b n lvA aiA laA ((raF by_ len u n ac wo dr).2.2.1) woA drA, aI cI woA 5 ((raF by_ len u n ac wo dr).2.2.2.1), aR cR drA 5 r, aI cI (r 0) 6 ((raF by_ len u n ac wo dr).2.2.2.2 0), aI cI (r 1) 6 ((raF by_ len u n ac wo dr).2.2.2.2 1), aI cI (r 2) 6 ((raF by_ len u n ac wo dr).2.2.2.2 2), aI cI (r 3) 6 ((raF by_ len u n ac wo dr).2.2.2.2 3), aI cI (r 4) 6 ((raF by_ len u n ac wo dr).2.2.2.2 4)] [.ref t, .ref b] (some (.int (bI (raF by_ len u n ac wo dr).1))) := by
  refine mW_of rfl (Nat.le_of_ble_eq_true rfl) ?_
  intro p e s m args below meth c hC hr hlk hK A hA hD H0 h0 hP hS ls hl
  have hP : va_P D vwCl [oT t byA len u.1 u.2.1 u.2.2.1 u.2.2.2, aI cI byA 150 by_, oB b n lvA aiA laA ac woA drA, aI cI woA 5 wo, aR cR drA 5 r, aI cI (r 0) 6 (dr 0), aI cI (r 1) 6 (dr 1), aI cI (r 2) 6 (dr 2), aI cI (r 3) 6 (dr 3), aI cI (r 4) 6 (dr 4)] H0 := hP
  have hl : lv_has ls 4 [(0, .ref t), (1, .ref b)] := hl
  obtain ⟨hx, hb, hml, hown, hts⟩ := id hC
  refine lv_aload_n hx hb dX2_readsAct_0 rfl (lv_at hl 0 rfl) ?_
  refine lv_bipush (v := nI 99) hx hb dX2_readsAct_1 (by decide) ?_
  refine zWV (ws1 := [oT t byA len ((adv by_ len u).1) ((adv by_ len u).2.1) ((adv by_ len u).2.2.1) ((adv by_ len u).2.2.2), aI cI byA 150 by_, oB b n lvA aiA laA ac woA drA, aI cI woA 5 wo, aR cR drA 5 r, aI cI (r 0) 6 (dr 0), aI cI (r 1) 6 (dr 1), aI cI (r 2) 6 (dr 2), aI cI (r 3) 6 (dr 3), aI cI (r 4) 6 (dr 4)]) (As := [.int (nI 99)]) (b := t) (rest := []) hC (c_X2_readsNumber (l := l) (u := u) (hlen := hlen) (hby := hby) (hu := hu)) lM_X2_55 vM_X2_readsNumber (by decide) hK hP hD hS [0, 1] [2, 3, 4, 5, 6, 7, 8, 9] rfl (by decide) rfl rfl rfl rfl ⟨rfl, rfl, rfl⟩ rfl hl.1 rfl (Nat.le_of_ble_eq_true rfl) dX2_readsAct_3 (by decide) (fun H locs hP hD hS => ?_)
  show W _ _ _ _ _ _ _ _ _ _ _ _ _ _ _ (F0 m 6 ls [.int (bI (numOk by_ len u (nI 99)))])
  refine zb_ne (tgt := 11) hC dX2_readsAct_6 (by decide) (fun c6 => ?_) (fun c6 => ?_)
  · skip
    refine lv_aload_n hx hb dX2_readsAct_11 rfl (lv_at hl 1 rfl) ?_
    refine lv_aload_n hx hb dX2_readsAct_12 rfl (lv_at hl 0 rfl) ?_
    refine z_get (k := 5) zcX2 hC hK hP 0 rfl (by decide) lF_X2_28 rfl dX2_readsAct_13 ?_
    refine z_top (show ((adv by_ len u).2.2.2) = nI (vN (adv by_ len u)) from by exact (numOk_t hu c6).1) ?_
    refine zWVN (ws1 := [oT t byA len ((adv by_ len u).1) ((adv by_ len u).2.1) ((adv by_ len u).2.2.1) ((adv by_ len u).2.2.2), aI cI byA 150 by_, oB b n lvA aiA laA (ac + 1) woA drA, aI cI woA 5 (updN wo ac (vN (adv by_ len u))), aR cR drA 5 r, aI cI (r 0) 6 ((updF dr ac (cpyN (fun _ => 0) (dr ac) 0 0 6)) 0), aI cI (r 1) 6 ((updF dr ac (cpyN (fun _ => 0) (dr ac) 0 0 6)) 1), aI cI (r 2) 6 ((updF dr ac (cpyN (fun _ => 0) (dr ac) 0 0 6)) 2), aI cI (r 3) 6 ((updF dr ac (cpyN (fun _ => 0) (dr ac) 0 0 6)) 3), aI cI (r 4) 6 ((updF dr ac (cpyN (fun _ => 0) (dr ac) 0 0 6)) 4)]) (As := [.int (nI (vN (adv by_ len u)))]) (b := b) (rest := []) hC (c_X1_addsAct (l := l) (hac := hac)) lM_X2_67 vM_X1_addsAct (by decide) hK hP hD hS [2, 3, 4, 5, 6, 7, 8, 9] [0, 1] rfl (by decide) rfl rfl rfl rfl ⟨rfl, rfl, rfl⟩ rfl hl.1 rfl (Nat.le_of_ble_eq_true rfl) dX2_readsAct_16 (by decide) (fun H locs hP hD hS => ?_)
    show W _ _ _ _ _ _ _ _ _ _ _ _ _ _ _ (F0 m 19 ls [])
    refine lv_aload_n hx hb dX2_readsAct_19 rfl (lv_at hl 0 rfl) ?_
    refine zWV (ws1 := [oT t byA len ((adv by_ len (adv by_ len u)).1) ((adv by_ len (adv by_ len u)).2.1) ((adv by_ len (adv by_ len u)).2.2.1) ((adv by_ len (adv by_ len u)).2.2.2), aI cI byA 150 by_, oB b n lvA aiA laA (ac + 1) woA drA, aI cI woA 5 (updN wo ac (vN (adv by_ len u))), aR cR drA 5 r, aI cI (r 0) 6 ((updF dr ac (cpyN (fun _ => 0) (dr ac) 0 0 6)) 0), aI cI (r 1) 6 ((updF dr ac (cpyN (fun _ => 0) (dr ac) 0 0 6)) 1), aI cI (r 2) 6 ((updF dr ac (cpyN (fun _ => 0) (dr ac) 0 0 6)) 2), aI cI (r 3) 6 ((updF dr ac (cpyN (fun _ => 0) (dr ac) 0 0 6)) 3), aI cI (r 4) 6 ((updF dr ac (cpyN (fun _ => 0) (dr ac) 0 0 6)) 4)]) (As := []) (b := t) (rest := []) hC (c_X2_advances (l := l) (hlen := hlen) (hby := hby) (hpl := (adv_wf (by_ := by_) hu).1)) lM_X2_31 vM_X2_advances (by decide) hK hP hD hS [0, 1] [2, 3, 4, 5, 6, 7, 8, 9] rfl (by decide) rfl rfl rfl rfl ⟨rfl, rfl, rfl⟩ rfl hl.1 rfl (Nat.le_of_ble_eq_true rfl) dX2_readsAct_20 (by decide) (fun H locs hP hD hS => ?_)
    show W _ _ _ _ _ _ _ _ _ _ _ _ _ _ _ (F0 m 23 ls [])
    refine lv_iconst (v := nI 0) hx hb dX2_readsAct_23 (by decide) ?_
    refine lv_istore_n (lv' := [(2, .int (nI 0)), (0, .ref t), (1, .ref b)]) hx hb dX2_readsAct_24 rfl hl (by decide) rfl (fun ls hl => ?_)
    have hL25 : ∀ (z25 : Nat) (t9 : Nat) (u9 : Cu) (dr9 : Nat → Nat → Nat), 6 - t9 = z25 → t9 ≤ 6 → actL by_ len n (ac + 1 - 1) (6 - t9) u9 dr9 = actL by_ len n (ac + 1 - 1) 6 (adv by_ len (adv by_ len u)) (updF dr ac (cpyN (fun _ => 0) (dr ac) 0 0 6)) → wfU len u9 → ∀ (H : Heap) (locs : List Loc), va_P D vwCl [oT t byA len u9.1 u9.2.1 u9.2.2.1 u9.2.2.2, aI cI byA 150 by_, oB b n lvA aiA laA (ac + 1) woA drA, aI cI woA 5 (updN wo ac (vN (adv by_ len u))), aR cR drA 5 r, aI cI (r 0) 6 (dr9 0), aI cI (r 1) 6 (dr9 1), aI cI (r 2) 6 (dr9 2), aI cI (r 3) 6 (dr9 3), aI cI (r 4) 6 (dr9 4)] H → va_D A [oT t byA len u9.1 u9.2.1 u9.2.2.1 u9.2.2.2, aI cI byA 150 by_, oB b n lvA aiA laA (ac + 1) woA drA, aI cI woA 5 (updN wo ac (vN (adv by_ len u))), aR cR drA 5 r, aI cI (r 0) 6 (dr9 0), aI cI (r 1) 6 (dr9 1), aI cI (r 2) 6 (dr9 2), aI cI (r 3) 6 (dr9 3), aI cI (r 4) 6 (dr9 4)] → va_S A H0 H locs → ∀ ls : Array Slot, lv_has ls 4 [(0, .ref t), (1, .ref b), (2, .int (nI t9))] → W p l e { frames := 3, cells := 0, slots := 0, locals := 67 } s m args below meth c H locs 0 0 (MQ below (qW D [oT t byA len u.1 u.2.1 u.2.2.1 u.2.2.2, aI cI byA 150 by_, oB b n lvA aiA laA ac woA drA, aI cI woA 5 wo, aR cR drA 5 r, aI cI (r 0) 6 (dr 0), aI cI (r 1) 6 (dr 1), aI cI (r 2) 6 (dr 2), aI cI (r 3) 6 (dr 3), aI cI (r 4) 6 (dr 4)] [oT t byA len (((raF by_ len u n ac wo dr).2.1).1) (((raF by_ len u n ac wo dr).2.1).2.1) (((raF by_ len u n ac wo dr).2.1).2.2.1) (((raF by_ len u n ac wo dr).2.1).2.2.2), aI cI byA 150 by_, oB b n lvA aiA laA ((raF by_ len u n ac wo dr).2.2.1) woA drA, aI cI woA 5 ((raF by_ len u n ac wo dr).2.2.2.1), aR cR drA 5 r, aI cI (r 0) 6 ((raF by_ len u n ac wo dr).2.2.2.2 0), aI cI (r 1) 6 ((raF by_ len u n ac wo dr).2.2.2.2 1), aI cI (r 2) 6 ((raF by_ len u n ac wo dr).2.2.2.2 2), aI cI (r 3) 6 ((raF by_ len u n ac wo dr).2.2.2.2 3), aI cI (r 4) 6 ((raF by_ len u n ac wo dr).2.2.2.2 4)] (some (.int (bI (raF by_ len u n ac wo dr).1)))) args s 0 0 (zA [oT t byA len u.1 u.2.1 u.2.2.1 u.2.2.2, aI cI byA 150 by_, oB b n lvA aiA laA ac woA drA, aI cI woA 5 wo, aR cR drA 5 r, aI cI (r 0) 6 (dr 0), aI cI (r 1) 6 (dr 1), aI cI (r 2) 6 (dr 2), aI cI (r 3) 6 (dr 3), aI cI (r 4) 6 (dr 4)])) (F0 m 25 ls []) := by
      intro z25
      induction z25 using Nat.strongRecOn with
      | _ z25 ih25 =>
      intro t9 u9 dr9 hz25 ht hq hw H locs hP hD hS ls hl
      refine lv_iload_n hx hb dX2_readsAct_25 rfl (lv_at hl 2 rfl) ?_
      refine lv_bipush (v := nI 6) hx hb dX2_readsAct_26 (by decide) ?_
      refine zc_ge (tgt := 82) hC dX2_readsAct_28 (by decide) (by omega) (by omega) (fun c28 => ?_) (fun c28 => ?_)
      · skip
        refine lv_aload_n hx hb dX2_readsAct_82 rfl (lv_at hl 0 rfl) ?_
        refine z_get (k := 3) zcX2 hC hK hP 0 rfl (by decide) lF_X2_22 rfl dX2_readsAct_83 ?_
        have b86 := hw.2.1
        refine lv_iconst (v := nI 3) hx hb dX2_readsAct_86 (by decide) ?_
        refine zc_ne (tgt := 94) hC dX2_readsAct_87 (by decide) (by omega) (by omega) (fun c87 => ?_) (fun c87 => ?_)
        · skip
          refine lv_iconst (v := nI 0) hx hb dX2_readsAct_94 (by decide) ?_
          refine z_top (y := bI false) rfl ?_
          exact zw_z hC hr hlk hA h0 (by unfold raF; rw [if_pos c6, ← hq, show 6 - t9 = 0 by omega, actL_0]; exact hP) hS (by unfold raF; rw [if_pos c6, ← hq, show 6 - t9 = 0 by omega, actL_0]; exact (decide_eq_false c87).symm) dX2_readsAct_95
        · skip
          refine lv_iconst (v := nI 1) hx hb dX2_readsAct_90 (by decide) ?_
          refine lv_goto (tgt := 95) hx hb dX2_readsAct_91 (by decide) ?_
          refine z_top (y := bI true) rfl ?_
          exact zw_z hC hr hlk hA h0 (by unfold raF; rw [if_pos c6, ← hq, show 6 - t9 = 0 by omega, actL_0]; exact hP) hS (by unfold raF; rw [if_pos c6, ← hq, show 6 - t9 = 0 by omega, actL_0]; exact (decide_eq_true c87).symm) dX2_readsAct_95
      · skip
        refine lv_aload_n hx hb dX2_readsAct_31 rfl (lv_at hl 0 rfl) ?_
        have b32 := hw.2.1
        refine z_get (k := 3) zcX2 hC hK hP 0 rfl (by decide) lF_X2_22 rfl dX2_readsAct_32 ?_
        have b35 := hw.2.1
        refine lv_iconst (v := nI 2) hx hb dX2_readsAct_35 (by decide) ?_
        refine zc_ne (tgt := 82) hC dX2_readsAct_36 (by decide) (by omega) (by omega) (fun c36 => ?_) (fun c36 => ?_)
        · skip
          refine lv_aload_n hx hb dX2_readsAct_82 rfl (lv_at hl 0 rfl) ?_
          refine z_get (k := 3) zcX2 hC hK hP 0 rfl (by decide) lF_X2_22 rfl dX2_readsAct_83 ?_
          have b86 := hw.2.1
          refine lv_iconst (v := nI 3) hx hb dX2_readsAct_86 (by decide) ?_
          refine zc_ne (tgt := 94) hC dX2_readsAct_87 (by decide) (by omega) (by omega) (fun c87 => ?_) (fun c87 => ?_)
          · skip
            refine lv_iconst (v := nI 0) hx hb dX2_readsAct_94 (by decide) ?_
            refine z_top (y := bI false) rfl ?_
            exact zw_z hC hr hlk hA h0 (by unfold raF; rw [if_pos c6, ← hq, show 6 - t9 = (6 - (t9 + 1)) + 1 by omega, actL_s, if_neg c36]; exact hP) hS (by unfold raF; rw [if_pos c6, ← hq, show 6 - t9 = (6 - (t9 + 1)) + 1 by omega, actL_s, if_neg c36]; exact (decide_eq_false c87).symm) dX2_readsAct_95
          · skip
            refine lv_iconst (v := nI 1) hx hb dX2_readsAct_90 (by decide) ?_
            refine lv_goto (tgt := 95) hx hb dX2_readsAct_91 (by decide) ?_
            refine z_top (y := bI true) rfl ?_
            exact zw_z hC hr hlk hA h0 (by unfold raF; rw [if_pos c6, ← hq, show 6 - t9 = (6 - (t9 + 1)) + 1 by omega, actL_s, if_neg c36]; exact hP) hS (by unfold raF; rw [if_pos c6, ← hq, show 6 - t9 = (6 - (t9 + 1)) + 1 by omega, actL_s, if_neg c36]; exact (decide_eq_true c87).symm) dX2_readsAct_95
        · skip
          refine lv_aload_n hx hb dX2_readsAct_39 rfl (lv_at hl 0 rfl) ?_
          refine z_get (k := 5) zcX2 hC hK hP 0 rfl (by decide) lF_X2_28 rfl dX2_readsAct_40 ?_
          have b43 := (hw.2.2.2 c36).2
          refine z_top (show (u9.2.2.2) = nI (vN u9) from by exact (hw.2.2.2 c36).1) ?_
          refine lv_istore_n (lv' := [(3, .int (nI (vN u9))), (0, .ref t), (1, .ref b), (2, .int (nI t9))]) hx hb dX2_readsAct_43 rfl hl (by decide) rfl (fun ls hl => ?_)
          refine lv_iload_n hx hb dX2_readsAct_44 rfl (lv_at hl 0 rfl) ?_
          refine lv_aload_n hx hb dX2_readsAct_45 rfl (lv_at hl 2 rfl) ?_
          refine z_get (k := 0) zcX1 hC hK hP 2 rfl (by decide) lF_X2_38 rfl dX2_readsAct_46 ?_
          refine zc_ge (tgt := 61) hC dX2_readsAct_49 (by decide) (by omega) (by omega) (fun c49 => ?_) (fun c49 => ?_)
          · skip
            refine lv_iconst (v := nI 0) hx hb dX2_readsAct_61 (by decide) ?_
            refine z_top (y := bI false) rfl ?_
            exact zw_z hC hr hlk hA h0 (by unfold raF; rw [if_pos c6, ← hq, show 6 - t9 = (6 - (t9 + 1)) + 1 by omega, actL_s, if_pos c36, if_neg (Nat.not_lt.mpr c49)]; exact hP) hS (by unfold raF; rw [if_pos c6, ← hq, show 6 - t9 = (6 - (t9 + 1)) + 1 by omega, actL_s, if_pos c36, if_neg (Nat.not_lt.mpr c49)]) dX2_readsAct_62
          · skip
            refine lv_aload_n hx hb dX2_readsAct_52 rfl (lv_at hl 1 rfl) ?_
            refine lv_bipush (v := nI 9) hx hb dX2_readsAct_53 (by decide) ?_
            refine zWV (ws1 := [oT t byA len ((adv by_ len u9).1) ((adv by_ len u9).2.1) ((adv by_ len u9).2.2.1) ((adv by_ len u9).2.2.2), aI cI byA 150 by_, oB b n lvA aiA laA (ac + 1) woA drA, aI cI woA 5 (updN wo ac (vN (adv by_ len u))), aR cR drA 5 r, aI cI (r 0) 6 (dr9 0), aI cI (r 1) 6 (dr9 1), aI cI (r 2) 6 (dr9 2), aI cI (r 3) 6 (dr9 3), aI cI (r 4) 6 (dr9 4)]) (As := [.int (nI 9)]) (b := t) (rest := []) hC (c_X2_readsNumber (l := l) (u := u9) (hlen := hlen) (hby := hby) (hu := hw.1)) lM_X2_55 vM_X2_readsNumber (by decide) hK hP hD hS [0, 1] [2, 3, 4, 5, 6, 7, 8, 9] rfl (by decide) rfl rfl rfl rfl ⟨rfl, rfl, rfl⟩ rfl hl.1 rfl (Nat.le_of_ble_eq_true rfl) dX2_readsAct_55 (by decide) (fun H locs hP hD hS => ?_)
            show W _ _ _ _ _ _ _ _ _ _ _ _ _ _ _ (F0 m 58 ls [.int (bI (numOk by_ len u9 (nI 9)))])
            refine zb_ne (tgt := 63) hC dX2_readsAct_58 (by decide) (fun c58 => ?_) (fun c58 => ?_)
            · skip
              refine lv_aload_n hx hb dX2_readsAct_63 rfl (lv_at hl 2 rfl) ?_
              refine lv_iload_n hx hb dX2_readsAct_64 rfl (lv_at hl 0 rfl) ?_
              refine lv_aload_n hx hb dX2_readsAct_65 rfl (lv_at hl 1 rfl) ?_
              refine z_get (k := 5) zcX2 hC hK hP 0 rfl (by decide) lF_X2_28 rfl dX2_readsAct_66 ?_
              refine z_top (show ((adv by_ len u9).2.2.2) = nI (vN (adv by_ len u9)) from by exact (numOk_t hw.1 c58).1) ?_
              refine zWVN (ws1 := [oT t byA len ((adv by_ len u9).1) ((adv by_ len u9).2.1) ((adv by_ len u9).2.2.1) ((adv by_ len u9).2.2.2), aI cI byA 150 by_, oB b n lvA aiA laA (ac + 1) woA drA, aI cI woA 5 (updN wo ac (vN (adv by_ len u))), aR cR drA 5 r, aI cI (r 0) 6 ((updF dr9 (ac + 1 - 1) (updN (dr9 (ac + 1 - 1)) (vN u9) (vN (adv by_ len u9)))) 0), aI cI (r 1) 6 ((updF dr9 (ac + 1 - 1) (updN (dr9 (ac + 1 - 1)) (vN u9) (vN (adv by_ len u9)))) 1), aI cI (r 2) 6 ((updF dr9 (ac + 1 - 1) (updN (dr9 (ac + 1 - 1)) (vN u9) (vN (adv by_ len u9)))) 2), aI cI (r 3) 6 ((updF dr9 (ac + 1 - 1) (updN (dr9 (ac + 1 - 1)) (vN u9) (vN (adv by_ len u9)))) 3), aI cI (r 4) 6 ((updF dr9 (ac + 1 - 1) (updN (dr9 (ac + 1 - 1)) (vN u9) (vN (adv by_ len u9)))) 4)]) (As := [.int (nI (vN u9)), .int (nI (vN (adv by_ len u9)))]) (b := b) (rest := []) hC (c_X1_latestActNeeds (l := l) (hac := by omega) (hac5 := by omega) (hd := by omega) (hn := hn)) lM_X2_71 vM_X1_latestActNeeds (by decide) hK hP hD hS [2, 4, 5, 6, 7, 8, 9] [0, 1, 3] rfl (by decide) rfl rfl rfl rfl ⟨rfl, rfl, rfl⟩ rfl hl.1 rfl (Nat.le_of_ble_eq_true rfl) dX2_readsAct_69 (by decide) (fun H locs hP hD hS => ?_)
              show W _ _ _ _ _ _ _ _ _ _ _ _ _ _ _ (F0 m 72 ls [])
              refine lv_aload_n hx hb dX2_readsAct_72 rfl (lv_at hl 1 rfl) ?_
              refine zWV (ws1 := [oT t byA len ((adv by_ len (adv by_ len u9)).1) ((adv by_ len (adv by_ len u9)).2.1) ((adv by_ len (adv by_ len u9)).2.2.1) ((adv by_ len (adv by_ len u9)).2.2.2), aI cI byA 150 by_, oB b n lvA aiA laA (ac + 1) woA drA, aI cI woA 5 (updN wo ac (vN (adv by_ len u))), aR cR drA 5 r, aI cI (r 0) 6 ((updF dr9 (ac + 1 - 1) (updN (dr9 (ac + 1 - 1)) (vN u9) (vN (adv by_ len u9)))) 0), aI cI (r 1) 6 ((updF dr9 (ac + 1 - 1) (updN (dr9 (ac + 1 - 1)) (vN u9) (vN (adv by_ len u9)))) 1), aI cI (r 2) 6 ((updF dr9 (ac + 1 - 1) (updN (dr9 (ac + 1 - 1)) (vN u9) (vN (adv by_ len u9)))) 2), aI cI (r 3) 6 ((updF dr9 (ac + 1 - 1) (updN (dr9 (ac + 1 - 1)) (vN u9) (vN (adv by_ len u9)))) 3), aI cI (r 4) 6 ((updF dr9 (ac + 1 - 1) (updN (dr9 (ac + 1 - 1)) (vN u9) (vN (adv by_ len u9)))) 4)]) (As := []) (b := t) (rest := []) hC (c_X2_advances (l := l) (hlen := hlen) (hby := hby) (hpl := (adv_wf (by_ := by_) hw.1).1)) lM_X2_31 vM_X2_advances (by decide) hK hP hD hS [0, 1] [2, 3, 4, 5, 6, 7, 8, 9] rfl (by decide) rfl rfl rfl rfl ⟨rfl, rfl, rfl⟩ rfl hl.1 rfl (Nat.le_of_ble_eq_true rfl) dX2_readsAct_73 (by decide) (fun H locs hP hD hS => ?_)
              show W _ _ _ _ _ _ _ _ _ _ _ _ _ _ _ (F0 m 76 ls [])
              refine lv_iinc (v := nI (t9 + 1)) (lv' := [(2, .int (nI (t9 + 1))), (3, .int (nI (vN u9))), (0, .ref t), (1, .ref b)]) hx hb dX2_readsAct_76 hl (k := 3) rfl (z_inc t9 1) (by decide) rfl (fun ls hl => ?_)
              refine lv_goto (tgt := 25) hx hb dX2_readsAct_79 (by decide) ?_
              exact ih25 (6 - (t9 + 1)) (by omega) (t9 + 1) (adv by_ len (adv by_ len u9)) (updF dr9 (ac + 1 - 1) (updN (dr9 (ac + 1 - 1)) (vN u9) (vN (adv by_ len u9)))) rfl (by omega) (by rw [← hq, show 6 - t9 = (6 - (t9 + 1)) + 1 by omega, actL_s, if_pos c36, if_pos c49, if_pos c58]) (by exact adv_wf (adv_wf hw.1).1) _ _ hP hD hS ls (lv_sub hl [2, 3, 0] rfl)
            · skip
              refine lv_iconst (v := nI 0) hx hb dX2_readsAct_61 (by decide) ?_
              refine z_top (y := bI false) rfl ?_
              exact zw_z hC hr hlk hA h0 (by unfold raF; rw [if_pos c6, ← hq, show 6 - t9 = (6 - (t9 + 1)) + 1 by omega, actL_s, if_pos c36, if_pos c49, if_neg (by rw [c58]; decide)]; exact hP) hS (by unfold raF; rw [if_pos c6, ← hq, show 6 - t9 = (6 - (t9 + 1)) + 1 by omega, actL_s, if_pos c36, if_pos c49, if_neg (by rw [c58]; decide)]) dX2_readsAct_62
    exact hL25 _ 0 (adv by_ len (adv by_ len u)) (updF dr ac (cpyN (fun _ => 0) (dr ac) 0 0 6)) rfl (by omega) (by rfl) (by exact adv_wf (adv_wf (by_ := by_) hu).1) _ _ hP hD hS ls (lv_sub hl [1, 2, 0] rfl)
  · skip
    refine lv_iconst (v := nI 0) hx hb dX2_readsAct_9 (by decide) ?_
    refine z_top (y := bI false) rfl ?_
    exact zw_z hC hr hlk hA h0 (by unfold raF; rw [if_neg (by rw [c6]; decide)]; exact hP) hS (by unfold raF; rw [if_neg (by rw [c6]; decide)]) dX2_readsAct_10
end
section
abbrev Bds : Type := Nat × (Nat → Nat) × (Nat → Nat) × (Nat → Nat) × Nat × (Nat → Nat) × (Nat → Nat → Nat)
def itF (by_ : Nat → Nat) (len : Nat) (u : Cu) (D : Bds) : Bool × Cu × Bds :=
  if u.2.1 = 1 then
    (if u.2.2.2 = nI 97 then
      (if D.2.2.2.2.1 < 5 then ((raF by_ len u D.1 D.2.2.2.2.1 D.2.2.2.2.2.1 D.2.2.2.2.2.2).1, (raF by_ len u D.1 D.2.2.2.2.1 D.2.2.2.2.2.1 D.2.2.2.2.2.2).2.1, (D.1, D.2.1, D.2.2.1, D.2.2.2.1, (raF by_ len u D.1 D.2.2.2.2.1 D.2.2.2.2.2.1 D.2.2.2.2.2.2).2.2.1, (raF by_ len u D.1 D.2.2.2.2.1 D.2.2.2.2.2.1 D.2.2.2.2.2.2).2.2.2.1, (raF by_ len u D.1 D.2.2.2.2.1 D.2.2.2.2.2.1 D.2.2.2.2.2.2).2.2.2.2)) else (false, u, D))
    else if u.2.2.2 = nI 100 then
      (if D.1 < 6 then ((rdF by_ len u D.1 D.2.1 D.2.2.1 D.2.2.2.1).1, (rdF by_ len u D.1 D.2.1 D.2.2.1 D.2.2.2.1).2.1, ((rdF by_ len u D.1 D.2.1 D.2.2.1 D.2.2.2.1).2.2.1, (rdF by_ len u D.1 D.2.1 D.2.2.1 D.2.2.2.1).2.2.2.1, (rdF by_ len u D.1 D.2.1 D.2.2.1 D.2.2.2.1).2.2.2.2.1, (rdF by_ len u D.1 D.2.1 D.2.2.1 D.2.2.2.1).2.2.2.2.2, D.2.2.2.2)) else (false, u, D))
    else if u.2.2.2 = nI 120 then ((rxF by_ len u D.1 D.2.2.2.1).1, (rxF by_ len u D.1 D.2.2.2.1).2.1, (D.1, D.2.1, D.2.2.1, (rxF by_ len u D.1 D.2.2.2.1).2.2, D.2.2.2.2))
    else (false, u, D))
  else (false, u, D)
def inL (by_ : Nat → Nat) (len : Nat) : Nat → Nat → Cu → Bds → Bool × Nat × Cu × Bds
  | 0, i, u, D => (true, i, u, D)
  | k + 1, i, u, D => if u.2.1 = 0 then (true, i, u, D) else if (itF by_ len u D).1 = true then inL by_ len k (i + 1) (adv by_ len (itF by_ len u D).2.1) (itF by_ len u D).2.2 else (false, (itF by_ len u D).2.1.2.2.1, (itF by_ len u D).2.1, (itF by_ len u D).2.2)
theorem inL_0 (by_ : Nat → Nat) (len i : Nat) (u : Cu) (D : Bds) : inL by_ len 0 i u D = (true, i, u, D) := rfl
theorem inL_s (by_ : Nat → Nat) (len k i : Nat) (u : Cu) (D : Bds) : inL by_ len (k + 1) i u D = if u.2.1 = 0 then (true, i, u, D) else if (itF by_ len u D).1 = true then inL by_ len k (i + 1) (adv by_ len (itF by_ len u D).2.1) (itF by_ len u D).2.2 else (false, (itF by_ len u D).2.1.2.2.1, (itF by_ len u D).2.1, (itF by_ len u D).2.2) := rfl
theorem actL_wf {by_ : Nat → Nat} {len n a : Nat} : ∀ {k : Nat} {u : Cu} {dr : Nat → Nat → Nat}, wfU len u → wfU len (actL by_ len n a k u dr).2.1
  | 0, u, dr, h => h
  | k + 1, u, dr, h => by
    rw [actL_s]
    by_cases h1 : u.2.1 = 2
    · rw [if_pos h1]
      by_cases h2 : vN u < n
      · rw [if_pos h2]
        by_cases h3 : numOk by_ len u (nI 9) = true
        · rw [if_pos h3]
          exact actL_wf (adv_wf (adv_wf h.1).1)
        · rw [if_neg h3]
          exact adv_wf h.1
      · rw [if_neg h2]; exact h
    · rw [if_neg h1]; exact h
theorem itF_wf {by_ : Nat → Nat} {len : Nat} {u : Cu} {D : Bds} (h : wfU len u) : wfU len (itF by_ len u D).2.1 := by
  have a1 := adv_wf (by_ := by_) h.1
  have a2 := adv_wf (by_ := by_) a1.1
  have a3 := adv_wf (by_ := by_) a2.1
  unfold itF
  by_cases h1 : u.2.1 = 1
  · rw [if_pos h1]
    by_cases h2 : u.2.2.2 = nI 97
    · rw [if_pos h2]
      by_cases h3 : D.2.2.2.2.1 < 5
      · rw [if_pos h3]
        show wfU len (raF _ _ _ _ _ _ _).2.1
        unfold raF
        by_cases h4 : numOk by_ len u (nI 99) = true
        · rw [if_pos h4]; exact actL_wf a2
        · rw [if_neg h4]; exact a1
      · rw [if_neg h3]; exact h
    · rw [if_neg h2]
      by_cases h3 : u.2.2.2 = nI 100
      · rw [if_pos h3]
        by_cases h4 : D.1 < 6
        · rw [if_pos h4]
          show wfU len (rdF _ _ _ _ _ _ _).2.1
          unfold rdF
          by_cases h5 : numOk by_ len u (nI 40) = true
          · rw [if_pos h5]
            by_cases h6 : numOk by_ len (adv by_ len u) (nI 5) = true
            · rw [if_pos h6]; exact a3
            · rw [if_neg h6]; exact a2
          · rw [if_neg h5]; exact a1
        · rw [if_neg h4]; exact h
      · rw [if_neg h3]
        by_cases h4 : u.2.2.2 = nI 120
        · rw [if_pos h4]
          show wfU len (rxF _ _ _ _ _).2.1
          unfold rxF
          by_cases h5 : numOk by_ len u (nI D.1 - nI 1) = true
          · rw [if_pos h5]
            by_cases h6 : numOk by_ len (adv by_ len u) (nI D.1 - nI 1) = true ∧ vN (adv by_ len (adv by_ len u)) ≠ vN (adv by_ len u)
            · rw [if_pos h6]; exact a3
            · rw [if_neg h6]; exact a2
          · rw [if_neg h5]; exact a1
        · rw [if_neg h4]; exact h
  · rw [if_neg h1]; exact h
theorem itF_D {by_ : Nat → Nat} {len : Nat} {u : Cu} {D : Bds} (h : D.1 ≤ 6 ∧ D.2.2.2.2.1 ≤ 5) : (itF by_ len u D).2.2.1 ≤ 6 ∧ (itF by_ len u D).2.2.2.2.2.2.1 ≤ 5 := by
  unfold itF
  by_cases h1 : u.2.1 = 1
  · rw [if_pos h1]
    by_cases h2 : u.2.2.2 = nI 97
    · rw [if_pos h2]
      by_cases h3 : D.2.2.2.2.1 < 5
      · rw [if_pos h3]
        refine ⟨h.1, ?_⟩
        show (raF _ _ _ _ _ _ _).2.2.1 ≤ 5
        unfold raF
        by_cases h4 : numOk by_ len u (nI 99) = true
        · rw [if_pos h4]; exact h3
        · rw [if_neg h4]; exact h.2
      · rw [if_neg h3]; exact h
    · rw [if_neg h2]
      by_cases h3 : u.2.2.2 = nI 100
      · rw [if_pos h3]
        by_cases h4 : D.1 < 6
        · rw [if_pos h4]
          refine ⟨?_, h.2⟩
          show (rdF _ _ _ _ _ _ _).2.2.1 ≤ 6
          unfold rdF
          by_cases h5 : numOk by_ len u (nI 40) = true
          · rw [if_pos h5]
            by_cases h6 : numOk by_ len (adv by_ len u) (nI 5) = true
            · rw [if_pos h6]; exact h4
            · rw [if_neg h6]; exact h.1
          · rw [if_neg h5]; exact h.1
        · rw [if_neg h4]; exact h
      · rw [if_neg h3]
        by_cases h4 : u.2.2.2 = nI 120
        · rw [if_pos h4]; exact h
        · rw [if_neg h4]; exact h
  · rw [if_neg h1]; exact h
set_option maxHeartbeats 1000000 in
set_option maxRecDepth 100000 in
theorem c_X2_readsItem {l : Launch} {D : va_G} {cI cZ cB cR : ClassId} {t byA len : Nat} {u : Cu} {by_ : Nat → Nat} {b : Nat} {n lvA aiA laA ac woA drA : Nat} {bl bla : Nat → Nat} {ai : Nat → Nat} {wo : Nat → Nat} {r : Nat → Nat} {dr : Nat → Nat → Nat}  (hlen : len ≤ 150) (hby : ∀ i, by_ i < 256) (hw : wfU len u) (hn : n ≤ 6) (hac : ac ≤ 5) : mW l yX2_readsItem cX2_readsItem 2 (some .boolean) 4 90 D cI cZ cB cR [oT t byA len u.1 u.2.1 u.2.2.1 u.2.2.2, aI cI byA 150 by_, oB b n lvA aiA laA ac woA drA, aI cI lvA 6 bl, aI cI aiA 6 ai, aI cI laA 6 bla, aI cI woA 5 wo, aR cR drA 5 r, aI cI (r 0) 6 (dr 0), aI cI (r 1) 6 (dr 1), aI cI (r 2) 6 (dr 2), aI cI (r 3) 6 (dr 3), aI cI (r 4) 6 (dr 4)] [oT t byA len (((itF by_ len u (n, bl, ai, bla, ac, wo, dr)).2.1).1) (((itF by_ len u (n, bl, ai, bla, ac, wo, dr)).2.1).2.1) (((itF by_ len u (n, bl, ai, bla, ac, wo, dr)).2.1).2.2.1) (((itF by_ len u (n, bl, ai, bla, ac, wo, dr)).2.1).2.2.2), aI cI byA 150 by_, oB b ((itF by_ len u (n, bl, ai, bla, ac, wo, dr)).2.2.1) lvA aiA laA ((itF by_ len u (n, bl, ai, bla, ac, wo, dr)).2.2.2.2.2.2.1) woA drA, aI cI lvA 6 ((itF by_ len u (n, bl, ai, bla, ac, wo, dr)).2.2.2.1), aI cI aiA 6 ((itF by_ len u (n, bl, ai, bla, ac, wo, dr)).2.2.2.2.1), aI cI laA 6 ((itF by_ len u (n, bl, ai, bla, ac, wo, dr)).2.2.2.2.2.1), aI cI woA 5 ((itF by_ len u (n, bl, ai, bla, ac, wo, dr)).2.2.2.2.2.2.2.1), aR cR drA 5 r, aI cI (r 0) 6 ((itF by_ len u (n, bl, ai, bla, ac, wo, dr)).2.2.2.2.2.2.2.2 0), aI cI (r 1) 6 ((itF by_ len u (n, bl, ai, bla, ac, wo, dr)).2.2.2.2.2.2.2.2 1), aI cI (r 2) 6 ((itF by_ len u (n, bl, ai, bla, ac, wo, dr)).2.2.2.2.2.2.2.2 2), aI cI (r 3) 6 ((itF by_ len u (n, bl, ai, bla, ac, wo, dr)).2.2.2.2.2.2.2.2 3), aI cI (r 4) 6 ((itF by_ len u (n, bl, ai, bla, ac, wo, dr)).2.2.2.2.2.2.2.2 4)] [.ref t, .ref b] (some (.int (bI (itF by_ len u (n, bl, ai, bla, ac, wo, dr)).1))) := by
  refine mW_of rfl (Nat.le_of_ble_eq_true rfl) ?_
  intro p e s m args below meth c hC hr hlk hK A hA hD H0 h0 hP hS ls hl
  have hP : va_P D vwCl [oT t byA len u.1 u.2.1 u.2.2.1 u.2.2.2, aI cI byA 150 by_, oB b n lvA aiA laA ac woA drA, aI cI lvA 6 bl, aI cI aiA 6 ai, aI cI laA 6 bla, aI cI woA 5 wo, aR cR drA 5 r, aI cI (r 0) 6 (dr 0), aI cI (r 1) 6 (dr 1), aI cI (r 2) 6 (dr 2), aI cI (r 3) 6 (dr 3), aI cI (r 4) 6 (dr 4)] H0 := hP
  have hl : lv_has ls 2 [(0, .ref t), (1, .ref b)] := hl
  obtain ⟨hx, hb, hml, hown, hts⟩ := id hC
  refine lv_aload_n hx hb dX2_readsItem_0 rfl (lv_at hl 0 rfl) ?_
  refine z_get (k := 3) zcX2 hC hK hP 0 rfl (by decide) lF_X2_22 rfl dX2_readsItem_1 ?_
  have b4 := hw.2.1
  refine lv_iconst (v := nI 1) hx hb dX2_readsItem_4 (by decide) ?_
  refine zc_eq (tgt := 10) hC dX2_readsItem_5 (by decide) (by omega) (by omega) (fun c5 => ?_) (fun c5 => ?_)
  · skip
    refine lv_aload_n hx hb dX2_readsItem_10 rfl (lv_at hl 0 rfl) ?_
    refine z_get (k := 5) zcX2 hC hK hP 0 rfl (by decide) lF_X2_28 rfl dX2_readsItem_11 ?_
    by_cases k97 : u.2.2.2 = nI 97
    · refine lv_lookup (off := 57) (tgt := 71) hx hb dX2_readsItem_14 (by decide) (by rw [k97]; decide) (by decide) ?_
      refine lv_aload_n hx hb dX2_readsItem_71 rfl (lv_at hl 1 rfl) ?_
      refine z_get (k := 4) zcX1 hC hK hP 2 rfl (by decide) lF_X2_46 rfl dX2_readsItem_72 ?_
      refine lv_iconst (v := nI 5) hx hb dX2_readsItem_75 (by decide) ?_
      refine zc_ge (tgt := 91) hC dX2_readsItem_76 (by decide) (by omega) (by omega) (fun c76 => ?_) (fun c76 => ?_)
      · skip
        refine lv_iconst (v := nI 0) hx hb dX2_readsItem_91 (by decide) ?_
        refine z_top (y := bI false) rfl ?_
        exact zw_z hC hr hlk hA h0 (by unfold itF; rw [if_pos c5, if_pos k97, if_neg (Nat.not_lt.mpr c76)]; exact hP) hS (by unfold itF; rw [if_pos c5, if_pos k97, if_neg (Nat.not_lt.mpr c76)]) dX2_readsItem_92
      · skip
        refine lv_aload_n hx hb dX2_readsItem_79 rfl (lv_at hl 0 rfl) ?_
        refine lv_aload_n hx hb dX2_readsItem_80 rfl (lv_at hl 1 rfl) ?_
        refine zWV (ws1 := [oT t byA len (((raF by_ len u n ac wo dr).2.1).1) (((raF by_ len u n ac wo dr).2.1).2.1) (((raF by_ len u n ac wo dr).2.1).2.2.1) (((raF by_ len u n ac wo dr).2.1).2.2.2), aI cI byA 150 by_, oB b n lvA aiA laA ((raF by_ len u n ac wo dr).2.2.1) woA drA, aI cI lvA 6 bl, aI cI aiA 6 ai, aI cI laA 6 bla, aI cI woA 5 ((raF by_ len u n ac wo dr).2.2.2.1), aR cR drA 5 r, aI cI (r 0) 6 ((raF by_ len u n ac wo dr).2.2.2.2 0), aI cI (r 1) 6 ((raF by_ len u n ac wo dr).2.2.2.2 1), aI cI (r 2) 6 ((raF by_ len u n ac wo dr).2.2.2.2 2), aI cI (r 3) 6 ((raF by_ len u n ac wo dr).2.2.2.2 3), aI cI (r 4) 6 ((raF by_ len u n ac wo dr).2.2.2.2 4)]) (As := [.ref b]) (b := t) (rest := []) hC (c_X2_readsAct (l := l) (u := u) (hlen := hlen) (hby := hby) (hu := hw.1) (hn := hn) (hac := c76)) lM_X2_49 vM_X2_readsAct (by decide) hK hP hD hS [0, 1, 2, 6, 7, 8, 9, 10, 11, 12] [3, 4, 5] rfl (by decide) rfl rfl rfl rfl ⟨rfl, rfl, rfl⟩ rfl hl.1 rfl (Nat.le_of_ble_eq_true rfl) dX2_readsItem_81 (by decide) (fun H locs hP hD hS => ?_)
        show W _ _ _ _ _ _ _ _ _ _ _ _ _ _ _ (F0 m 84 ls [.int (bI ((raF by_ len u n ac wo dr).1))])
        refine zb_eq (tgt := 91) hC dX2_readsItem_84 (by decide) (fun c84 => ?_) (fun c84 => ?_)
        · skip
          refine lv_iconst (v := nI 0) hx hb dX2_readsItem_91 (by decide) ?_
          refine z_top (y := bI false) rfl ?_
          exact zw_z hC hr hlk hA h0 (by unfold itF; rw [if_pos c5, if_pos k97, if_pos c76]; exact hP) hS (by unfold itF; rw [if_pos c5, if_pos k97, if_pos c76]; exact c84.symm) dX2_readsItem_92
        · skip
          refine lv_iconst (v := nI 1) hx hb dX2_readsItem_87 (by decide) ?_
          refine lv_goto (tgt := 92) hx hb dX2_readsItem_88 (by decide) ?_
          refine z_top (y := bI true) rfl ?_
          exact zw_z hC hr hlk hA h0 (by unfold itF; rw [if_pos c5, if_pos k97, if_pos c76]; exact hP) hS (by unfold itF; rw [if_pos c5, if_pos k97, if_pos c76]; exact c84.symm) dX2_readsItem_92
    · skip
      by_cases k100 : u.2.2.2 = nI 100
      · refine lv_lookup (off := 34) (tgt := 48) hx hb dX2_readsItem_14 (by decide) (by rw [k100]; decide) (by decide) ?_
        refine lv_aload_n hx hb dX2_readsItem_48 rfl (lv_at hl 1 rfl) ?_
        refine z_get (k := 0) zcX1 hC hK hP 2 rfl (by decide) lF_X2_38 rfl dX2_readsItem_49 ?_
        refine lv_bipush (v := nI 6) hx hb dX2_readsItem_52 (by decide) ?_
        refine zc_ge (tgt := 69) hC dX2_readsItem_54 (by decide) (by omega) (by omega) (fun c54 => ?_) (fun c54 => ?_)
        · skip
          refine lv_iconst (v := nI 0) hx hb dX2_readsItem_69 (by decide) ?_
          refine z_top (y := bI false) rfl ?_
          exact zw_z hC hr hlk hA h0 (by unfold itF; rw [if_pos c5, if_neg k97, if_pos k100, if_neg (Nat.not_lt.mpr c54)]; exact hP) hS (by unfold itF; rw [if_pos c5, if_neg k97, if_pos k100, if_neg (Nat.not_lt.mpr c54)]) dX2_readsItem_70
        · skip
          refine lv_aload_n hx hb dX2_readsItem_57 rfl (lv_at hl 0 rfl) ?_
          refine lv_aload_n hx hb dX2_readsItem_58 rfl (lv_at hl 1 rfl) ?_
          refine zWV (ws1 := [oT t byA len (((rdF by_ len u n bl ai bla).2.1).1) (((rdF by_ len u n bl ai bla).2.1).2.1) (((rdF by_ len u n bl ai bla).2.1).2.2.1) (((rdF by_ len u n bl ai bla).2.1).2.2.2), aI cI byA 150 by_, oB b ((rdF by_ len u n bl ai bla).2.2.1) lvA aiA laA ac woA drA, aI cI lvA 6 ((rdF by_ len u n bl ai bla).2.2.2.1), aI cI aiA 6 ((rdF by_ len u n bl ai bla).2.2.2.2.1), aI cI laA 6 ((rdF by_ len u n bl ai bla).2.2.2.2.2), aI cI woA 5 wo, aR cR drA 5 r, aI cI (r 0) 6 (dr 0), aI cI (r 1) 6 (dr 1), aI cI (r 2) 6 (dr 2), aI cI (r 3) 6 (dr 3), aI cI (r 4) 6 (dr 4)]) (As := [.ref b]) (b := t) (rest := []) hC (c_X2_readsDecanter (l := l) (u := u) (hlen := hlen) (hby := hby) (hu := hw.1) (hn := c54)) lM_X2_43 vM_X2_readsDecanter (by decide) hK hP hD hS [0, 1, 2, 3, 4, 5] [6, 7, 8, 9, 10, 11, 12] rfl (by decide) rfl rfl rfl rfl ⟨rfl, rfl, rfl⟩ rfl hl.1 rfl (Nat.le_of_ble_eq_true rfl) dX2_readsItem_59 (by decide) (fun H locs hP hD hS => ?_)
          show W _ _ _ _ _ _ _ _ _ _ _ _ _ _ _ (F0 m 62 ls [.int (bI ((rdF by_ len u n bl ai bla).1))])
          refine zb_eq (tgt := 69) hC dX2_readsItem_62 (by decide) (fun c62 => ?_) (fun c62 => ?_)
          · skip
            refine lv_iconst (v := nI 0) hx hb dX2_readsItem_69 (by decide) ?_
            refine z_top (y := bI false) rfl ?_
            exact zw_z hC hr hlk hA h0 (by unfold itF; rw [if_pos c5, if_neg k97, if_pos k100, if_pos c54]; exact hP) hS (by unfold itF; rw [if_pos c5, if_neg k97, if_pos k100, if_pos c54]; exact c62.symm) dX2_readsItem_70
          · skip
            refine lv_iconst (v := nI 1) hx hb dX2_readsItem_65 (by decide) ?_
            refine lv_goto (tgt := 70) hx hb dX2_readsItem_66 (by decide) ?_
            refine z_top (y := bI true) rfl ?_
            exact zw_z hC hr hlk hA h0 (by unfold itF; rw [if_pos c5, if_neg k97, if_pos k100, if_pos c54]; exact hP) hS (by unfold itF; rw [if_pos c5, if_neg k97, if_pos k100, if_pos c54]; exact c62.symm) dX2_readsItem_70
      · skip
        by_cases k120 : u.2.2.2 = nI 120
        · refine lv_lookup (off := 79) (tgt := 93) hx hb dX2_readsItem_14 (by decide) (by rw [k120]; decide) (by decide) ?_
          refine lv_aload_n hx hb dX2_readsItem_93 rfl (lv_at hl 0 rfl) ?_
          refine lv_aload_n hx hb dX2_readsItem_94 rfl (lv_at hl 1 rfl) ?_
          refine zWV (ws1 := [oT t byA len (((rxF by_ len u n bla).2.1).1) (((rxF by_ len u n bla).2.1).2.1) (((rxF by_ len u n bla).2.1).2.2.1) (((rxF by_ len u n bla).2.1).2.2.2), aI cI byA 150 by_, oB b n lvA aiA laA ac woA drA, aI cI lvA 6 bl, aI cI aiA 6 ai, aI cI laA 6 ((rxF by_ len u n bla).2.2), aI cI woA 5 wo, aR cR drA 5 r, aI cI (r 0) 6 (dr 0), aI cI (r 1) 6 (dr 1), aI cI (r 2) 6 (dr 2), aI cI (r 3) 6 (dr 3), aI cI (r 4) 6 (dr 4)]) (As := [.ref b]) (b := t) (rest := []) hC (c_X2_readsExchange (l := l) (u := u) (hlen := hlen) (hby := hby) (hu := hw.1) (hn := hn)) lM_X2_52 vM_X2_readsExchange (by decide) hK hP hD hS [0, 1, 2, 5] [3, 4, 6, 7, 8, 9, 10, 11, 12] rfl (by decide) rfl rfl rfl rfl ⟨rfl, rfl, rfl⟩ rfl hl.1 rfl (Nat.le_of_ble_eq_true rfl) dX2_readsItem_95 (by decide) (fun H locs hP hD hS => ?_)
          show W _ _ _ _ _ _ _ _ _ _ _ _ _ _ _ (F0 m 98 ls [.int (bI ((rxF by_ len u n bla).1))])
          exact zw_z hC hr hlk hA h0 (by unfold itF; rw [if_pos c5, if_neg k97, if_neg k100, if_pos k120]; exact hP) hS (by unfold itF; rw [if_pos c5, if_neg k97, if_neg k100, if_pos k120]) dX2_readsItem_98
        · skip
          refine lv_lookup (off := 85) (tgt := 99) hx hb dX2_readsItem_14 (by decide) (by show Op.lookupswitch.offset [(97, 57), (100, 34), (120, 79)] 85 _ = 85; rw [lv_osw k97 (by decide), lv_osw k100 (by decide), lv_osw k120 (by decide)]; rfl) (by decide) ?_
          refine lv_iconst (v := nI 0) hx hb dX2_readsItem_99 (by decide) ?_
          refine z_top (y := bI false) rfl ?_
          exact zw_z hC hr hlk hA h0 (by unfold itF; rw [if_pos c5, if_neg k97, if_neg k100, if_neg k120]; exact hP) hS (by unfold itF; rw [if_pos c5, if_neg k97, if_neg k100, if_neg k120]) dX2_readsItem_100
  · skip
    refine lv_iconst (v := nI 0) hx hb dX2_readsItem_8 (by decide) ?_
    refine z_top (y := bI false) rfl ?_
    exact zw_z hC hr hlk hA h0 (by unfold itF; rw [if_neg c5]; exact hP) hS (by unfold itF; rw [if_neg c5]) dX2_readsItem_9
set_option maxHeartbeats 1000000 in
set_option maxRecDepth 100000 in
theorem c_X2_readsInto {l : Launch} {D : va_G} {cI cZ cB cR : ClassId} {t byA len : Nat} {u : Cu} {by_ : Nat → Nat} {b : Nat} {n lvA aiA laA ac woA drA : Nat} {bl bla : Nat → Nat} {ai : Nat → Nat} {wo : Nat → Nat} {r : Nat → Nat} {dr : Nat → Nat → Nat}  (hlen : len ≤ 150) (hby : ∀ i, by_ i < 256) (hn : n ≤ 6) (hac : ac ≤ 5) : mW l yX2_readsInto cX2_readsInto 3 (some .int) 5 111 D cI cZ cB cR [oT t byA len u.1 u.2.1 u.2.2.1 u.2.2.2, aI cI byA 150 by_, oB b n lvA aiA laA ac woA drA, aI cI lvA 6 bl, aI cI aiA 6 ai, aI cI laA 6 bla, aI cI woA 5 wo, aR cR drA 5 r, aI cI (r 0) 6 (dr 0), aI cI (r 1) 6 (dr 1), aI cI (r 2) 6 (dr 2), aI cI (r 3) 6 (dr 3), aI cI (r 4) 6 (dr 4)] [oT t byA len (((inL by_ len 150 0 (adv by_ len (0, u.2.1, u.2.2.1, u.2.2.2)) (n, bl, ai, bla, ac, wo, dr)).2.2.1).1) (((inL by_ len 150 0 (adv by_ len (0, u.2.1, u.2.2.1, u.2.2.2)) (n, bl, ai, bla, ac, wo, dr)).2.2.1).2.1) (((inL by_ len 150 0 (adv by_ len (0, u.2.1, u.2.2.1, u.2.2.2)) (n, bl, ai, bla, ac, wo, dr)).2.2.1).2.2.1) (((inL by_ len 150 0 (adv by_ len (0, u.2.1, u.2.2.1, u.2.2.2)) (n, bl, ai, bla, ac, wo, dr)).2.2.1).2.2.2), aI cI byA 150 by_, oB b ((inL by_ len 150 0 (adv by_ len (0, u.2.1, u.2.2.1, u.2.2.2)) (n, bl, ai, bla, ac, wo, dr)).2.2.2.1) lvA aiA laA ((inL by_ len 150 0 (adv by_ len (0, u.2.1, u.2.2.1, u.2.2.2)) (n, bl, ai, bla, ac, wo, dr)).2.2.2.2.2.2.2.1) woA drA, aI cI lvA 6 ((inL by_ len 150 0 (adv by_ len (0, u.2.1, u.2.2.1, u.2.2.2)) (n, bl, ai, bla, ac, wo, dr)).2.2.2.2.1), aI cI aiA 6 ((inL by_ len 150 0 (adv by_ len (0, u.2.1, u.2.2.1, u.2.2.2)) (n, bl, ai, bla, ac, wo, dr)).2.2.2.2.2.1), aI cI laA 6 ((inL by_ len 150 0 (adv by_ len (0, u.2.1, u.2.2.1, u.2.2.2)) (n, bl, ai, bla, ac, wo, dr)).2.2.2.2.2.2.1), aI cI woA 5 ((inL by_ len 150 0 (adv by_ len (0, u.2.1, u.2.2.1, u.2.2.2)) (n, bl, ai, bla, ac, wo, dr)).2.2.2.2.2.2.2.2.1), aR cR drA 5 r, aI cI (r 0) 6 ((inL by_ len 150 0 (adv by_ len (0, u.2.1, u.2.2.1, u.2.2.2)) (n, bl, ai, bla, ac, wo, dr)).2.2.2.2.2.2.2.2.2 0), aI cI (r 1) 6 ((inL by_ len 150 0 (adv by_ len (0, u.2.1, u.2.2.1, u.2.2.2)) (n, bl, ai, bla, ac, wo, dr)).2.2.2.2.2.2.2.2.2 1), aI cI (r 2) 6 ((inL by_ len 150 0 (adv by_ len (0, u.2.1, u.2.2.1, u.2.2.2)) (n, bl, ai, bla, ac, wo, dr)).2.2.2.2.2.2.2.2.2 2), aI cI (r 3) 6 ((inL by_ len 150 0 (adv by_ len (0, u.2.1, u.2.2.1, u.2.2.2)) (n, bl, ai, bla, ac, wo, dr)).2.2.2.2.2.2.2.2.2 3), aI cI (r 4) 6 ((inL by_ len 150 0 (adv by_ len (0, u.2.1, u.2.2.1, u.2.2.2)) (n, bl, ai, bla, ac, wo, dr)).2.2.2.2.2.2.2.2.2 4)] [.ref t, .ref b] (some (.int (if (inL by_ len 150 0 (adv by_ len (0, u.2.1, u.2.2.1, u.2.2.2)) (n, bl, ai, bla, ac, wo, dr)).1 = true then nI (inL by_ len 150 0 (adv by_ len (0, u.2.1, u.2.2.1, u.2.2.2)) (n, bl, ai, bla, ac, wo, dr)).2.1 else -10 - nI (inL by_ len 150 0 (adv by_ len (0, u.2.1, u.2.2.1, u.2.2.2)) (n, bl, ai, bla, ac, wo, dr)).2.1))) := by
  refine mW_of rfl (Nat.le_of_ble_eq_true rfl) ?_
  intro p e s m args below meth c hC hr hlk hK A hA hD H0 h0 hP hS ls hl
  have hP : va_P D vwCl [oT t byA len u.1 u.2.1 u.2.2.1 u.2.2.2, aI cI byA 150 by_, oB b n lvA aiA laA ac woA drA, aI cI lvA 6 bl, aI cI aiA 6 ai, aI cI laA 6 bla, aI cI woA 5 wo, aR cR drA 5 r, aI cI (r 0) 6 (dr 0), aI cI (r 1) 6 (dr 1), aI cI (r 2) 6 (dr 2), aI cI (r 3) 6 (dr 3), aI cI (r 4) 6 (dr 4)] H0 := hP
  have hl : lv_has ls 3 [(0, .ref t), (1, .ref b)] := hl
  obtain ⟨hx, hb, hml, hown, hts⟩ := id hC
  refine lv_aload_n hx hb dX2_readsInto_0 rfl (lv_at hl 0 rfl) ?_
  refine lv_iconst (v := nI 0) hx hb dX2_readsInto_1 (by decide) ?_
  refine z_put (k := 2) zcX2 hC hK hP hD hS 0 rfl (by decide) lF_X2_19 rfl rfl rfl (Nat.le_of_ble_eq_true rfl) dX2_readsInto_2 (fun H locs hP hD hS => ?_)
  have hP : va_P D vwCl [oT t byA len 0 u.2.1 u.2.2.1 u.2.2.2, aI cI byA 150 by_, oB b n lvA aiA laA ac woA drA, aI cI lvA 6 bl, aI cI aiA 6 ai, aI cI laA 6 bla, aI cI woA 5 wo, aR cR drA 5 r, aI cI (r 0) 6 (dr 0), aI cI (r 1) 6 (dr 1), aI cI (r 2) 6 (dr 2), aI cI (r 3) 6 (dr 3), aI cI (r 4) 6 (dr 4)] H := hP
  have hD : va_D A [oT t byA len 0 u.2.1 u.2.2.1 u.2.2.2, aI cI byA 150 by_, oB b n lvA aiA laA ac woA drA, aI cI lvA 6 bl, aI cI aiA 6 ai, aI cI laA 6 bla, aI cI woA 5 wo, aR cR drA 5 r, aI cI (r 0) 6 (dr 0), aI cI (r 1) 6 (dr 1), aI cI (r 2) 6 (dr 2), aI cI (r 3) 6 (dr 3), aI cI (r 4) 6 (dr 4)] := hD
  refine lv_iconst (v := nI 0) hx hb dX2_readsInto_5 (by decide) ?_
  refine lv_istore_n (lv' := [(2, .int (nI 0)), (0, .ref t), (1, .ref b)]) hx hb dX2_readsInto_6 rfl hl (by decide) rfl (fun ls hl => ?_)
  refine lv_aload_n hx hb dX2_readsInto_7 rfl (lv_at hl 1 rfl) ?_
  refine zWV (ws1 := [oT t byA len ((adv by_ len (0, u.2.1, u.2.2.1, u.2.2.2)).1) ((adv by_ len (0, u.2.1, u.2.2.1, u.2.2.2)).2.1) ((adv by_ len (0, u.2.1, u.2.2.1, u.2.2.2)).2.2.1) ((adv by_ len (0, u.2.1, u.2.2.1, u.2.2.2)).2.2.2), aI cI byA 150 by_, oB b n lvA aiA laA ac woA drA, aI cI lvA 6 bl, aI cI aiA 6 ai, aI cI laA 6 bla, aI cI woA 5 wo, aR cR drA 5 r, aI cI (r 0) 6 (dr 0), aI cI (r 1) 6 (dr 1), aI cI (r 2) 6 (dr 2), aI cI (r 3) 6 (dr 3), aI cI (r 4) 6 (dr 4)]) (As := []) (b := t) (rest := []) hC (c_X2_advances (l := l) (hlen := hlen) (hby := hby) (hpl := Nat.zero_le _)) lM_X2_31 vM_X2_advances (by decide) hK hP hD hS [0, 1] [2, 3, 4, 5, 6, 7, 8, 9, 10, 11, 12] rfl (by decide) rfl rfl rfl rfl ⟨rfl, rfl, rfl⟩ rfl hl.1 rfl (Nat.le_of_ble_eq_true rfl) dX2_readsInto_8 (by decide) (fun H locs hP hD hS => ?_)
  show W _ _ _ _ _ _ _ _ _ _ _ _ _ _ _ (F0 m 11 ls [])
  have hL11 : ∀ (z11 : Nat) (i9 : Nat) (u9 : Cu) (D9 : Bds), 150 - i9 = z11 → i9 ≤ 150 → inL by_ len (150 - i9) i9 u9 D9 = inL by_ len 150 0 (adv by_ len (0, u.2.1, u.2.2.1, u.2.2.2)) (n, bl, ai, bla, ac, wo, dr) → wfU len u9 → D9.1 ≤ 6 ∧ D9.2.2.2.2.1 ≤ 5 → ∀ (H : Heap) (locs : List Loc), va_P D vwCl [oT t byA len u9.1 u9.2.1 u9.2.2.1 u9.2.2.2, aI cI byA 150 by_, oB b D9.1 lvA aiA laA D9.2.2.2.2.1 woA drA, aI cI lvA 6 D9.2.1, aI cI aiA 6 D9.2.2.1, aI cI laA 6 D9.2.2.2.1, aI cI woA 5 D9.2.2.2.2.2.1, aR cR drA 5 r, aI cI (r 0) 6 (D9.2.2.2.2.2.2 0), aI cI (r 1) 6 (D9.2.2.2.2.2.2 1), aI cI (r 2) 6 (D9.2.2.2.2.2.2 2), aI cI (r 3) 6 (D9.2.2.2.2.2.2 3), aI cI (r 4) 6 (D9.2.2.2.2.2.2 4)] H → va_D A [oT t byA len u9.1 u9.2.1 u9.2.2.1 u9.2.2.2, aI cI byA 150 by_, oB b D9.1 lvA aiA laA D9.2.2.2.2.1 woA drA, aI cI lvA 6 D9.2.1, aI cI aiA 6 D9.2.2.1, aI cI laA 6 D9.2.2.2.1, aI cI woA 5 D9.2.2.2.2.2.1, aR cR drA 5 r, aI cI (r 0) 6 (D9.2.2.2.2.2.2 0), aI cI (r 1) 6 (D9.2.2.2.2.2.2 1), aI cI (r 2) 6 (D9.2.2.2.2.2.2 2), aI cI (r 3) 6 (D9.2.2.2.2.2.2 3), aI cI (r 4) 6 (D9.2.2.2.2.2.2 4)] → va_S A H0 H locs → ∀ ls : Array Slot, lv_has ls 3 [(0, .ref t), (1, .ref b), (2, .int (nI i9))] → W p l e { frames := 5, cells := 0, slots := 0, locals := 111 } s m args below meth c H locs 0 0 (MQ below (qW D [oT t byA len u.1 u.2.1 u.2.2.1 u.2.2.2, aI cI byA 150 by_, oB b n lvA aiA laA ac woA drA, aI cI lvA 6 bl, aI cI aiA 6 ai, aI cI laA 6 bla, aI cI woA 5 wo, aR cR drA 5 r, aI cI (r 0) 6 (dr 0), aI cI (r 1) 6 (dr 1), aI cI (r 2) 6 (dr 2), aI cI (r 3) 6 (dr 3), aI cI (r 4) 6 (dr 4)] [oT t byA len (((inL by_ len 150 0 (adv by_ len (0, u.2.1, u.2.2.1, u.2.2.2)) (n, bl, ai, bla, ac, wo, dr)).2.2.1).1) (((inL by_ len 150 0 (adv by_ len (0, u.2.1, u.2.2.1, u.2.2.2)) (n, bl, ai, bla, ac, wo, dr)).2.2.1).2.1) (((inL by_ len 150 0 (adv by_ len (0, u.2.1, u.2.2.1, u.2.2.2)) (n, bl, ai, bla, ac, wo, dr)).2.2.1).2.2.1) (((inL by_ len 150 0 (adv by_ len (0, u.2.1, u.2.2.1, u.2.2.2)) (n, bl, ai, bla, ac, wo, dr)).2.2.1).2.2.2), aI cI byA 150 by_, oB b ((inL by_ len 150 0 (adv by_ len (0, u.2.1, u.2.2.1, u.2.2.2)) (n, bl, ai, bla, ac, wo, dr)).2.2.2.1) lvA aiA laA ((inL by_ len 150 0 (adv by_ len (0, u.2.1, u.2.2.1, u.2.2.2)) (n, bl, ai, bla, ac, wo, dr)).2.2.2.2.2.2.2.1) woA drA, aI cI lvA 6 ((inL by_ len 150 0 (adv by_ len (0, u.2.1, u.2.2.1, u.2.2.2)) (n, bl, ai, bla, ac, wo, dr)).2.2.2.2.1), aI cI aiA 6 ((inL by_ len 150 0 (adv by_ len (0, u.2.1, u.2.2.1, u.2.2.2)) (n, bl, ai, bla, ac, wo, dr)).2.2.2.2.2.1), aI cI laA 6 ((inL by_ len 150 0 (adv by_ len (0, u.2.1, u.2.2.1, u.2.2.2)) (n, bl, ai, bla, ac, wo, dr)).2.2.2.2.2.2.1), aI cI woA 5 ((inL by_ len 150 0 (adv by_ len (0, u.2.1, u.2.2.1, u.2.2.2)) (n, bl, ai, bla, ac, wo, dr)).2.2.2.2.2.2.2.2.1), aR cR drA 5 r, aI cI (r 0) 6 ((inL by_ len 150 0 (adv by_ len (0, u.2.1, u.2.2.1, u.2.2.2)) (n, bl, ai, bla, ac, wo, dr)).2.2.2.2.2.2.2.2.2 0), aI cI (r 1) 6 ((inL by_ len 150 0 (adv by_ len (0, u.2.1, u.2.2.1, u.2.2.2)) (n, bl, ai, bla, ac, wo, dr)).2.2.2.2.2.2.2.2.2 1), aI cI (r 2) 6 ((inL by_ len 150 0 (adv by_ len (0, u.2.1, u.2.2.1, u.2.2.2)) (n, bl, ai, bla, ac, wo, dr)).2.2.2.2.2.2.2.2.2 2), aI cI (r 3) 6 ((inL by_ len 150 0 (adv by_ len (0, u.2.1, u.2.2.1, u.2.2.2)) (n, bl, ai, bla, ac, wo, dr)).2.2.2.2.2.2.2.2.2 3), aI cI (r 4) 6 ((inL by_ len 150 0 (adv by_ len (0, u.2.1, u.2.2.1, u.2.2.2)) (n, bl, ai, bla, ac, wo, dr)).2.2.2.2.2.2.2.2.2 4)] (some (.int (if (inL by_ len 150 0 (adv by_ len (0, u.2.1, u.2.2.1, u.2.2.2)) (n, bl, ai, bla, ac, wo, dr)).1 = true then nI (inL by_ len 150 0 (adv by_ len (0, u.2.1, u.2.2.1, u.2.2.2)) (n, bl, ai, bla, ac, wo, dr)).2.1 else -10 - nI (inL by_ len 150 0 (adv by_ len (0, u.2.1, u.2.2.1, u.2.2.2)) (n, bl, ai, bla, ac, wo, dr)).2.1)))) args s 0 0 (zA [oT t byA len u.1 u.2.1 u.2.2.1 u.2.2.2, aI cI byA 150 by_, oB b n lvA aiA laA ac woA drA, aI cI lvA 6 bl, aI cI aiA 6 ai, aI cI laA 6 bla, aI cI woA 5 wo, aR cR drA 5 r, aI cI (r 0) 6 (dr 0), aI cI (r 1) 6 (dr 1), aI cI (r 2) 6 (dr 2), aI cI (r 3) 6 (dr 3), aI cI (r 4) 6 (dr 4)])) (F0 m 11 ls []) := by
    intro z11
    induction z11 using Nat.strongRecOn with
    | _ z11 ih11 =>
    intro i9 u9 D9 hz11 hi hq hw hD9 H locs hP hD hS ls hl
    refine lv_aload_n hx hb dX2_readsInto_11 rfl (lv_at hl 0 rfl) ?_
    refine z_get (k := 3) zcX2 hC hK hP 0 rfl (by decide) lF_X2_22 rfl dX2_readsInto_12 ?_
    have b15 := hw.2.1
    refine z0_eq (tgt := 51) hC dX2_readsInto_15 (by decide) (by omega) (fun c15 => ?_) (fun c15 => ?_)
    · skip
      refine lv_iload_n hx hb dX2_readsInto_51 rfl (lv_at hl 2 rfl) ?_
      exact zw_i hC hr hlk hA h0 (by rw [← hq]; rcases Nat.lt_or_ge i9 150 with h9 | h9; rw [show 150 - i9 = (150 - (i9 + 1)) + 1 by omega, inL_s, if_pos c15]; exact hP; rw [show 150 - i9 = 0 by omega, inL_0]; exact hP) hS (by rw [← hq]; rcases Nat.lt_or_ge i9 150 with h9 | h9; (rw [show 150 - i9 = (150 - (i9 + 1)) + 1 by omega, inL_s, if_pos c15]; rfl); (rw [show 150 - i9 = 0 by omega, inL_0]; rfl)) dX2_readsInto_52
    · skip
      refine lv_iload_n hx hb dX2_readsInto_18 rfl (lv_at hl 2 rfl) ?_
      refine lv_sipush (v := nI 150) hx hb dX2_readsInto_19 (by decide) ?_
      refine zc_ge (tgt := 51) hC dX2_readsInto_22 (by decide) (by omega) (by omega) (fun c22 => ?_) (fun c22 => ?_)
      · skip
        refine lv_iload_n hx hb dX2_readsInto_51 rfl (lv_at hl 2 rfl) ?_
        exact zw_i hC hr hlk hA h0 (by rw [← hq, show 150 - i9 = 0 by omega, inL_0]; exact hP) hS (by rw [← hq, show 150 - i9 = 0 by omega, inL_0]; exact (if_pos rfl).symm) dX2_readsInto_52
      · skip
        refine lv_aload_n hx hb dX2_readsInto_25 rfl (lv_at hl 0 rfl) ?_
        refine lv_aload_n hx hb dX2_readsInto_26 rfl (lv_at hl 1 rfl) ?_
        refine zWV (ws1 := [oT t byA len (((itF by_ len u9 D9).2.1).1) (((itF by_ len u9 D9).2.1).2.1) (((itF by_ len u9 D9).2.1).2.2.1) (((itF by_ len u9 D9).2.1).2.2.2), aI cI byA 150 by_, oB b ((itF by_ len u9 D9).2.2.1) lvA aiA laA ((itF by_ len u9 D9).2.2.2.2.2.2.1) woA drA, aI cI lvA 6 ((itF by_ len u9 D9).2.2.2.1), aI cI aiA 6 ((itF by_ len u9 D9).2.2.2.2.1), aI cI laA 6 ((itF by_ len u9 D9).2.2.2.2.2.1), aI cI woA 5 ((itF by_ len u9 D9).2.2.2.2.2.2.2.1), aR cR drA 5 r, aI cI (r 0) 6 ((itF by_ len u9 D9).2.2.2.2.2.2.2.2 0), aI cI (r 1) 6 ((itF by_ len u9 D9).2.2.2.2.2.2.2.2 1), aI cI (r 2) 6 ((itF by_ len u9 D9).2.2.2.2.2.2.2.2 2), aI cI (r 3) 6 ((itF by_ len u9 D9).2.2.2.2.2.2.2.2 3), aI cI (r 4) 6 ((itF by_ len u9 D9).2.2.2.2.2.2.2.2 4)]) (As := [.ref b]) (b := t) (rest := []) hC (c_X2_readsItem (l := l) (u := u9) (hlen := hlen) (hby := hby) (hw := hw) (hn := hD9.1) (hac := hD9.2)) lM_X2_34 vM_X2_readsItem (by decide) hK hP hD hS [0, 1, 2, 3, 4, 5, 6, 7, 8, 9, 10, 11, 12] [] rfl (by decide) rfl rfl rfl rfl ⟨rfl, rfl, rfl⟩ rfl hl.1 rfl (Nat.le_of_ble_eq_true rfl) dX2_readsInto_27 (by decide) (fun H locs hP hD hS => ?_)
        show W _ _ _ _ _ _ _ _ _ _ _ _ _ _ _ (F0 m 30 ls [.int (bI ((itF by_ len u9 D9).1))])
        refine zb_ne (tgt := 41) hC dX2_readsInto_30 (by decide) (fun c30 => ?_) (fun c30 => ?_)
        · skip
          refine lv_iinc (v := nI (i9 + 1)) (lv' := [(2, .int (nI (i9 + 1))), (0, .ref t), (1, .ref b)]) hx hb dX2_readsInto_41 hl (k := 2) rfl (z_inc i9 1) (by decide) rfl (fun ls hl => ?_)
          refine lv_aload_n hx hb dX2_readsInto_44 rfl (lv_at hl 1 rfl) ?_
          refine zWV (ws1 := [oT t byA len ((adv by_ len (itF by_ len u9 D9).2.1).1) ((adv by_ len (itF by_ len u9 D9).2.1).2.1) ((adv by_ len (itF by_ len u9 D9).2.1).2.2.1) ((adv by_ len (itF by_ len u9 D9).2.1).2.2.2), aI cI byA 150 by_, oB b ((itF by_ len u9 D9).2.2.1) lvA aiA laA ((itF by_ len u9 D9).2.2.2.2.2.2.1) woA drA, aI cI lvA 6 ((itF by_ len u9 D9).2.2.2.1), aI cI aiA 6 ((itF by_ len u9 D9).2.2.2.2.1), aI cI laA 6 ((itF by_ len u9 D9).2.2.2.2.2.1), aI cI woA 5 ((itF by_ len u9 D9).2.2.2.2.2.2.2.1), aR cR drA 5 r, aI cI (r 0) 6 ((itF by_ len u9 D9).2.2.2.2.2.2.2.2 0), aI cI (r 1) 6 ((itF by_ len u9 D9).2.2.2.2.2.2.2.2 1), aI cI (r 2) 6 ((itF by_ len u9 D9).2.2.2.2.2.2.2.2 2), aI cI (r 3) 6 ((itF by_ len u9 D9).2.2.2.2.2.2.2.2 3), aI cI (r 4) 6 ((itF by_ len u9 D9).2.2.2.2.2.2.2.2 4)]) (As := []) (b := t) (rest := []) hC (c_X2_advances (l := l) (hlen := hlen) (hby := hby) (hpl := (itF_wf hw).1)) lM_X2_31 vM_X2_advances (by decide) hK hP hD hS [0, 1] [2, 3, 4, 5, 6, 7, 8, 9, 10, 11, 12] rfl (by decide) rfl rfl rfl rfl ⟨rfl, rfl, rfl⟩ rfl hl.1 rfl (Nat.le_of_ble_eq_true rfl) dX2_readsInto_45 (by decide) (fun H locs hP hD hS => ?_)
          show W _ _ _ _ _ _ _ _ _ _ _ _ _ _ _ (F0 m 48 ls [])
          refine lv_goto (tgt := 11) hx hb dX2_readsInto_48 (by decide) ?_
          exact ih11 (150 - (i9 + 1)) (by omega) (i9 + 1) (adv by_ len (itF by_ len u9 D9).2.1) ((itF by_ len u9 D9).2.2) rfl (by omega) (by rw [← hq, show 150 - i9 = (150 - (i9 + 1)) + 1 by omega, inL_s, if_neg (Nat.pos_iff_ne_zero.mp c15), if_pos c30]) (by exact adv_wf (itF_wf hw).1) (by exact itF_D hD9) _ _ hP hD hS ls (lv_sub hl [1, 2, 0] rfl)
        · skip
          refine lv_bipush (v := (-10)) hx hb dX2_readsInto_33 (by decide) ?_
          refine lv_aload_n hx hb dX2_readsInto_35 rfl (lv_at hl 0 rfl) ?_
          refine z_get (k := 4) zcX2 hC hK hP 0 rfl (by decide) lF_X2_25 rfl dX2_readsInto_36 ?_
          refine lv_isub hx hb dX2_readsInto_39 ?_
          exact zw_i hC hr hlk hA h0 (by rw [← hq, show 150 - i9 = (150 - (i9 + 1)) + 1 by omega, inL_s, if_neg (Nat.pos_iff_ne_zero.mp c15), if_neg (show ¬ (itF by_ len u9 D9).1 = true by rw [c30]; decide)]; exact hP) hS (by rw [← hq, show 150 - i9 = (150 - (i9 + 1)) + 1 by omega, inL_s, if_neg (Nat.pos_iff_ne_zero.mp c15), if_neg (show ¬ (itF by_ len u9 D9).1 = true by rw [c30]; decide)]; exact (if_neg Bool.false_ne_true).symm) dX2_readsInto_40
  exact hL11 _ 0 (adv by_ len (0, u.2.1, u.2.2.1, u.2.2.2)) (n, bl, ai, bla, ac, wo, dr) rfl (by omega) (by rfl) (by exact adv_wf (Nat.zero_le _)) (by exact ⟨hn, hac⟩) _ _ hP hD hS ls (lv_sub hl [1, 2, 0] rfl)
end
