section
-- ===== PART A: goes FIRST, ahead of the names: the tables' words, and 'selects' of the private methods out of them =====
/-- a private method of a class that the tables say can be made, by its rows of tables_1 -/
def lw_okq (q : MethodName × Nat) : Prop := (q.1.cls ≠ "java/lang/invoke/MethodHandle" ∧ q.1.cls ≠ "java/lang/invoke/VarHandle") ∧ Cond.instantiable q.1.cls q.2 ∈ tables_1 ∧ Cond.privateMethod q.1 ∈ tables_1 ∧ Cond.instanceMethod q.1 ∈ tables_1
theorem lw_p0 : lw_okq (⟨"PatienceDesk$Deck", "choose", "(IIIII)V"⟩, 8) := ⟨⟨by decide +kernel, by decide +kernel⟩, List.mem_of_getElem? (i := 22) (by decide +kernel), List.mem_of_getElem? (i := 189) (by decide +kernel), List.mem_of_getElem? (i := 190) (by decide +kernel)⟩
theorem lw_p1 : lw_okq (⟨"PatienceDesk$Deck", "cardOf", "(II)I"⟩, 8) := ⟨⟨by decide +kernel, by decide +kernel⟩, List.mem_of_getElem? (i := 22) (by decide +kernel), List.mem_of_getElem? (i := 193) (by decide +kernel), List.mem_of_getElem? (i := 194) (by decide +kernel)⟩
theorem lw_p2 : lw_okq (⟨"PatienceDesk$Deck", "size", "()I"⟩, 8) := ⟨⟨by decide +kernel, by decide +kernel⟩, List.mem_of_getElem? (i := 22) (by decide +kernel), List.mem_of_getElem? (i := 197) (by decide +kernel), List.mem_of_getElem? (i := 198) (by decide +kernel)⟩
theorem lw_p3 : lw_okq (⟨"PatienceDesk$Deck", "targetsOf", "(I)I"⟩, 8) := ⟨⟨by decide +kernel, by decide +kernel⟩, List.mem_of_getElem? (i := 22) (by decide +kernel), List.mem_of_getElem? (i := 201) (by decide +kernel), List.mem_of_getElem? (i := 202) (by decide +kernel)⟩
theorem lw_p4 : lw_okq (⟨"PatienceDesk$Deck", "lawLets", "(II)Z"⟩, 8) := ⟨⟨by decide +kernel, by decide +kernel⟩, List.mem_of_getElem? (i := 22) (by decide +kernel), List.mem_of_getElem? (i := 205) (by decide +kernel), List.mem_of_getElem? (i := 206) (by decide +kernel)⟩
theorem lw_p5 : lw_okq (⟨"PatienceDesk$Deck", "closesRound", "(II)Z"⟩, 8) := ⟨⟨by decide +kernel, by decide +kernel⟩, List.mem_of_getElem? (i := 22) (by decide +kernel), List.mem_of_getElem? (i := 209) (by decide +kernel), List.mem_of_getElem? (i := 210) (by decide +kernel)⟩
theorem lw_p6 : lw_okq (⟨"PatienceDesk$Deck", "suitsTurn", "(II)Z"⟩, 8) := ⟨⟨by decide +kernel, by decide +kernel⟩, List.mem_of_getElem? (i := 22) (by decide +kernel), List.mem_of_getElem? (i := 213) (by decide +kernel), List.mem_of_getElem? (i := 214) (by decide +kernel)⟩
theorem lw_p7 : lw_okq (⟨"PatienceDesk", "emptyTable", "()V"⟩, 10) := ⟨⟨by decide +kernel, by decide +kernel⟩, List.mem_of_getElem? (i := 14) (by decide +kernel), List.mem_of_getElem? (i := 217) (by decide +kernel), List.mem_of_getElem? (i := 218) (by decide +kernel)⟩
theorem lw_p8 : lw_okq (⟨"PatienceDesk$Stand", "clear", "(I)V"⟩, 7) := ⟨⟨by decide +kernel, by decide +kernel⟩, List.mem_of_getElem? (i := 65) (by decide +kernel), List.mem_of_getElem? (i := 221) (by decide +kernel), List.mem_of_getElem? (i := 222) (by decide +kernel)⟩
theorem lw_p9 : lw_okq (⟨"PatienceDesk$History", "restart", "(LPatienceDesk$Stand;)V"⟩, 4) := ⟨⟨by decide +kernel, by decide +kernel⟩, List.mem_of_getElem? (i := 97) (by decide +kernel), List.mem_of_getElem? (i := 231) (by decide +kernel), List.mem_of_getElem? (i := 232) (by decide +kernel)⟩
theorem lw_p10 : lw_okq (⟨"PatienceDesk$History", "write", "(LPatienceDesk$Stand;)V"⟩, 4) := ⟨⟨by decide +kernel, by decide +kernel⟩, List.mem_of_getElem? (i := 97) (by decide +kernel), List.mem_of_getElem? (i := 235) (by decide +kernel), List.mem_of_getElem? (i := 236) (by decide +kernel)⟩
theorem lw_p11 : lw_okq (⟨"PatienceDesk$Stand", "formKey", "()J"⟩, 7) := ⟨⟨by decide +kernel, by decide +kernel⟩, List.mem_of_getElem? (i := 65) (by decide +kernel), List.mem_of_getElem? (i := 239) (by decide +kernel), List.mem_of_getElem? (i := 240) (by decide +kernel)⟩
theorem lw_p12 : lw_okq (⟨"PatienceDesk$Stand", "sortColumns", "()V"⟩, 7) := ⟨⟨by decide +kernel, by decide +kernel⟩, List.mem_of_getElem? (i := 65) (by decide +kernel), List.mem_of_getElem? (i := 243) (by decide +kernel), List.mem_of_getElem? (i := 244) (by decide +kernel)⟩
theorem lw_p13 : lw_okq (⟨"PatienceDesk$Stand", "inOrder", "(I)I"⟩, 7) := ⟨⟨by decide +kernel, by decide +kernel⟩, List.mem_of_getElem? (i := 65) (by decide +kernel), List.mem_of_getElem? (i := 247) (by decide +kernel), List.mem_of_getElem? (i := 248) (by decide +kernel)⟩
theorem lw_p14 : lw_okq (⟨"PatienceDesk$Stand", "arrangement", "()I"⟩, 7) := ⟨⟨by decide +kernel, by decide +kernel⟩, List.mem_of_getElem? (i := 65) (by decide +kernel), List.mem_of_getElem? (i := 257) (by decide +kernel), List.mem_of_getElem? (i := 258) (by decide +kernel)⟩
theorem lw_p15 : lw_okq (⟨"PatienceDesk", "isColumn", "(I)Z"⟩, 10) := ⟨⟨by decide +kernel, by decide +kernel⟩, List.mem_of_getElem? (i := 14) (by decide +kernel), List.mem_of_getElem? (i := 304) (by decide +kernel), List.mem_of_getElem? (i := 305) (by decide +kernel)⟩
def lw_privs_1 : List (MethodName × Nat) := [(⟨"PatienceDesk$Deck", "choose", "(IIIII)V"⟩, 8), (⟨"PatienceDesk$Deck", "cardOf", "(II)I"⟩, 8), (⟨"PatienceDesk$Deck", "size", "()I"⟩, 8), (⟨"PatienceDesk$Deck", "targetsOf", "(I)I"⟩, 8), (⟨"PatienceDesk$Deck", "lawLets", "(II)Z"⟩, 8), (⟨"PatienceDesk$Deck", "closesRound", "(II)Z"⟩, 8), (⟨"PatienceDesk$Deck", "suitsTurn", "(II)Z"⟩, 8), (⟨"PatienceDesk", "emptyTable", "()V"⟩, 10), (⟨"PatienceDesk$Stand", "clear", "(I)V"⟩, 7), (⟨"PatienceDesk$History", "restart", "(LPatienceDesk$Stand;)V"⟩, 4), (⟨"PatienceDesk$History", "write", "(LPatienceDesk$Stand;)V"⟩, 4), (⟨"PatienceDesk$Stand", "formKey", "()J"⟩, 7), (⟨"PatienceDesk$Stand", "sortColumns", "()V"⟩, 7), (⟨"PatienceDesk$Stand", "inOrder", "(I)I"⟩, 7), (⟨"PatienceDesk$Stand", "arrangement", "()I"⟩, 7), (⟨"PatienceDesk", "isColumn", "(I)Z"⟩, 10)]
theorem lw_r1 : ∀ q ∈ lw_privs_1, lw_okq q := List.forall_mem_cons.mpr ⟨lw_p0, List.forall_mem_cons.mpr ⟨lw_p1, List.forall_mem_cons.mpr ⟨lw_p2, List.forall_mem_cons.mpr ⟨lw_p3, List.forall_mem_cons.mpr ⟨lw_p4, List.forall_mem_cons.mpr ⟨lw_p5, List.forall_mem_cons.mpr ⟨lw_p6, List.forall_mem_cons.mpr ⟨lw_p7, List.forall_mem_cons.mpr ⟨lw_p8, List.forall_mem_cons.mpr ⟨lw_p9, List.forall_mem_cons.mpr ⟨lw_p10, List.forall_mem_cons.mpr ⟨lw_p11, List.forall_mem_cons.mpr ⟨lw_p12, List.forall_mem_cons.mpr ⟨lw_p13, List.forall_mem_cons.mpr ⟨lw_p14, List.forall_mem_cons.mpr ⟨lw_p15, fun _ h => absurd h List.not_mem_nil⟩⟩⟩⟩⟩⟩⟩⟩⟩⟩⟩⟩⟩⟩⟩⟩
theorem lw_p16 : lw_okq (⟨"PatienceDesk$Deck", "has", "(II)Z"⟩, 8) := ⟨⟨by decide +kernel, by decide +kernel⟩, List.mem_of_getElem? (i := 22) (by decide +kernel), List.mem_of_getElem? (i := 308) (by decide +kernel), List.mem_of_getElem? (i := 309) (by decide +kernel)⟩
theorem lw_p17 : lw_okq (⟨"PatienceDesk$Stand", "push", "(II)V"⟩, 7) := ⟨⟨by decide +kernel, by decide +kernel⟩, List.mem_of_getElem? (i := 65) (by decide +kernel), List.mem_of_getElem? (i := 314) (by decide +kernel), List.mem_of_getElem? (i := 315) (by decide +kernel)⟩
theorem lw_p18 : lw_okq (⟨"PatienceDesk$Stand", "insert", "(III)V"⟩, 7) := ⟨⟨by decide +kernel, by decide +kernel⟩, List.mem_of_getElem? (i := 65) (by decide +kernel), List.mem_of_getElem? (i := 329) (by decide +kernel), List.mem_of_getElem? (i := 330) (by decide +kernel)⟩
theorem lw_p19 : lw_okq (⟨"PatienceDesk$Stand", "isNamed", "(II)Z"⟩, 7) := ⟨⟨by decide +kernel, by decide +kernel⟩, List.mem_of_getElem? (i := 65) (by decide +kernel), List.mem_of_getElem? (i := 337) (by decide +kernel), List.mem_of_getElem? (i := 338) (by decide +kernel)⟩
theorem lw_p20 : lw_okq (⟨"PatienceDesk", "allLaid", "()Z"⟩, 10) := ⟨⟨by decide +kernel, by decide +kernel⟩, List.mem_of_getElem? (i := 14) (by decide +kernel), List.mem_of_getElem? (i := 342) (by decide +kernel), List.mem_of_getElem? (i := 343) (by decide +kernel)⟩
theorem lw_p21 : lw_okq (⟨"PatienceDesk$Stand", "whyNot", "(II)I"⟩, 7) := ⟨⟨by decide +kernel, by decide +kernel⟩, List.mem_of_getElem? (i := 65) (by decide +kernel), List.mem_of_getElem? (i := 346) (by decide +kernel), List.mem_of_getElem? (i := 347) (by decide +kernel)⟩
theorem lw_p22 : lw_okq (⟨"PatienceDesk$Stand", "cardFrom", "(I)I"⟩, 7) := ⟨⟨by decide +kernel, by decide +kernel⟩, List.mem_of_getElem? (i := 65) (by decide +kernel), List.mem_of_getElem? (i := 350) (by decide +kernel), List.mem_of_getElem? (i := 351) (by decide +kernel)⟩
theorem lw_p23 : lw_okq (⟨"PatienceDesk$Stand", "lastOf", "(I)I"⟩, 7) := ⟨⟨by decide +kernel, by decide +kernel⟩, List.mem_of_getElem? (i := 65) (by decide +kernel), List.mem_of_getElem? (i := 354) (by decide +kernel), List.mem_of_getElem? (i := 355) (by decide +kernel)⟩
theorem lw_p24 : lw_okq (⟨"PatienceDesk$Stand", "firstFreeCell", "()I"⟩, 7) := ⟨⟨by decide +kernel, by decide +kernel⟩, List.mem_of_getElem? (i := 65) (by decide +kernel), List.mem_of_getElem? (i := 358) (by decide +kernel), List.mem_of_getElem? (i := 359) (by decide +kernel)⟩
theorem lw_p25 : lw_okq (⟨"PatienceDesk$Stand", "isNextInHouse", "(I)Z"⟩, 7) := ⟨⟨by decide +kernel, by decide +kernel⟩, List.mem_of_getElem? (i := 65) (by decide +kernel), List.mem_of_getElem? (i := 362) (by decide +kernel), List.mem_of_getElem? (i := 363) (by decide +kernel)⟩
theorem lw_p26 : lw_okq (⟨"PatienceDesk$Deck", "allows", "(II)Z"⟩, 8) := ⟨⟨by decide +kernel, by decide +kernel⟩, List.mem_of_getElem? (i := 22) (by decide +kernel), List.mem_of_getElem? (i := 366) (by decide +kernel), List.mem_of_getElem? (i := 367) (by decide +kernel)⟩
theorem lw_p27 : lw_okq (⟨"PatienceDesk$Stand", "shift", "(II)I"⟩, 7) := ⟨⟨by decide +kernel, by decide +kernel⟩, List.mem_of_getElem? (i := 65) (by decide +kernel), List.mem_of_getElem? (i := 370) (by decide +kernel), List.mem_of_getElem? (i := 371) (by decide +kernel)⟩
theorem lw_p28 : lw_okq (⟨"PatienceDesk$Stand", "pop", "(I)V"⟩, 7) := ⟨⟨by decide +kernel, by decide +kernel⟩, List.mem_of_getElem? (i := 65) (by decide +kernel), List.mem_of_getElem? (i := 374) (by decide +kernel), List.mem_of_getElem? (i := 375) (by decide +kernel)⟩
theorem lw_p29 : lw_okq (⟨"PatienceDesk$Stand", "fillFreeCell", "(I)V"⟩, 7) := ⟨⟨by decide +kernel, by decide +kernel⟩, List.mem_of_getElem? (i := 65) (by decide +kernel), List.mem_of_getElem? (i := 378) (by decide +kernel), List.mem_of_getElem? (i := 379) (by decide +kernel)⟩
theorem lw_p30 : lw_okq (⟨"PatienceDesk$History", "keep", "(LPatienceDesk$Stand;)V"⟩, 4) := ⟨⟨by decide +kernel, by decide +kernel⟩, List.mem_of_getElem? (i := 97) (by decide +kernel), List.mem_of_getElem? (i := 383) (by decide +kernel), List.mem_of_getElem? (i := 384) (by decide +kernel)⟩
theorem lw_p31 : lw_okq (⟨"PatienceDesk$Stand", "canShiftRow", "(III)Z"⟩, 7) := ⟨⟨by decide +kernel, by decide +kernel⟩, List.mem_of_getElem? (i := 65) (by decide +kernel), List.mem_of_getElem? (i := 398) (by decide +kernel), List.mem_of_getElem? (i := 399) (by decide +kernel)⟩
def lw_privs_2 : List (MethodName × Nat) := [(⟨"PatienceDesk$Deck", "has", "(II)Z"⟩, 8), (⟨"PatienceDesk$Stand", "push", "(II)V"⟩, 7), (⟨"PatienceDesk$Stand", "insert", "(III)V"⟩, 7), (⟨"PatienceDesk$Stand", "isNamed", "(II)Z"⟩, 7), (⟨"PatienceDesk", "allLaid", "()Z"⟩, 10), (⟨"PatienceDesk$Stand", "whyNot", "(II)I"⟩, 7), (⟨"PatienceDesk$Stand", "cardFrom", "(I)I"⟩, 7), (⟨"PatienceDesk$Stand", "lastOf", "(I)I"⟩, 7), (⟨"PatienceDesk$Stand", "firstFreeCell", "()I"⟩, 7), (⟨"PatienceDesk$Stand", "isNextInHouse", "(I)Z"⟩, 7), (⟨"PatienceDesk$Deck", "allows", "(II)Z"⟩, 8), (⟨"PatienceDesk$Stand", "shift", "(II)I"⟩, 7), (⟨"PatienceDesk$Stand", "pop", "(I)V"⟩, 7), (⟨"PatienceDesk$Stand", "fillFreeCell", "(I)V"⟩, 7), (⟨"PatienceDesk$History", "keep", "(LPatienceDesk$Stand;)V"⟩, 4), (⟨"PatienceDesk$Stand", "canShiftRow", "(III)Z"⟩, 7)]
theorem lw_r2 : ∀ q ∈ lw_privs_2, lw_okq q := List.forall_mem_cons.mpr ⟨lw_p16, List.forall_mem_cons.mpr ⟨lw_p17, List.forall_mem_cons.mpr ⟨lw_p18, List.forall_mem_cons.mpr ⟨lw_p19, List.forall_mem_cons.mpr ⟨lw_p20, List.forall_mem_cons.mpr ⟨lw_p21, List.forall_mem_cons.mpr ⟨lw_p22, List.forall_mem_cons.mpr ⟨lw_p23, List.forall_mem_cons.mpr ⟨lw_p24, List.forall_mem_cons.mpr ⟨lw_p25, List.forall_mem_cons.mpr ⟨lw_p26, List.forall_mem_cons.mpr ⟨lw_p27, List.forall_mem_cons.mpr ⟨lw_p28, List.forall_mem_cons.mpr ⟨lw_p29, List.forall_mem_cons.mpr ⟨lw_p30, List.forall_mem_cons.mpr ⟨lw_p31, fun _ h => absurd h List.not_mem_nil⟩⟩⟩⟩⟩⟩⟩⟩⟩⟩⟩⟩⟩⟩⟩⟩
theorem lw_p32 : lw_okq (⟨"PatienceDesk$Stand", "longestRow", "(II)I"⟩, 7) := ⟨⟨by decide +kernel, by decide +kernel⟩, List.mem_of_getElem? (i := 65) (by decide +kernel), List.mem_of_getElem? (i := 402) (by decide +kernel), List.mem_of_getElem? (i := 403) (by decide +kernel)⟩
theorem lw_p33 : lw_okq (⟨"PatienceDesk$Stand", "freeCells", "()I"⟩, 7) := ⟨⟨by decide +kernel, by decide +kernel⟩, List.mem_of_getElem? (i := 65) (by decide +kernel), List.mem_of_getElem? (i := 406) (by decide +kernel), List.mem_of_getElem? (i := 407) (by decide +kernel)⟩
theorem lw_p34 : lw_okq (⟨"PatienceDesk$Stand", "cardAt", "(II)I"⟩, 7) := ⟨⟨by decide +kernel, by decide +kernel⟩, List.mem_of_getElem? (i := 65) (by decide +kernel), List.mem_of_getElem? (i := 410) (by decide +kernel), List.mem_of_getElem? (i := 411) (by decide +kernel)⟩
theorem lw_p35 : lw_okq (⟨"PatienceDesk$Stand", "shiftRow", "(III)V"⟩, 7) := ⟨⟨by decide +kernel, by decide +kernel⟩, List.mem_of_getElem? (i := 65) (by decide +kernel), List.mem_of_getElem? (i := 414) (by decide +kernel), List.mem_of_getElem? (i := 415) (by decide +kernel)⟩
theorem lw_p36 : lw_okq (⟨"PatienceDesk$Stand", "sendSafeCard", "()Z"⟩, 7) := ⟨⟨by decide +kernel, by decide +kernel⟩, List.mem_of_getElem? (i := 65) (by decide +kernel), List.mem_of_getElem? (i := 422) (by decide +kernel), List.mem_of_getElem? (i := 423) (by decide +kernel)⟩
theorem lw_p37 : lw_okq (⟨"PatienceDesk$Stand", "isSafe", "(I)Z"⟩, 7) := ⟨⟨by decide +kernel, by decide +kernel⟩, List.mem_of_getElem? (i := 65) (by decide +kernel), List.mem_of_getElem? (i := 428) (by decide +kernel), List.mem_of_getElem? (i := 429) (by decide +kernel)⟩
theorem lw_p38 : lw_okq (⟨"PatienceDesk$History", "goBack", "(LPatienceDesk$Stand;)Z"⟩, 4) := ⟨⟨by decide +kernel, by decide +kernel⟩, List.mem_of_getElem? (i := 97) (by decide +kernel), List.mem_of_getElem? (i := 438) (by decide +kernel), List.mem_of_getElem? (i := 439) (by decide +kernel)⟩
theorem lw_p39 : lw_okq (⟨"PatienceDesk$Stand", "unpack", "(JI)V"⟩, 7) := ⟨⟨by decide +kernel, by decide +kernel⟩, List.mem_of_getElem? (i := 65) (by decide +kernel), List.mem_of_getElem? (i := 442) (by decide +kernel), List.mem_of_getElem? (i := 443) (by decide +kernel)⟩
theorem lw_p40 : lw_okq (⟨"PatienceDesk$Stand", "takeFromHouse", "(I)V"⟩, 7) := ⟨⟨by decide +kernel, by decide +kernel⟩, List.mem_of_getElem? (i := 65) (by decide +kernel), List.mem_of_getElem? (i := 447) (by decide +kernel), List.mem_of_getElem? (i := 448) (by decide +kernel)⟩
theorem lw_p41 : lw_okq (⟨"PatienceDesk$History", "goOn", "(LPatienceDesk$Stand;)Z"⟩, 4) := ⟨⟨by decide +kernel, by decide +kernel⟩, List.mem_of_getElem? (i := 97) (by decide +kernel), List.mem_of_getElem? (i := 455) (by decide +kernel), List.mem_of_getElem? (i := 456) (by decide +kernel)⟩
theorem lw_p42 : lw_okq (⟨"PatienceDesk$Stand", "cardsInHouses", "()I"⟩, 7) := ⟨⟨by decide +kernel, by decide +kernel⟩, List.mem_of_getElem? (i := 65) (by decide +kernel), List.mem_of_getElem? (i := 463) (by decide +kernel), List.mem_of_getElem? (i := 464) (by decide +kernel)⟩
theorem lw_p43 : lw_okq (⟨"PatienceDesk$Stand", "emptyColumns", "()I"⟩, 7) := ⟨⟨by decide +kernel, by decide +kernel⟩, List.mem_of_getElem? (i := 65) (by decide +kernel), List.mem_of_getElem? (i := 468) (by decide +kernel), List.mem_of_getElem? (i := 469) (by decide +kernel)⟩
theorem lw_p44 : lw_okq (⟨"PatienceDesk$Stand", "buriedCards", "()I"⟩, 7) := ⟨⟨by decide +kernel, by decide +kernel⟩, List.mem_of_getElem? (i := 65) (by decide +kernel), List.mem_of_getElem? (i := 472) (by decide +kernel), List.mem_of_getElem? (i := 473) (by decide +kernel)⟩
theorem lw_p45 : lw_okq (⟨"PatienceDesk$Stand", "isBuried", "(II)Z"⟩, 7) := ⟨⟨by decide +kernel, by decide +kernel⟩, List.mem_of_getElem? (i := 65) (by decide +kernel), List.mem_of_getElem? (i := 476) (by decide +kernel), List.mem_of_getElem? (i := 477) (by decide +kernel)⟩
theorem lw_p46 : lw_okq (⟨"PatienceDesk$Stand", "possibleMoves", "()I"⟩, 7) := ⟨⟨by decide +kernel, by decide +kernel⟩, List.mem_of_getElem? (i := 65) (by decide +kernel), List.mem_of_getElem? (i := 480) (by decide +kernel), List.mem_of_getElem? (i := 481) (by decide +kernel)⟩
theorem lw_p47 : lw_okq (⟨"PatienceDesk$History", "canGoBack", "()I"⟩, 4) := ⟨⟨by decide +kernel, by decide +kernel⟩, List.mem_of_getElem? (i := 97) (by decide +kernel), List.mem_of_getElem? (i := 484) (by decide +kernel), List.mem_of_getElem? (i := 485) (by decide +kernel)⟩
def lw_privs_3 : List (MethodName × Nat) := [(⟨"PatienceDesk$Stand", "longestRow", "(II)I"⟩, 7), (⟨"PatienceDesk$Stand", "freeCells", "()I"⟩, 7), (⟨"PatienceDesk$Stand", "cardAt", "(II)I"⟩, 7), (⟨"PatienceDesk$Stand", "shiftRow", "(III)V"⟩, 7), (⟨"PatienceDesk$Stand", "sendSafeCard", "()Z"⟩, 7), (⟨"PatienceDesk$Stand", "isSafe", "(I)Z"⟩, 7), (⟨"PatienceDesk$History", "goBack", "(LPatienceDesk$Stand;)Z"⟩, 4), (⟨"PatienceDesk$Stand", "unpack", "(JI)V"⟩, 7), (⟨"PatienceDesk$Stand", "takeFromHouse", "(I)V"⟩, 7), (⟨"PatienceDesk$History", "goOn", "(LPatienceDesk$Stand;)Z"⟩, 4), (⟨"PatienceDesk$Stand", "cardsInHouses", "()I"⟩, 7), (⟨"PatienceDesk$Stand", "emptyColumns", "()I"⟩, 7), (⟨"PatienceDesk$Stand", "buriedCards", "()I"⟩, 7), (⟨"PatienceDesk$Stand", "isBuried", "(II)Z"⟩, 7), (⟨"PatienceDesk$Stand", "possibleMoves", "()I"⟩, 7), (⟨"PatienceDesk$History", "canGoBack", "()I"⟩, 4)]
theorem lw_r3 : ∀ q ∈ lw_privs_3, lw_okq q := List.forall_mem_cons.mpr ⟨lw_p32, List.forall_mem_cons.mpr ⟨lw_p33, List.forall_mem_cons.mpr ⟨lw_p34, List.forall_mem_cons.mpr ⟨lw_p35, List.forall_mem_cons.mpr ⟨lw_p36, List.forall_mem_cons.mpr ⟨lw_p37, List.forall_mem_cons.mpr ⟨lw_p38, List.forall_mem_cons.mpr ⟨lw_p39, List.forall_mem_cons.mpr ⟨lw_p40, List.forall_mem_cons.mpr ⟨lw_p41, List.forall_mem_cons.mpr ⟨lw_p42, List.forall_mem_cons.mpr ⟨lw_p43, List.forall_mem_cons.mpr ⟨lw_p44, List.forall_mem_cons.mpr ⟨lw_p45, List.forall_mem_cons.mpr ⟨lw_p46, List.forall_mem_cons.mpr ⟨lw_p47, fun _ h => absurd h List.not_mem_nil⟩⟩⟩⟩⟩⟩⟩⟩⟩⟩⟩⟩⟩⟩⟩⟩
theorem lw_p48 : lw_okq (⟨"PatienceDesk$Stand", "isDone", "()Z"⟩, 7) := ⟨⟨by decide +kernel, by decide +kernel⟩, List.mem_of_getElem? (i := 65) (by decide +kernel), List.mem_of_getElem? (i := 488) (by decide +kernel), List.mem_of_getElem? (i := 489) (by decide +kernel)⟩
theorem lw_p49 : lw_okq (⟨"PatienceDesk$Deck", "codeOf", "(I)I"⟩, 8) := ⟨⟨by decide +kernel, by decide +kernel⟩, List.mem_of_getElem? (i := 22) (by decide +kernel), List.mem_of_getElem? (i := 499) (by decide +kernel), List.mem_of_getElem? (i := 500) (by decide +kernel)⟩
theorem lw_p50 : lw_okq (⟨"PatienceDesk$Deck", "hasCode", "(I)Z"⟩, 8) := ⟨⟨by decide +kernel, by decide +kernel⟩, List.mem_of_getElem? (i := 22) (by decide +kernel), List.mem_of_getElem? (i := 515) (by decide +kernel), List.mem_of_getElem? (i := 516) (by decide +kernel)⟩
theorem lw_p51 : lw_okq (⟨"PatienceDesk$Deck", "cardOfCode", "(I)I"⟩, 8) := ⟨⟨by decide +kernel, by decide +kernel⟩, List.mem_of_getElem? (i := 22) (by decide +kernel), List.mem_of_getElem? (i := 520) (by decide +kernel), List.mem_of_getElem? (i := 521) (by decide +kernel)⟩
theorem lw_p52 : lw_okq (⟨"PatienceDesk$Search", "fewestMoves", "(LPatienceDesk$Stand;II)I"⟩, 9) := ⟨⟨by decide +kernel, by decide +kernel⟩, List.mem_of_getElem? (i := 118) (by decide +kernel), List.mem_of_getElem? (i := 529) (by decide +kernel), List.mem_of_getElem? (i := 530) (by decide +kernel)⟩
theorem lw_p53 : lw_okq (⟨"PatienceDesk$Search", "restart", "(LPatienceDesk$Stand;II)V"⟩, 9) := ⟨⟨by decide +kernel, by decide +kernel⟩, List.mem_of_getElem? (i := 118) (by decide +kernel), List.mem_of_getElem? (i := 534) (by decide +kernel), List.mem_of_getElem? (i := 535) (by decide +kernel)⟩
theorem lw_p54 : lw_okq (⟨"PatienceDesk$Search", "meet", "(II)V"⟩, 9) := ⟨⟨by decide +kernel, by decide +kernel⟩, List.mem_of_getElem? (i := 118) (by decide +kernel), List.mem_of_getElem? (i := 545) (by decide +kernel), List.mem_of_getElem? (i := 546) (by decide +kernel)⟩
theorem lw_p55 : lw_okq (⟨"PatienceDesk$Search", "isMet", "(JI)Z"⟩, 9) := ⟨⟨by decide +kernel, by decide +kernel⟩, List.mem_of_getElem? (i := 118) (by decide +kernel), List.mem_of_getElem? (i := 550) (by decide +kernel), List.mem_of_getElem? (i := 551) (by decide +kernel)⟩
theorem lw_p56 : lw_okq (⟨"PatienceDesk$Search", "leadsToEnd", "(I)Z"⟩, 9) := ⟨⟨by decide +kernel, by decide +kernel⟩, List.mem_of_getElem? (i := 118) (by decide +kernel), List.mem_of_getElem? (i := 554) (by decide +kernel), List.mem_of_getElem? (i := 555) (by decide +kernel)⟩
theorem lw_p57 : lw_okq (⟨"PatienceDesk$Search", "endsBy", "(III)Z"⟩, 9) := ⟨⟨by decide +kernel, by decide +kernel⟩, List.mem_of_getElem? (i := 118) (by decide +kernel), List.mem_of_getElem? (i := 561) (by decide +kernel), List.mem_of_getElem? (i := 562) (by decide +kernel)⟩
theorem lw_p58 : lw_okq (⟨"PatienceDesk$Stand", "shiftBack", "(III)V"⟩, 7) := ⟨⟨by decide +kernel, by decide +kernel⟩, List.mem_of_getElem? (i := 65) (by decide +kernel), List.mem_of_getElem? (i := 566) (by decide +kernel), List.mem_of_getElem? (i := 567) (by decide +kernel)⟩
theorem lw_p59 : lw_okq (⟨"PatienceDesk$Stand", "emptyCellOf", "(I)V"⟩, 7) := ⟨⟨by decide +kernel, by decide +kernel⟩, List.mem_of_getElem? (i := 65) (by decide +kernel), List.mem_of_getElem? (i := 570) (by decide +kernel), List.mem_of_getElem? (i := 571) (by decide +kernel)⟩
theorem lw_p60 : lw_okq (⟨"PatienceDesk$Search", "writePlan", "(LPatienceDesk$Plan;I)V"⟩, 9) := ⟨⟨by decide +kernel, by decide +kernel⟩, List.mem_of_getElem? (i := 118) (by decide +kernel), List.mem_of_getElem? (i := 574) (by decide +kernel), List.mem_of_getElem? (i := 575) (by decide +kernel)⟩
theorem lw_p61 : lw_okq (⟨"PatienceDesk$Plan", "write", "(II)V"⟩, 2) := ⟨⟨by decide +kernel, by decide +kernel⟩, List.mem_of_getElem? (i := 155) (by decide +kernel), List.mem_of_getElem? (i := 578) (by decide +kernel), List.mem_of_getElem? (i := 579) (by decide +kernel)⟩
theorem lw_p62 : lw_okq (⟨"PatienceDesk$Plan", "fromAt", "(I)I"⟩, 2) := ⟨⟨by decide +kernel, by decide +kernel⟩, List.mem_of_getElem? (i := 155) (by decide +kernel), List.mem_of_getElem? (i := 588) (by decide +kernel), List.mem_of_getElem? (i := 589) (by decide +kernel)⟩
theorem lw_p63 : lw_okq (⟨"PatienceDesk$Plan", "moveAt", "(I)I"⟩, 2) := ⟨⟨by decide +kernel, by decide +kernel⟩, List.mem_of_getElem? (i := 155) (by decide +kernel), List.mem_of_getElem? (i := 592) (by decide +kernel), List.mem_of_getElem? (i := 593) (by decide +kernel)⟩
def lw_privs_4 : List (MethodName × Nat) := [(⟨"PatienceDesk$Stand", "isDone", "()Z"⟩, 7), (⟨"PatienceDesk$Deck", "codeOf", "(I)I"⟩, 8), (⟨"PatienceDesk$Deck", "hasCode", "(I)Z"⟩, 8), (⟨"PatienceDesk$Deck", "cardOfCode", "(I)I"⟩, 8), (⟨"PatienceDesk$Search", "fewestMoves", "(LPatienceDesk$Stand;II)I"⟩, 9), (⟨"PatienceDesk$Search", "restart", "(LPatienceDesk$Stand;II)V"⟩, 9), (⟨"PatienceDesk$Search", "meet", "(II)V"⟩, 9), (⟨"PatienceDesk$Search", "isMet", "(JI)Z"⟩, 9), (⟨"PatienceDesk$Search", "leadsToEnd", "(I)Z"⟩, 9), (⟨"PatienceDesk$Search", "endsBy", "(III)Z"⟩, 9), (⟨"PatienceDesk$Stand", "shiftBack", "(III)V"⟩, 7), (⟨"PatienceDesk$Stand", "emptyCellOf", "(I)V"⟩, 7), (⟨"PatienceDesk$Search", "writePlan", "(LPatienceDesk$Plan;I)V"⟩, 9), (⟨"PatienceDesk$Plan", "write", "(II)V"⟩, 2), (⟨"PatienceDesk$Plan", "fromAt", "(I)I"⟩, 2), (⟨"PatienceDesk$Plan", "moveAt", "(I)I"⟩, 2)]
theorem lw_r4 : ∀ q ∈ lw_privs_4, lw_okq q := List.forall_mem_cons.mpr ⟨lw_p48, List.forall_mem_cons.mpr ⟨lw_p49, List.forall_mem_cons.mpr ⟨lw_p50, List.forall_mem_cons.mpr ⟨lw_p51, List.forall_mem_cons.mpr ⟨lw_p52, List.forall_mem_cons.mpr ⟨lw_p53, List.forall_mem_cons.mpr ⟨lw_p54, List.forall_mem_cons.mpr ⟨lw_p55, List.forall_mem_cons.mpr ⟨lw_p56, List.forall_mem_cons.mpr ⟨lw_p57, List.forall_mem_cons.mpr ⟨lw_p58, List.forall_mem_cons.mpr ⟨lw_p59, List.forall_mem_cons.mpr ⟨lw_p60, List.forall_mem_cons.mpr ⟨lw_p61, List.forall_mem_cons.mpr ⟨lw_p62, List.forall_mem_cons.mpr ⟨lw_p63, fun _ h => absurd h List.not_mem_nil⟩⟩⟩⟩⟩⟩⟩⟩⟩⟩⟩⟩⟩⟩⟩⟩
theorem lw_p64 : lw_okq (⟨"PatienceDesk$Plan", "toAt", "(I)I"⟩, 2) := ⟨⟨by decide +kernel, by decide +kernel⟩, List.mem_of_getElem? (i := 155) (by decide +kernel), List.mem_of_getElem? (i := 596) (by decide +kernel), List.mem_of_getElem? (i := 597) (by decide +kernel)⟩
theorem lw_p65 : lw_okq (⟨"PatienceDesk$Stand", "writeForm", "([S)I"⟩, 7) := ⟨⟨by decide +kernel, by decide +kernel⟩, List.mem_of_getElem? (i := 65) (by decide +kernel), List.mem_of_getElem? (i := 608) (by decide +kernel), List.mem_of_getElem? (i := 609) (by decide +kernel)⟩
theorem lw_p66 : lw_okq (⟨"PatienceDesk$Stand", "writeColumn", "(I[SI)I"⟩, 7) := ⟨⟨by decide +kernel, by decide +kernel⟩, List.mem_of_getElem? (i := 65) (by decide +kernel), List.mem_of_getElem? (i := 612) (by decide +kernel), List.mem_of_getElem? (i := 613) (by decide +kernel)⟩
theorem lw_p67 : lw_okq (⟨"PatienceDesk", "refuse", "(I)I"⟩, 10) := ⟨⟨by decide +kernel, by decide +kernel⟩, List.mem_of_getElem? (i := 14) (by decide +kernel), List.mem_of_getElem? (i := 621) (by decide +kernel), List.mem_of_getElem? (i := 622) (by decide +kernel)⟩
theorem lw_p68 : lw_okq (⟨"PatienceDesk", "fill", "(LPatienceDesk$Tray;II)V"⟩, 10) := ⟨⟨by decide +kernel, by decide +kernel⟩, List.mem_of_getElem? (i := 14) (by decide +kernel), List.mem_of_getElem? (i := 625) (by decide +kernel), List.mem_of_getElem? (i := 626) (by decide +kernel)⟩
theorem lw_p69 : lw_okq (⟨"PatienceDesk$Stand", "writeHoused", "([S)I"⟩, 7) := ⟨⟨by decide +kernel, by decide +kernel⟩, List.mem_of_getElem? (i := 65) (by decide +kernel), List.mem_of_getElem? (i := 630) (by decide +kernel), List.mem_of_getElem? (i := 631) (by decide +kernel)⟩
theorem lw_p70 : lw_okq (⟨"PatienceDesk", "kindTakenFor", "(LPatienceDesk$Tray;I)I"⟩, 10) := ⟨⟨by decide +kernel, by decide +kernel⟩, List.mem_of_getElem? (i := 14) (by decide +kernel), List.mem_of_getElem? (i := 642) (by decide +kernel), List.mem_of_getElem? (i := 643) (by decide +kernel)⟩
theorem lw_p71 : lw_okq (⟨"PatienceDesk", "refusalOf", "(LPatienceDesk$Tray;I)I"⟩, 10) := ⟨⟨by decide +kernel, by decide +kernel⟩, List.mem_of_getElem? (i := 14) (by decide +kernel), List.mem_of_getElem? (i := 646) (by decide +kernel), List.mem_of_getElem? (i := 647) (by decide +kernel)⟩
theorem lw_p72 : lw_okq (⟨"PatienceDesk", "numberTakenFrom", "(LPatienceDesk$Tray;II)I"⟩, 10) := ⟨⟨by decide +kernel, by decide +kernel⟩, List.mem_of_getElem? (i := 14) (by decide +kernel), List.mem_of_getElem? (i := 652) (by decide +kernel), List.mem_of_getElem? (i := 653) (by decide +kernel)⟩
theorem lw_p73 : lw_okq (⟨"PatienceDesk", "sumOfCopy", "(LPatienceDesk$Tray;I)I"⟩, 10) := ⟨⟨by decide +kernel, by decide +kernel⟩, List.mem_of_getElem? (i := 14) (by decide +kernel), List.mem_of_getElem? (i := 656) (by decide +kernel), List.mem_of_getElem? (i := 657) (by decide +kernel)⟩
theorem lw_p74 : lw_okq (⟨"PatienceDesk", "kindInSuitedRow", "(LPatienceDesk$Tray;)I"⟩, 10) := ⟨⟨by decide +kernel, by decide +kernel⟩, List.mem_of_getElem? (i := 14) (by decide +kernel), List.mem_of_getElem? (i := 660) (by decide +kernel), List.mem_of_getElem? (i := 661) (by decide +kernel)⟩
theorem lw_p75 : lw_okq (⟨"PatienceDeskModel", "empties", "()V"⟩, 42) := ⟨⟨by decide +kernel, by decide +kernel⟩, List.mem_of_getElem? (i := 668) (by decide +kernel), List.mem_of_getElem? (i := 811) (by decide +kernel), List.mem_of_getElem? (i := 812) (by decide +kernel)⟩
theorem lw_p76 : lw_okq (⟨"PatienceDeskModel", "cards", "()I"⟩, 42) := ⟨⟨by decide +kernel, by decide +kernel⟩, List.mem_of_getElem? (i := 668) (by decide +kernel), List.mem_of_getElem? (i := 815) (by decide +kernel), List.mem_of_getElem? (i := 816) (by decide +kernel)⟩
theorem lw_p77 : lw_okq (⟨"PatienceDeskModel", "isCode", "(I)Z"⟩, 42) := ⟨⟨by decide +kernel, by decide +kernel⟩, List.mem_of_getElem? (i := 668) (by decide +kernel), List.mem_of_getElem? (i := 832) (by decide +kernel), List.mem_of_getElem? (i := 833) (by decide +kernel)⟩
theorem lw_p78 : lw_okq (⟨"PatienceDeskModel", "isLet", "(II)Z"⟩, 42) := ⟨⟨by decide +kernel, by decide +kernel⟩, List.mem_of_getElem? (i := 668) (by decide +kernel), List.mem_of_getElem? (i := 836) (by decide +kernel), List.mem_of_getElem? (i := 837) (by decide +kernel)⟩
theorem lw_p79 : lw_okq (⟨"PatienceDeskModel", "saves", "(I)V"⟩, 42) := ⟨⟨by decide +kernel, by decide +kernel⟩, List.mem_of_getElem? (i := 668) (by decide +kernel), List.mem_of_getElem? (i := 844) (by decide +kernel), List.mem_of_getElem? (i := 845) (by decide +kernel)⟩
def lw_privs_5 : List (MethodName × Nat) := [(⟨"PatienceDesk$Plan", "toAt", "(I)I"⟩, 2), (⟨"PatienceDesk$Stand", "writeForm", "([S)I"⟩, 7), (⟨"PatienceDesk$Stand", "writeColumn", "(I[SI)I"⟩, 7), (⟨"PatienceDesk", "refuse", "(I)I"⟩, 10), (⟨"PatienceDesk", "fill", "(LPatienceDesk$Tray;II)V"⟩, 10), (⟨"PatienceDesk$Stand", "writeHoused", "([S)I"⟩, 7), (⟨"PatienceDesk", "kindTakenFor", "(LPatienceDesk$Tray;I)I"⟩, 10), (⟨"PatienceDesk", "refusalOf", "(LPatienceDesk$Tray;I)I"⟩, 10), (⟨"PatienceDesk", "numberTakenFrom", "(LPatienceDesk$Tray;II)I"⟩, 10), (⟨"PatienceDesk", "sumOfCopy", "(LPatienceDesk$Tray;I)I"⟩, 10), (⟨"PatienceDesk", "kindInSuitedRow", "(LPatienceDesk$Tray;)I"⟩, 10), (⟨"PatienceDeskModel", "empties", "()V"⟩, 42), (⟨"PatienceDeskModel", "cards", "()I"⟩, 42), (⟨"PatienceDeskModel", "isCode", "(I)Z"⟩, 42), (⟨"PatienceDeskModel", "isLet", "(II)Z"⟩, 42), (⟨"PatienceDeskModel", "saves", "(I)V"⟩, 42)]
theorem lw_r5 : ∀ q ∈ lw_privs_5, lw_okq q := List.forall_mem_cons.mpr ⟨lw_p64, List.forall_mem_cons.mpr ⟨lw_p65, List.forall_mem_cons.mpr ⟨lw_p66, List.forall_mem_cons.mpr ⟨lw_p67, List.forall_mem_cons.mpr ⟨lw_p68, List.forall_mem_cons.mpr ⟨lw_p69, List.forall_mem_cons.mpr ⟨lw_p70, List.forall_mem_cons.mpr ⟨lw_p71, List.forall_mem_cons.mpr ⟨lw_p72, List.forall_mem_cons.mpr ⟨lw_p73, List.forall_mem_cons.mpr ⟨lw_p74, List.forall_mem_cons.mpr ⟨lw_p75, List.forall_mem_cons.mpr ⟨lw_p76, List.forall_mem_cons.mpr ⟨lw_p77, List.forall_mem_cons.mpr ⟨lw_p78, List.forall_mem_cons.mpr ⟨lw_p79, fun _ h => absurd h List.not_mem_nil⟩⟩⟩⟩⟩⟩⟩⟩⟩⟩⟩⟩⟩⟩⟩⟩
theorem lw_p80 : lw_okq (⟨"PatienceDeskModel", "brings", "(I)V"⟩, 42) := ⟨⟨by decide +kernel, by decide +kernel⟩, List.mem_of_getElem? (i := 668) (by decide +kernel), List.mem_of_getElem? (i := 848) (by decide +kernel), List.mem_of_getElem? (i := 849) (by decide +kernel)⟩
theorem lw_p81 : lw_okq (⟨"PatienceDeskModel", "isMove", "(III)Z"⟩, 42) := ⟨⟨by decide +kernel, by decide +kernel⟩, List.mem_of_getElem? (i := 668) (by decide +kernel), List.mem_of_getElem? (i := 860) (by decide +kernel), List.mem_of_getElem? (i := 861) (by decide +kernel)⟩
theorem lw_p82 : lw_okq (⟨"PatienceDeskModel", "tryStand", "()V"⟩, 42) := ⟨⟨by decide +kernel, by decide +kernel⟩, List.mem_of_getElem? (i := 668) (by decide +kernel), List.mem_of_getElem? (i := 864) (by decide +kernel), List.mem_of_getElem? (i := 865) (by decide +kernel)⟩
theorem lw_p83 : lw_okq (⟨"PatienceDeskModel", "whyNot", "(II)I"⟩, 42) := ⟨⟨by decide +kernel, by decide +kernel⟩, List.mem_of_getElem? (i := 668) (by decide +kernel), List.mem_of_getElem? (i := 868) (by decide +kernel), List.mem_of_getElem? (i := 869) (by decide +kernel)⟩
theorem lw_p84 : lw_okq (⟨"PatienceDeskModel", "lastOf", "(I)I"⟩, 42) := ⟨⟨by decide +kernel, by decide +kernel⟩, List.mem_of_getElem? (i := 668) (by decide +kernel), List.mem_of_getElem? (i := 872) (by decide +kernel), List.mem_of_getElem? (i := 873) (by decide +kernel)⟩
theorem lw_p85 : lw_okq (⟨"PatienceDeskModel", "freeCell", "()I"⟩, 42) := ⟨⟨by decide +kernel, by decide +kernel⟩, List.mem_of_getElem? (i := 668) (by decide +kernel), List.mem_of_getElem? (i := 876) (by decide +kernel), List.mem_of_getElem? (i := 877) (by decide +kernel)⟩
theorem lw_p86 : lw_okq (⟨"PatienceDeskModel", "doMove", "(II)V"⟩, 42) := ⟨⟨by decide +kernel, by decide +kernel⟩, List.mem_of_getElem? (i := 668) (by decide +kernel), List.mem_of_getElem? (i := 880) (by decide +kernel), List.mem_of_getElem? (i := 881) (by decide +kernel)⟩
theorem lw_p87 : lw_okq (⟨"PatienceDeskModel", "done", "()V"⟩, 42) := ⟨⟨by decide +kernel, by decide +kernel⟩, List.mem_of_getElem? (i := 668) (by decide +kernel), List.mem_of_getElem? (i := 884) (by decide +kernel), List.mem_of_getElem? (i := 885) (by decide +kernel)⟩
theorem lw_p88 : lw_okq (⟨"PatienceDeskModel", "moves", "(II)V"⟩, 42) := ⟨⟨by decide +kernel, by decide +kernel⟩, List.mem_of_getElem? (i := 668) (by decide +kernel), List.mem_of_getElem? (i := 888) (by decide +kernel), List.mem_of_getElem? (i := 889) (by decide +kernel)⟩
theorem lw_p89 : lw_okq (⟨"PatienceDeskModel", "keepsTried", "()V"⟩, 42) := ⟨⟨by decide +kernel, by decide +kernel⟩, List.mem_of_getElem? (i := 668) (by decide +kernel), List.mem_of_getElem? (i := 892) (by decide +kernel), List.mem_of_getElem? (i := 893) (by decide +kernel)⟩
theorem lw_p90 : lw_okq (⟨"PatienceDeskModel", "isSafe", "(I)Z"⟩, 42) := ⟨⟨by decide +kernel, by decide +kernel⟩, List.mem_of_getElem? (i := 668) (by decide +kernel), List.mem_of_getElem? (i := 908) (by decide +kernel), List.mem_of_getElem? (i := 909) (by decide +kernel)⟩
theorem lw_p91 : lw_okq (⟨"PatienceDeskModel", "isBuried", "(II)Z"⟩, 42) := ⟨⟨by decide +kernel, by decide +kernel⟩, List.mem_of_getElem? (i := 668) (by decide +kernel), List.mem_of_getElem? (i := 916) (by decide +kernel), List.mem_of_getElem? (i := 917) (by decide +kernel)⟩
theorem lw_p92 : lw_okq (⟨"PatienceDeskModel", "search", "(II)I"⟩, 42) := ⟨⟨by decide +kernel, by decide +kernel⟩, List.mem_of_getElem? (i := 668) (by decide +kernel), List.mem_of_getElem? (i := 936) (by decide +kernel), List.mem_of_getElem? (i := 937) (by decide +kernel)⟩
theorem lw_p93 : lw_okq (⟨"PatienceDeskModel", "makeKey", "()V"⟩, 42) := ⟨⟨by decide +kernel, by decide +kernel⟩, List.mem_of_getElem? (i := 668) (by decide +kernel), List.mem_of_getElem? (i := 940) (by decide +kernel), List.mem_of_getElem? (i := 941) (by decide +kernel)⟩
theorem lw_p94 : lw_okq (⟨"PatienceDeskModel", "orders", "()V"⟩, 42) := ⟨⟨by decide +kernel, by decide +kernel⟩, List.mem_of_getElem? (i := 668) (by decide +kernel), List.mem_of_getElem? (i := 944) (by decide +kernel), List.mem_of_getElem? (i := 945) (by decide +kernel)⟩
theorem lw_p95 : lw_okq (⟨"PatienceDeskModel", "isAhead", "(II)Z"⟩, 42) := ⟨⟨by decide +kernel, by decide +kernel⟩, List.mem_of_getElem? (i := 668) (by decide +kernel), List.mem_of_getElem? (i := 948) (by decide +kernel), List.mem_of_getElem? (i := 949) (by decide +kernel)⟩
def lw_privs_6 : List (MethodName × Nat) := [(⟨"PatienceDeskModel", "brings", "(I)V"⟩, 42), (⟨"PatienceDeskModel", "isMove", "(III)Z"⟩, 42), (⟨"PatienceDeskModel", "tryStand", "()V"⟩, 42), (⟨"PatienceDeskModel", "whyNot", "(II)I"⟩, 42), (⟨"PatienceDeskModel", "lastOf", "(I)I"⟩, 42), (⟨"PatienceDeskModel", "freeCell", "()I"⟩, 42), (⟨"PatienceDeskModel", "doMove", "(II)V"⟩, 42), (⟨"PatienceDeskModel", "done", "()V"⟩, 42), (⟨"PatienceDeskModel", "moves", "(II)V"⟩, 42), (⟨"PatienceDeskModel", "keepsTried", "()V"⟩, 42), (⟨"PatienceDeskModel", "isSafe", "(I)Z"⟩, 42), (⟨"PatienceDeskModel", "isBuried", "(II)Z"⟩, 42), (⟨"PatienceDeskModel", "search", "(II)I"⟩, 42), (⟨"PatienceDeskModel", "makeKey", "()V"⟩, 42), (⟨"PatienceDeskModel", "orders", "()V"⟩, 42), (⟨"PatienceDeskModel", "isAhead", "(II)Z"⟩, 42)]
theorem lw_r6 : ∀ q ∈ lw_privs_6, lw_okq q := List.forall_mem_cons.mpr ⟨lw_p80, List.forall_mem_cons.mpr ⟨lw_p81, List.forall_mem_cons.mpr ⟨lw_p82, List.forall_mem_cons.mpr ⟨lw_p83, List.forall_mem_cons.mpr ⟨lw_p84, List.forall_mem_cons.mpr ⟨lw_p85, List.forall_mem_cons.mpr ⟨lw_p86, List.forall_mem_cons.mpr ⟨lw_p87, List.forall_mem_cons.mpr ⟨lw_p88, List.forall_mem_cons.mpr ⟨lw_p89, List.forall_mem_cons.mpr ⟨lw_p90, List.forall_mem_cons.mpr ⟨lw_p91, List.forall_mem_cons.mpr ⟨lw_p92, List.forall_mem_cons.mpr ⟨lw_p93, List.forall_mem_cons.mpr ⟨lw_p94, List.forall_mem_cons.mpr ⟨lw_p95, fun _ h => absurd h List.not_mem_nil⟩⟩⟩⟩⟩⟩⟩⟩⟩⟩⟩⟩⟩⟩⟩⟩
theorem lw_p96 : lw_okq (⟨"PatienceDeskModel", "isDone", "()Z"⟩, 42) := ⟨⟨by decide +kernel, by decide +kernel⟩, List.mem_of_getElem? (i := 668) (by decide +kernel), List.mem_of_getElem? (i := 952) (by decide +kernel), List.mem_of_getElem? (i := 953) (by decide +kernel)⟩
theorem lw_p97 : lw_okq (⟨"PatienceDeskModel", "stores", "(I)V"⟩, 42) := ⟨⟨by decide +kernel, by decide +kernel⟩, List.mem_of_getElem? (i := 668) (by decide +kernel), List.mem_of_getElem? (i := 956) (by decide +kernel), List.mem_of_getElem? (i := 957) (by decide +kernel)⟩
theorem lw_p98 : lw_okq (⟨"PatienceDeskModel", "place", "()I"⟩, 42) := ⟨⟨by decide +kernel, by decide +kernel⟩, List.mem_of_getElem? (i := 668) (by decide +kernel), List.mem_of_getElem? (i := 960) (by decide +kernel), List.mem_of_getElem? (i := 961) (by decide +kernel)⟩
theorem lw_p99 : lw_okq (⟨"PatienceDeskModel", "isKey", "(I)Z"⟩, 42) := ⟨⟨by decide +kernel, by decide +kernel⟩, List.mem_of_getElem? (i := 668) (by decide +kernel), List.mem_of_getElem? (i := 964) (by decide +kernel), List.mem_of_getElem? (i := 965) (by decide +kernel)⟩
theorem lw_p100 : lw_okq (⟨"PatienceDeskModel", "trying", "(I)V"⟩, 42) := ⟨⟨by decide +kernel, by decide +kernel⟩, List.mem_of_getElem? (i := 668) (by decide +kernel), List.mem_of_getElem? (i := 968) (by decide +kernel), List.mem_of_getElem? (i := 969) (by decide +kernel)⟩
theorem lw_p101 : lw_okq (⟨"PatienceDeskModel", "plans", "(I)V"⟩, 42) := ⟨⟨by decide +kernel, by decide +kernel⟩, List.mem_of_getElem? (i := 668) (by decide +kernel), List.mem_of_getElem? (i := 972) (by decide +kernel), List.mem_of_getElem? (i := 973) (by decide +kernel)⟩
theorem lw_p102 : lw_okq (⟨"PatienceDeskModel", "marks", "(I)V"⟩, 42) := ⟨⟨by decide +kernel, by decide +kernel⟩, List.mem_of_getElem? (i := 668) (by decide +kernel), List.mem_of_getElem? (i := 976) (by decide +kernel), List.mem_of_getElem? (i := 977) (by decide +kernel)⟩
theorem lw_p103 : lw_okq (⟨"PatienceDeskModel", "leadsOn", "(II)Z"⟩, 42) := ⟨⟨by decide +kernel, by decide +kernel⟩, List.mem_of_getElem? (i := 668) (by decide +kernel), List.mem_of_getElem? (i := 980) (by decide +kernel), List.mem_of_getElem? (i := 981) (by decide +kernel)⟩
theorem lw_p104 : lw_okq (⟨"PatienceDeskModel", "remember", "()V"⟩, 42) := ⟨⟨by decide +kernel, by decide +kernel⟩, List.mem_of_getElem? (i := 668) (by decide +kernel), List.mem_of_getElem? (i := 984) (by decide +kernel), List.mem_of_getElem? (i := 985) (by decide +kernel)⟩
theorem lw_p105 : lw_okq (⟨"PatienceDeskModel", "recall", "()V"⟩, 42) := ⟨⟨by decide +kernel, by decide +kernel⟩, List.mem_of_getElem? (i := 668) (by decide +kernel), List.mem_of_getElem? (i := 988) (by decide +kernel), List.mem_of_getElem? (i := 989) (by decide +kernel)⟩
theorem lw_p106 : lw_okq (⟨"PatienceDeskModel", "tells", "()I"⟩, 42) := ⟨⟨by decide +kernel, by decide +kernel⟩, List.mem_of_getElem? (i := 668) (by decide +kernel), List.mem_of_getElem? (i := 1004) (by decide +kernel), List.mem_of_getElem? (i := 1005) (by decide +kernel)⟩
theorem lw_p107 : lw_okq (⟨"PatienceDeskModel", "refused", "(I)I"⟩, 42) := ⟨⟨by decide +kernel, by decide +kernel⟩, List.mem_of_getElem? (i := 668) (by decide +kernel), List.mem_of_getElem? (i := 1012) (by decide +kernel), List.mem_of_getElem? (i := 1013) (by decide +kernel)⟩
theorem lw_p108 : lw_okq (⟨"PatienceDeskModel", "fine", "(I)I"⟩, 42) := ⟨⟨by decide +kernel, by decide +kernel⟩, List.mem_of_getElem? (i := 668) (by decide +kernel), List.mem_of_getElem? (i := 1016) (by decide +kernel), List.mem_of_getElem? (i := 1017) (by decide +kernel)⟩
def lw_privs_7 : List (MethodName × Nat) := [(⟨"PatienceDeskModel", "isDone", "()Z"⟩, 42), (⟨"PatienceDeskModel", "stores", "(I)V"⟩, 42), (⟨"PatienceDeskModel", "place", "()I"⟩, 42), (⟨"PatienceDeskModel", "isKey", "(I)Z"⟩, 42), (⟨"PatienceDeskModel", "trying", "(I)V"⟩, 42), (⟨"PatienceDeskModel", "plans", "(I)V"⟩, 42), (⟨"PatienceDeskModel", "marks", "(I)V"⟩, 42), (⟨"PatienceDeskModel", "leadsOn", "(II)Z"⟩, 42), (⟨"PatienceDeskModel", "remember", "()V"⟩, 42), (⟨"PatienceDeskModel", "recall", "()V"⟩, 42), (⟨"PatienceDeskModel", "tells", "()I"⟩, 42), (⟨"PatienceDeskModel", "refused", "(I)I"⟩, 42), (⟨"PatienceDeskModel", "fine", "(I)I"⟩, 42)]
theorem lw_r7 : ∀ q ∈ lw_privs_7, lw_okq q := List.forall_mem_cons.mpr ⟨lw_p96, List.forall_mem_cons.mpr ⟨lw_p97, List.forall_mem_cons.mpr ⟨lw_p98, List.forall_mem_cons.mpr ⟨lw_p99, List.forall_mem_cons.mpr ⟨lw_p100, List.forall_mem_cons.mpr ⟨lw_p101, List.forall_mem_cons.mpr ⟨lw_p102, List.forall_mem_cons.mpr ⟨lw_p103, List.forall_mem_cons.mpr ⟨lw_p104, List.forall_mem_cons.mpr ⟨lw_p105, List.forall_mem_cons.mpr ⟨lw_p106, List.forall_mem_cons.mpr ⟨lw_p107, List.forall_mem_cons.mpr ⟨lw_p108, fun _ h => absurd h List.not_mem_nil⟩⟩⟩⟩⟩⟩⟩⟩⟩⟩⟩⟩⟩
def lw_privs : List (MethodName × Nat) := lw_privs_1 ++ (lw_privs_2 ++ (lw_privs_3 ++ (lw_privs_4 ++ (lw_privs_5 ++ (lw_privs_6 ++ (lw_privs_7))))))
def lw_tbl : List Cond := k2_sels lw_privs ++ tables_1
theorem lw_privs_ok : ∀ q ∈ lw_privs, lw_okq q := by
  show ∀ q ∈ lw_privs_1 ++ (lw_privs_2 ++ (lw_privs_3 ++ (lw_privs_4 ++ (lw_privs_5 ++ (lw_privs_6 ++ (lw_privs_7)))))), lw_okq q
  exact List.forall_mem_append.mpr ⟨lw_r1, List.forall_mem_append.mpr ⟨lw_r2, List.forall_mem_append.mpr ⟨lw_r3, List.forall_mem_append.mpr ⟨lw_r4, List.forall_mem_append.mpr ⟨lw_r5, List.forall_mem_append.mpr ⟨lw_r6, lw_r7⟩⟩⟩⟩⟩⟩
end
section
/-! ===== BEGIN words of one list among another's, by their places ===== -/
theorem goodIn_r {big : List Cond} (ws : List Cond) (ps : List Nat) (hp : ws = ps.filterMap (fun i => big[i]?)) (h : ws.all goodWord = true) : GoodIn big ws := by
  intro w hw
  have h1 := List.all_eq_true.mp h w hw
  rw [hp] at hw
  obtain ⟨i, -, hi⟩ := List.mem_filterMap.mp hw
  have hm : w ∈ big := by first | exact List.mem_of_getElem? hi | exact List.getElem?_mem hi
  exact ⟨hm, good_of_word h1⟩
theorem goodIn_app {big a b : List Cond} (ha : GoodIn big a) (hb : GoodIn big b) : GoodIn big (a ++ b) := fun w h => (List.mem_append.mp h).elim (ha w) (hb w)
theorem goodIn_ca {big a b : List Cond} {c : Cond} (ha : GoodIn big (c :: a)) (hb : GoodIn big b) : GoodIn big (c :: (a ++ b)) := fun w h => (List.mem_cons.mp h).elim (fun e => ha w (List.mem_cons.mpr (Or.inl e))) (fun h => (List.mem_append.mp h).elim (fun h => ha w (List.mem_cons.mpr (Or.inr h))) (hb w))
theorem goodIn_sub {big ws : List Cond} (hm : ∀ w ∈ ws, w ∈ big) (h : ws.all goodWord = true) : GoodIn big ws := fun w hw => ⟨hm w hw, good_of_word (List.all_eq_true.mp h w hw)⟩
/-! ===== END ===== -/

/-! ===== BEGIN printed: names, fields, word lists, decode rows ===== -/
def RX0 : String := "PatienceDesk$Deck"
def TX0 : u_T := fun k => match k with
  | 0 => ("PatienceDesk$Deck", "suitOf", "[I", true)
  | 1 => ("PatienceDesk$Deck", "rankOf", "[I", true)
  | 2 => ("PatienceDesk$Deck", "targets", "[I", true)
  | 3 => ("PatienceDesk$Deck", "suits", "I", false)
  | 4 => ("PatienceDesk$Deck", "ranks", "I", false)
  | 5 => ("PatienceDesk$Deck", "columns", "I", false)
  | 6 => ("PatienceDesk$Deck", "cells", "I", false)
  | _ => ("PatienceDesk$Deck", "law", "I", false)
def tyX0 : Nat → FieldType := fun k => match k with
  | 0 => .array .int
  | 1 => .array .int
  | 2 => .array .int
  | 3 => .int
  | 4 => .int
  | 5 => .int
  | 6 => .int
  | _ => .int
abbrev wsX00 : List Cond := u_ws RX0 TX0 8
theorem nmX0 : ∀ a, a < 8 → ∀ b, b < 8 → a ≠ b → (TX0 a).2.1 ≠ (TX0 b).2.1 := by decide +kernel
theorem tyX0_ok : ∀ k, k < 8 → parseFieldDescriptor (TX0 k).2.2.1 = some (tyX0 k) := by decide +kernel
abbrev cX0_init : ByteArray := prog_2_method_1_code
def yX0_init : MethodName := ⟨RX0, "<init>", "()V"⟩
abbrev cX0_choose : ByteArray := prog_2_method_2_code
def yX0_choose : MethodName := ⟨RX0, "choose", "(IIIII)V"⟩
abbrev cX0_size : ByteArray := prog_2_method_3_code
def yX0_size : MethodName := ⟨RX0, "size", "()I"⟩
abbrev cX0_has : ByteArray := prog_2_method_4_code
def yX0_has : MethodName := ⟨RX0, "has", "(II)Z"⟩
abbrev cX0_hasCode : ByteArray := prog_2_method_5_code
def yX0_hasCode : MethodName := ⟨RX0, "hasCode", "(I)Z"⟩
abbrev cX0_cardOf : ByteArray := prog_2_method_6_code
def yX0_cardOf : MethodName := ⟨RX0, "cardOf", "(II)I"⟩
abbrev cX0_cardOfCode : ByteArray := prog_2_method_7_code
def yX0_cardOfCode : MethodName := ⟨RX0, "cardOfCode", "(I)I"⟩
abbrev cX0_codeOf : ByteArray := prog_2_method_8_code
def yX0_codeOf : MethodName := ⟨RX0, "codeOf", "(I)I"⟩
abbrev cX0_allows : ByteArray := prog_2_method_9_code
def yX0_allows : MethodName := ⟨RX0, "allows", "(II)Z"⟩
abbrev cX0_targetsOf : ByteArray := prog_2_method_10_code
def yX0_targetsOf : MethodName := ⟨RX0, "targetsOf", "(I)I"⟩
abbrev cX0_lawLets : ByteArray := prog_2_method_11_code
def yX0_lawLets : MethodName := ⟨RX0, "lawLets", "(II)Z"⟩
abbrev cX0_closesRound : ByteArray := prog_2_method_12_code
def yX0_closesRound : MethodName := ⟨RX0, "closesRound", "(II)Z"⟩
abbrev cX0_suitsTurn : ByteArray := prog_2_method_13_code
def yX0_suitsTurn : MethodName := ⟨RX0, "suitsTurn", "(II)Z"⟩
def RX1 : String := "PatienceDesk$History"
def TX1 : u_T := fun k => match k with
  | 0 => ("PatienceDesk$History", "forms", "[J", true)
  | 1 => ("PatienceDesk$History", "arrangements", "[I", true)
  | 2 => ("PatienceDesk$History", "present", "I", false)
  | _ => ("PatienceDesk$History", "latest", "I", false)
def tyX1 : Nat → FieldType := fun k => match k with
  | 0 => .array .long
  | 1 => .array .int
  | 2 => .int
  | _ => .int
abbrev wsX10 : List Cond := u_ws RX1 TX1 4
theorem nmX1 : ∀ a, a < 4 → ∀ b, b < 4 → a ≠ b → (TX1 a).2.1 ≠ (TX1 b).2.1 := by decide +kernel
theorem tyX1_ok : ∀ k, k < 4 → parseFieldDescriptor (TX1 k).2.2.1 = some (tyX1 k) := by decide +kernel
abbrev cX1_init : ByteArray := prog_3_method_1_code
def yX1_init : MethodName := ⟨RX1, "<init>", "()V"⟩
abbrev cX1_restart : ByteArray := prog_3_method_2_code
def yX1_restart : MethodName := ⟨RX1, "restart", "(LPatienceDesk$Stand;)V"⟩
abbrev cX1_keep : ByteArray := prog_3_method_3_code
def yX1_keep : MethodName := ⟨RX1, "keep", "(LPatienceDesk$Stand;)V"⟩
abbrev cX1_canGoBack : ByteArray := prog_3_method_4_code
def yX1_canGoBack : MethodName := ⟨RX1, "canGoBack", "()I"⟩
abbrev cX1_goBack : ByteArray := prog_3_method_5_code
def yX1_goBack : MethodName := ⟨RX1, "goBack", "(LPatienceDesk$Stand;)Z"⟩
abbrev cX1_goOn : ByteArray := prog_3_method_6_code
def yX1_goOn : MethodName := ⟨RX1, "goOn", "(LPatienceDesk$Stand;)Z"⟩
abbrev cX1_write : ByteArray := prog_3_method_7_code
def yX1_write : MethodName := ⟨RX1, "write", "(LPatienceDesk$Stand;)V"⟩
def RX2 : String := "PatienceDesk$Plan"
def TX2 : u_T := fun k => match k with
  | 0 => ("PatienceDesk$Plan", "moves", "[J", true)
  | _ => ("PatienceDesk$Plan", "size", "I", false)
def tyX2 : Nat → FieldType := fun k => match k with
  | 0 => .array .long
  | _ => .int
abbrev wsX20 : List Cond := u_ws RX2 TX2 2
theorem nmX2 : ∀ a, a < 2 → ∀ b, b < 2 → a ≠ b → (TX2 a).2.1 ≠ (TX2 b).2.1 := by decide +kernel
theorem tyX2_ok : ∀ k, k < 2 → parseFieldDescriptor (TX2 k).2.2.1 = some (tyX2 k) := by decide +kernel
abbrev cX2_init : ByteArray := prog_4_method_1_code
def yX2_init : MethodName := ⟨RX2, "<init>", "()V"⟩
abbrev cX2_write : ByteArray := prog_4_method_2_code
def yX2_write : MethodName := ⟨RX2, "write", "(II)V"⟩
abbrev cX2_moveAt : ByteArray := prog_4_method_3_code
def yX2_moveAt : MethodName := ⟨RX2, "moveAt", "(I)I"⟩
abbrev cX2_fromAt : ByteArray := prog_4_method_4_code
def yX2_fromAt : MethodName := ⟨RX2, "fromAt", "(I)I"⟩
abbrev cX2_toAt : ByteArray := prog_4_method_5_code
def yX2_toAt : MethodName := ⟨RX2, "toAt", "(I)I"⟩
def RX3 : String := "PatienceDesk$Search"
def TX3 : u_T := fun k => match k with
  | 0 => ("PatienceDesk$Search", "work", "LPatienceDesk$Stand;", true)
  | 1 => ("PatienceDesk$Search", "forms", "[J", true)
  | 2 => ("PatienceDesk$Search", "told", "[J", true)
  | 3 => ("PatienceDesk$Search", "chains", "[S", true)
  | 4 => ("PatienceDesk$Search", "known", "I", false)
  | 5 => ("PatienceDesk$Search", "most", "I", false)
  | 6 => ("PatienceDesk$Search", "spent", "Z", false)
  | 7 => ("PatienceDesk$Search", "lastParent", "I", false)
  | _ => ("PatienceDesk$Search", "lastMove", "I", false)
def tyX3 : Nat → FieldType := fun k => match k with
  | 0 => .object "PatienceDesk$Stand"
  | 1 => .array .long
  | 2 => .array .long
  | 3 => .array .short
  | 4 => .int
  | 5 => .int
  | 6 => .boolean
  | 7 => .int
  | _ => .int
abbrev wsX30 : List Cond := u_ws RX3 TX3 9
theorem nmX3 : ∀ a, a < 9 → ∀ b, b < 9 → a ≠ b → (TX3 a).2.1 ≠ (TX3 b).2.1 := by decide +kernel
theorem tyX3_ok : ∀ k, k < 9 → parseFieldDescriptor (TX3 k).2.2.1 = some (tyX3 k) := by decide +kernel
abbrev cX3_init : ByteArray := prog_5_method_1_code
def yX3_init : MethodName := ⟨RX3, "<init>", "(LPatienceDesk$Deck;)V"⟩
abbrev cX3_fewestMoves : ByteArray := prog_5_method_2_code
def yX3_fewestMoves : MethodName := ⟨RX3, "fewestMoves", "(LPatienceDesk$Stand;II)I"⟩
abbrev cX3_restart : ByteArray := prog_5_method_3_code
def yX3_restart : MethodName := ⟨RX3, "restart", "(LPatienceDesk$Stand;II)V"⟩
abbrev cX3_leadsToEnd : ByteArray := prog_5_method_4_code
def yX3_leadsToEnd : MethodName := ⟨RX3, "leadsToEnd", "(I)Z"⟩
abbrev cX3_endsBy : ByteArray := prog_5_method_5_code
def yX3_endsBy : MethodName := ⟨RX3, "endsBy", "(III)Z"⟩
abbrev cX3_meet : ByteArray := prog_5_method_6_code
def yX3_meet : MethodName := ⟨RX3, "meet", "(II)V"⟩
abbrev cX3_isMet : ByteArray := prog_5_method_7_code
def yX3_isMet : MethodName := ⟨RX3, "isMet", "(JI)Z"⟩
abbrev cX3_writePlan : ByteArray := prog_5_method_8_code
def yX3_writePlan : MethodName := ⟨RX3, "writePlan", "(LPatienceDesk$Plan;I)V"⟩
def RX4 : String := "PatienceDesk$Stand"
def TX4 : u_T := fun k => match k with
  | 0 => ("PatienceDesk$Stand", "deck", "LPatienceDesk$Deck;", true)
  | 1 => ("PatienceDesk$Stand", "columns", "[J", true)
  | 2 => ("PatienceDesk$Stand", "sizes", "[I", true)
  | 3 => ("PatienceDesk$Stand", "cells", "[I", true)
  | 4 => ("PatienceDesk$Stand", "houses", "[I", true)
  | 5 => ("PatienceDesk$Stand", "order", "[J", true)
  | _ => ("PatienceDesk$Stand", "cellCount", "I", false)
def tyX4 : Nat → FieldType := fun k => match k with
  | 0 => .object "PatienceDesk$Deck"
  | 1 => .array .long
  | 2 => .array .int
  | 3 => .array .int
  | 4 => .array .int
  | 5 => .array .long
  | _ => .int
abbrev wsX40 : List Cond := u_ws RX4 TX4 7
theorem nmX4 : ∀ a, a < 7 → ∀ b, b < 7 → a ≠ b → (TX4 a).2.1 ≠ (TX4 b).2.1 := by decide +kernel
theorem tyX4_ok : ∀ k, k < 7 → parseFieldDescriptor (TX4 k).2.2.1 = some (tyX4 k) := by decide +kernel
abbrev cX4_init : ByteArray := prog_6_method_1_code
def yX4_init : MethodName := ⟨RX4, "<init>", "(LPatienceDesk$Deck;)V"⟩
abbrev cX4_clear : ByteArray := prog_6_method_2_code
def yX4_clear : MethodName := ⟨RX4, "clear", "(I)V"⟩
abbrev cX4_push : ByteArray := prog_6_method_3_code
def yX4_push : MethodName := ⟨RX4, "push", "(II)V"⟩
abbrev cX4_pop : ByteArray := prog_6_method_4_code
def yX4_pop : MethodName := ⟨RX4, "pop", "(I)V"⟩
abbrev cX4_lastOf : ByteArray := prog_6_method_5_code
def yX4_lastOf : MethodName := ⟨RX4, "lastOf", "(I)I"⟩
abbrev cX4_insert : ByteArray := prog_6_method_6_code
def yX4_insert : MethodName := ⟨RX4, "insert", "(III)V"⟩
abbrev cX4_cardAt : ByteArray := prog_6_method_7_code
def yX4_cardAt : MethodName := ⟨RX4, "cardAt", "(II)I"⟩
abbrev cX4_cardsInHouses : ByteArray := prog_6_method_8_code
def yX4_cardsInHouses : MethodName := ⟨RX4, "cardsInHouses", "()I"⟩
abbrev cX4_isDone : ByteArray := prog_6_method_9_code
def yX4_isDone : MethodName := ⟨RX4, "isDone", "()Z"⟩
abbrev cX4_firstFreeCell : ByteArray := prog_6_method_10_code
def yX4_firstFreeCell : MethodName := ⟨RX4, "firstFreeCell", "()I"⟩
abbrev cX4_freeCells : ByteArray := prog_6_method_11_code
def yX4_freeCells : MethodName := ⟨RX4, "freeCells", "()I"⟩
abbrev cX4_emptyColumns : ByteArray := prog_6_method_12_code
def yX4_emptyColumns : MethodName := ⟨RX4, "emptyColumns", "()I"⟩
abbrev cX4_buriedCards : ByteArray := prog_6_method_13_code
def yX4_buriedCards : MethodName := ⟨RX4, "buriedCards", "()I"⟩
abbrev cX4_isBuried : ByteArray := prog_6_method_14_code
def yX4_isBuried : MethodName := ⟨RX4, "isBuried", "(II)Z"⟩
abbrev cX4_isNamed : ByteArray := prog_6_method_15_code
def yX4_isNamed : MethodName := ⟨RX4, "isNamed", "(II)Z"⟩
abbrev cX4_cardFrom : ByteArray := prog_6_method_16_code
def yX4_cardFrom : MethodName := ⟨RX4, "cardFrom", "(I)I"⟩
abbrev cX4_whyNot : ByteArray := prog_6_method_17_code
def yX4_whyNot : MethodName := ⟨RX4, "whyNot", "(II)I"⟩
abbrev cX4_isNextInHouse : ByteArray := prog_6_method_18_code
def yX4_isNextInHouse : MethodName := ⟨RX4, "isNextInHouse", "(I)Z"⟩
abbrev cX4_possibleMoves : ByteArray := prog_6_method_19_code
def yX4_possibleMoves : MethodName := ⟨RX4, "possibleMoves", "()I"⟩
abbrev cX4_shift : ByteArray := prog_6_method_20_code
def yX4_shift : MethodName := ⟨RX4, "shift", "(II)I"⟩
abbrev cX4_shiftBack : ByteArray := prog_6_method_21_code
def yX4_shiftBack : MethodName := ⟨RX4, "shiftBack", "(III)V"⟩
abbrev cX4_fillFreeCell : ByteArray := prog_6_method_22_code
def yX4_fillFreeCell : MethodName := ⟨RX4, "fillFreeCell", "(I)V"⟩
abbrev cX4_emptyCellOf : ByteArray := prog_6_method_23_code
def yX4_emptyCellOf : MethodName := ⟨RX4, "emptyCellOf", "(I)V"⟩
abbrev cX4_canShiftRow : ByteArray := prog_6_method_24_code
def yX4_canShiftRow : MethodName := ⟨RX4, "canShiftRow", "(III)Z"⟩
abbrev cX4_longestRow : ByteArray := prog_6_method_25_code
def yX4_longestRow : MethodName := ⟨RX4, "longestRow", "(II)I"⟩
abbrev cX4_shiftRow : ByteArray := prog_6_method_26_code
def yX4_shiftRow : MethodName := ⟨RX4, "shiftRow", "(III)V"⟩
abbrev cX4_sendSafeCard : ByteArray := prog_6_method_27_code
def yX4_sendSafeCard : MethodName := ⟨RX4, "sendSafeCard", "()Z"⟩
abbrev cX4_isSafe : ByteArray := prog_6_method_28_code
def yX4_isSafe : MethodName := ⟨RX4, "isSafe", "(I)Z"⟩
abbrev cX4_writeColumn : ByteArray := prog_6_method_29_code
def yX4_writeColumn : MethodName := ⟨RX4, "writeColumn", "(I[SI)I"⟩
abbrev cX4_writeHoused : ByteArray := prog_6_method_30_code
def yX4_writeHoused : MethodName := ⟨RX4, "writeHoused", "([S)I"⟩
abbrev cX4_writeForm : ByteArray := prog_6_method_31_code
def yX4_writeForm : MethodName := ⟨RX4, "writeForm", "([S)I"⟩
abbrev cX4_sortColumns : ByteArray := prog_6_method_32_code
def yX4_sortColumns : MethodName := ⟨RX4, "sortColumns", "()V"⟩
abbrev cX4_inOrder : ByteArray := prog_6_method_33_code
def yX4_inOrder : MethodName := ⟨RX4, "inOrder", "(I)I"⟩
abbrev cX4_formKey : ByteArray := prog_6_method_34_code
def yX4_formKey : MethodName := ⟨RX4, "formKey", "()J"⟩
abbrev cX4_arrangement : ByteArray := prog_6_method_35_code
def yX4_arrangement : MethodName := ⟨RX4, "arrangement", "()I"⟩
abbrev cX4_unpack : ByteArray := prog_6_method_36_code
def yX4_unpack : MethodName := ⟨RX4, "unpack", "(JI)V"⟩
abbrev cX4_takeFromHouse : ByteArray := prog_6_method_37_code
def yX4_takeFromHouse : MethodName := ⟨RX4, "takeFromHouse", "(I)V"⟩
def RX5 : String := "PatienceDesk$Tray"
def TX5 : u_T := fun k => match k with
  | 0 => ("PatienceDesk$Tray", "numbers", "[S", true)
  | 1 => ("PatienceDesk$Tray", "holds", "I", false)
  | 2 => ("PatienceDesk$Tray", "law", "I", false)
  | _ => ("PatienceDesk$Tray", "size", "I", false)
def tyX5 : Nat → FieldType := fun k => match k with
  | 0 => .array .short
  | 1 => .int
  | 2 => .int
  | _ => .int
abbrev wsX50 : List Cond := u_ws RX5 TX5 4
theorem nmX5 : ∀ a, a < 4 → ∀ b, b < 4 → a ≠ b → (TX5 a).2.1 ≠ (TX5 b).2.1 := by decide +kernel
theorem tyX5_ok : ∀ k, k < 4 → parseFieldDescriptor (TX5 k).2.2.1 = some (tyX5 k) := by decide +kernel
abbrev cX5_init : ByteArray := prog_7_method_1_code
def yX5_init : MethodName := ⟨RX5, "<init>", "()V"⟩
def RX6 : String := "PatienceDesk"
def TX6 : u_T := fun k => match k with
  | 0 => ("PatienceDesk", "deck", "LPatienceDesk$Deck;", true)
  | 1 => ("PatienceDesk", "stand", "LPatienceDesk$Stand;", true)
  | 2 => ("PatienceDesk", "history", "LPatienceDesk$History;", true)
  | 3 => ("PatienceDesk", "trays", "[LPatienceDesk$Tray;", true)
  | 4 => ("PatienceDesk", "formRow", "[S", true)
  | 5 => ("PatienceDesk", "search", "LPatienceDesk$Search;", true)
  | 6 => ("PatienceDesk", "latestPlan", "LPatienceDesk$Plan;", true)
  | 7 => ("PatienceDesk", "laidCards", "I", false)
  | 8 => ("PatienceDesk", "latestWhy", "I", false)
  | _ => ("PatienceDesk", "latestStatus", "I", false)
def tyX6 : Nat → FieldType := fun k => match k with
  | 0 => .object "PatienceDesk$Deck"
  | 1 => .object "PatienceDesk$Stand"
  | 2 => .object "PatienceDesk$History"
  | 3 => .array (.object "PatienceDesk$Tray")
  | 4 => .array .short
  | 5 => .object "PatienceDesk$Search"
  | 6 => .object "PatienceDesk$Plan"
  | 7 => .int
  | 8 => .int
  | _ => .int
abbrev wsX60 : List Cond := u_ws RX6 TX6 10
theorem nmX6 : ∀ a, a < 10 → ∀ b, b < 10 → a ≠ b → (TX6 a).2.1 ≠ (TX6 b).2.1 := by decide +kernel
theorem tyX6_ok : ∀ k, k < 10 → parseFieldDescriptor (TX6 k).2.2.1 = some (tyX6 k) := by decide +kernel
abbrev cX6_init : ByteArray := prog_1_method_1_code
def yX6_init : MethodName := ⟨RX6, "<init>", "()V"⟩
abbrev cX6_begin : ByteArray := prog_1_method_2_code
def yX6_begin : MethodName := ⟨RX6, "begin", "(IIIII)I"⟩
abbrev cX6_lay : ByteArray := prog_1_method_3_code
def yX6_lay : MethodName := ⟨RX6, "lay", "(III)I"⟩
abbrev cX6_make : ByteArray := prog_1_method_4_code
def yX6_make : MethodName := ⟨RX6, "make", "(I)I"⟩
abbrev cX6_move : ByteArray := prog_1_method_5_code
def yX6_move : MethodName := ⟨RX6, "move", "(II)I"⟩
abbrev cX6_why : ByteArray := prog_1_method_6_code
def yX6_why : MethodName := ⟨RX6, "why", "()I"⟩
abbrev cX6_carry : ByteArray := prog_1_method_7_code
def yX6_carry : MethodName := ⟨RX6, "carry", "(III)I"⟩
abbrev cX6_auto : ByteArray := prog_1_method_8_code
def yX6_auto : MethodName := ⟨RX6, "auto", "()I"⟩
abbrev cX6_undo : ByteArray := prog_1_method_9_code
def yX6_undo : MethodName := ⟨RX6, "undo", "()I"⟩
abbrev cX6_redo : ByteArray := prog_1_method_10_code
def yX6_redo : MethodName := ⟨RX6, "redo", "()I"⟩
abbrev cX6_count : ByteArray := prog_1_method_11_code
def yX6_count : MethodName := ⟨RX6, "count", "(I)I"⟩
abbrev cX6_card : ByteArray := prog_1_method_12_code
def yX6_card : MethodName := ⟨RX6, "card", "(II)I"⟩
abbrev cX6_cell : ByteArray := prog_1_method_13_code
def yX6_cell : MethodName := ⟨RX6, "cell", "(I)I"⟩
abbrev cX6_house : ByteArray := prog_1_method_14_code
def yX6_house : MethodName := ⟨RX6, "house", "(I)I"⟩
abbrev cX6_lets : ByteArray := prog_1_method_15_code
def yX6_lets : MethodName := ⟨RX6, "lets", "(II)I"⟩
abbrev cX6_solve : ByteArray := prog_1_method_16_code
def yX6_solve : MethodName := ⟨RX6, "solve", "(I)I"⟩
abbrev cX6_plan : ByteArray := prog_1_method_17_code
def yX6_plan : MethodName := ⟨RX6, "plan", "(II)I"⟩
abbrev cX6_needs : ByteArray := prog_1_method_18_code
def yX6_needs : MethodName := ⟨RX6, "needs", "(I)I"⟩
abbrev cX6_form : ByteArray := prog_1_method_19_code
def yX6_form : MethodName := ⟨RX6, "form", "(I)I"⟩
abbrev cX6_put : ByteArray := prog_1_method_20_code
def yX6_put : MethodName := ⟨RX6, "put", "(III)I"⟩
abbrev cX6_forge : ByteArray := prog_1_method_21_code
def yX6_forge : MethodName := ⟨RX6, "forge", "(III)I"⟩
abbrev cX6_status : ByteArray := prog_1_method_22_code
def yX6_status : MethodName := ⟨RX6, "status", "()I"⟩
abbrev cX6_isWithin : ByteArray := prog_1_method_23_code
def yX6_isWithin : MethodName := ⟨RX6, "isWithin", "(III)Z"⟩
abbrev cX6_isColumn : ByteArray := prog_1_method_24_code
def yX6_isColumn : MethodName := ⟨RX6, "isColumn", "(I)Z"⟩
abbrev cX6_allLaid : ByteArray := prog_1_method_25_code
def yX6_allLaid : MethodName := ⟨RX6, "allLaid", "()Z"⟩
abbrev cX6_emptyTable : ByteArray := prog_1_method_26_code
def yX6_emptyTable : MethodName := ⟨RX6, "emptyTable", "()V"⟩
abbrev cX6_fill : ByteArray := prog_1_method_27_code
def yX6_fill : MethodName := ⟨RX6, "fill", "(LPatienceDesk$Tray;II)V"⟩
abbrev cX6_refuse : ByteArray := prog_1_method_28_code
def yX6_refuse : MethodName := ⟨RX6, "refuse", "(I)I"⟩
abbrev cX6_refusalOf : ByteArray := prog_1_method_29_code
def yX6_refusalOf : MethodName := ⟨RX6, "refusalOf", "(LPatienceDesk$Tray;I)I"⟩
abbrev cX6_kindTakenFor : ByteArray := prog_1_method_30_code
def yX6_kindTakenFor : MethodName := ⟨RX6, "kindTakenFor", "(LPatienceDesk$Tray;I)I"⟩
abbrev cX6_numberTakenFrom : ByteArray := prog_1_method_31_code
def yX6_numberTakenFrom : MethodName := ⟨RX6, "numberTakenFrom", "(LPatienceDesk$Tray;II)I"⟩
abbrev cX6_sumOfCopy : ByteArray := prog_1_method_32_code
def yX6_sumOfCopy : MethodName := ⟨RX6, "sumOfCopy", "(LPatienceDesk$Tray;I)I"⟩
abbrev cX6_kindInSuitedRow : ByteArray := prog_1_method_33_code
def yX6_kindInSuitedRow : MethodName := ⟨RX6, "kindInSuitedRow", "(LPatienceDesk$Tray;)I"⟩
def RX7 : String := "PatienceDeskModel"
def TX7 : u_T := fun k => match k with
  | 0 => ("PatienceDeskModel", "suits", "I", false)
  | 1 => ("PatienceDeskModel", "ranks", "I", false)
  | 2 => ("PatienceDeskModel", "columns", "I", false)
  | 3 => ("PatienceDeskModel", "cells", "I", false)
  | 4 => ("PatienceDeskModel", "law", "I", false)
  | 5 => ("PatienceDeskModel", "laid", "I", false)
  | 6 => ("PatienceDeskModel", "isLaid", "[Z", true)
  | 7 => ("PatienceDeskModel", "why", "I", false)
  | 8 => ("PatienceDeskModel", "len", "[I", true)
  | 9 => ("PatienceDeskModel", "col", "[I", true)
  | 10 => ("PatienceDeskModel", "cell", "[I", true)
  | 11 => ("PatienceDeskModel", "house", "[I", true)
  | 12 => ("PatienceDeskModel", "undos", "I", false)
  | 13 => ("PatienceDeskModel", "redos", "I", false)
  | 14 => ("PatienceDeskModel", "hLen", "[I", true)
  | 15 => ("PatienceDeskModel", "hCol", "[I", true)
  | 16 => ("PatienceDeskModel", "hCell", "[I", true)
  | 17 => ("PatienceDeskModel", "hHouse", "[I", true)
  | 18 => ("PatienceDeskModel", "tLen", "[I", true)
  | 19 => ("PatienceDeskModel", "tCol", "[I", true)
  | 20 => ("PatienceDeskModel", "tCell", "[I", true)
  | 21 => ("PatienceDeskModel", "tHouse", "[I", true)
  | 22 => ("PatienceDeskModel", "tCells", "I", false)
  | 23 => ("PatienceDeskModel", "forms", "I", false)
  | 24 => ("PatienceDeskModel", "f", "[B", true)
  | 25 => ("PatienceDeskModel", "level", "[S", true)
  | 26 => ("PatienceDeskModel", "good", "[Z", true)
  | 27 => ("PatienceDeskModel", "slot", "[I", true)
  | 28 => ("PatienceDeskModel", "key", "[B", true)
  | 29 => ("PatienceDeskModel", "order", "[I", true)
  | 30 => ("PatienceDeskModel", "planN", "I", false)
  | 31 => ("PatienceDeskModel", "planFrom", "[I", true)
  | 32 => ("PatienceDeskModel", "planTo", "[I", true)
  | 33 => ("PatienceDeskModel", "tray", "[I", true)
  | 34 => ("PatienceDeskModel", "trayN", "[I", true)
  | 35 => ("PatienceDeskModel", "trayCell", "[I", true)
  | 36 => ("PatienceDeskModel", "told", "[I", true)
  | 37 => ("PatienceDeskModel", "status", "I", false)
  | 38 => ("PatienceDeskModel", "rLen", "[I", true)
  | 39 => ("PatienceDeskModel", "rCol", "[I", true)
  | 40 => ("PatienceDeskModel", "rCell", "[I", true)
  | _ => ("PatienceDeskModel", "rHouse", "[I", true)
def tyX7 : Nat → FieldType := fun k => match k with
  | 0 => .int
  | 1 => .int
  | 2 => .int
  | 3 => .int
  | 4 => .int
  | 5 => .int
  | 6 => .array .boolean
  | 7 => .int
  | 8 => .array .int
  | 9 => .array .int
  | 10 => .array .int
  | 11 => .array .int
  | 12 => .int
  | 13 => .int
  | 14 => .array .int
  | 15 => .array .int
  | 16 => .array .int
  | 17 => .array .int
  | 18 => .array .int
  | 19 => .array .int
  | 20 => .array .int
  | 21 => .array .int
  | 22 => .int
  | 23 => .int
  | 24 => .array .byte
  | 25 => .array .short
  | 26 => .array .boolean
  | 27 => .array .int
  | 28 => .array .byte
  | 29 => .array .int
  | 30 => .int
  | 31 => .array .int
  | 32 => .array .int
  | 33 => .array .int
  | 34 => .array .int
  | 35 => .array .int
  | 36 => .array .int
  | 37 => .int
  | 38 => .array .int
  | 39 => .array .int
  | 40 => .array .int
  | _ => .array .int
abbrev wsX70 : List Cond := u_ws RX7 TX7 42
theorem nmX7 : ∀ a, a < 42 → ∀ b, b < 42 → a ≠ b → (TX7 a).2.1 ≠ (TX7 b).2.1 := by decide +kernel
theorem tyX7_ok : ∀ k, k < 42 → parseFieldDescriptor (TX7 k).2.2.1 = some (tyX7 k) := by decide +kernel
abbrev cX7_init : ByteArray := prog_9_method_1_code
def yX7_init : MethodName := ⟨RX7, "<init>", "()V"⟩
abbrev cX7_in : ByteArray := prog_9_method_2_code
def yX7_in : MethodName := ⟨RX7, "in", "(III)Z"⟩
abbrev cX7_cards : ByteArray := prog_9_method_3_code
def yX7_cards : MethodName := ⟨RX7, "cards", "()I"⟩
abbrev cX7_isCode : ByteArray := prog_9_method_4_code
def yX7_isCode : MethodName := ⟨RX7, "isCode", "(I)Z"⟩
abbrev cX7_empties : ByteArray := prog_9_method_5_code
def yX7_empties : MethodName := ⟨RX7, "empties", "()V"⟩
abbrev cX7_begin : ByteArray := prog_9_method_6_code
def yX7_begin : MethodName := ⟨RX7, "begin", "(IIIII)I"⟩
abbrev cX7_lay : ByteArray := prog_9_method_7_code
def yX7_lay : MethodName := ⟨RX7, "lay", "(III)I"⟩
abbrev cX7_make : ByteArray := prog_9_method_8_code
def yX7_make : MethodName := ⟨RX7, "make", "(I)I"⟩
abbrev cX7_isLet : ByteArray := prog_9_method_9_code
def yX7_isLet : MethodName := ⟨RX7, "isLet", "(II)Z"⟩
abbrev cX7_lets : ByteArray := prog_9_method_10_code
def yX7_lets : MethodName := ⟨RX7, "lets", "(II)I"⟩
abbrev cX7_tryStand : ByteArray := prog_9_method_11_code
def yX7_tryStand : MethodName := ⟨RX7, "tryStand", "()V"⟩
abbrev cX7_keepsTried : ByteArray := prog_9_method_12_code
def yX7_keepsTried : MethodName := ⟨RX7, "keepsTried", "()V"⟩
abbrev cX7_lastOf : ByteArray := prog_9_method_13_code
def yX7_lastOf : MethodName := ⟨RX7, "lastOf", "(I)I"⟩
abbrev cX7_freeCell : ByteArray := prog_9_method_14_code
def yX7_freeCell : MethodName := ⟨RX7, "freeCell", "()I"⟩
abbrev cX7_whyNot : ByteArray := prog_9_method_15_code
def yX7_whyNot : MethodName := ⟨RX7, "whyNot", "(II)I"⟩
abbrev cX7_doMove : ByteArray := prog_9_method_16_code
def yX7_doMove : MethodName := ⟨RX7, "doMove", "(II)V"⟩
abbrev cX7_isMove : ByteArray := prog_9_method_17_code
def yX7_isMove : MethodName := ⟨RX7, "isMove", "(III)Z"⟩
abbrev cX7_saves : ByteArray := prog_9_method_18_code
def yX7_saves : MethodName := ⟨RX7, "saves", "(I)V"⟩
abbrev cX7_brings : ByteArray := prog_9_method_19_code
def yX7_brings : MethodName := ⟨RX7, "brings", "(I)V"⟩
abbrev cX7_moves : ByteArray := prog_9_method_20_code
def yX7_moves : MethodName := ⟨RX7, "moves", "(II)V"⟩
abbrev cX7_done : ByteArray := prog_9_method_21_code
def yX7_done : MethodName := ⟨RX7, "done", "()V"⟩
abbrev cX7_undo : ByteArray := prog_9_method_22_code
def yX7_undo : MethodName := ⟨RX7, "undo", "()I"⟩
abbrev cX7_redo : ByteArray := prog_9_method_23_code
def yX7_redo : MethodName := ⟨RX7, "redo", "()I"⟩
abbrev cX7_move : ByteArray := prog_9_method_24_code
def yX7_move : MethodName := ⟨RX7, "move", "(II)I"⟩
abbrev cX7_why : ByteArray := prog_9_method_25_code
def yX7_why : MethodName := ⟨RX7, "why", "()I"⟩
abbrev cX7_carry : ByteArray := prog_9_method_26_code
def yX7_carry : MethodName := ⟨RX7, "carry", "(III)I"⟩
abbrev cX7_isSafe : ByteArray := prog_9_method_27_code
def yX7_isSafe : MethodName := ⟨RX7, "isSafe", "(I)Z"⟩
abbrev cX7_auto : ByteArray := prog_9_method_28_code
def yX7_auto : MethodName := ⟨RX7, "auto", "()I"⟩
abbrev cX7_count : ByteArray := prog_9_method_29_code
def yX7_count : MethodName := ⟨RX7, "count", "(I)I"⟩
abbrev cX7_isBuried : ByteArray := prog_9_method_30_code
def yX7_isBuried : MethodName := ⟨RX7, "isBuried", "(II)Z"⟩
abbrev cX7_card : ByteArray := prog_9_method_31_code
def yX7_card : MethodName := ⟨RX7, "card", "(II)I"⟩
abbrev cX7_cell : ByteArray := prog_9_method_32_code
def yX7_cell : MethodName := ⟨RX7, "cell", "(I)I"⟩
abbrev cX7_house : ByteArray := prog_9_method_33_code
def yX7_house : MethodName := ⟨RX7, "house", "(I)I"⟩
abbrev cX7_isAhead : ByteArray := prog_9_method_34_code
def yX7_isAhead : MethodName := ⟨RX7, "isAhead", "(II)Z"⟩
abbrev cX7_orders : ByteArray := prog_9_method_35_code
def yX7_orders : MethodName := ⟨RX7, "orders", "()V"⟩
abbrev cX7_makeKey : ByteArray := prog_9_method_36_code
def yX7_makeKey : MethodName := ⟨RX7, "makeKey", "()V"⟩
abbrev cX7_isDone : ByteArray := prog_9_method_37_code
def yX7_isDone : MethodName := ⟨RX7, "isDone", "()Z"⟩
abbrev cX7_place : ByteArray := prog_9_method_38_code
def yX7_place : MethodName := ⟨RX7, "place", "()I"⟩
abbrev cX7_isKey : ByteArray := prog_9_method_39_code
def yX7_isKey : MethodName := ⟨RX7, "isKey", "(I)Z"⟩
abbrev cX7_trying : ByteArray := prog_9_method_40_code
def yX7_trying : MethodName := ⟨RX7, "trying", "(I)V"⟩
abbrev cX7_search : ByteArray := prog_9_method_41_code
def yX7_search : MethodName := ⟨RX7, "search", "(II)I"⟩
abbrev cX7_stores : ByteArray := prog_9_method_42_code
def yX7_stores : MethodName := ⟨RX7, "stores", "(I)V"⟩
abbrev cX7_marks : ByteArray := prog_9_method_43_code
def yX7_marks : MethodName := ⟨RX7, "marks", "(I)V"⟩
abbrev cX7_leadsOn : ByteArray := prog_9_method_44_code
def yX7_leadsOn : MethodName := ⟨RX7, "leadsOn", "(II)Z"⟩
abbrev cX7_plans : ByteArray := prog_9_method_45_code
def yX7_plans : MethodName := ⟨RX7, "plans", "(I)V"⟩
abbrev cX7_remember : ByteArray := prog_9_method_46_code
def yX7_remember : MethodName := ⟨RX7, "remember", "()V"⟩
abbrev cX7_recall : ByteArray := prog_9_method_47_code
def yX7_recall : MethodName := ⟨RX7, "recall", "()V"⟩
abbrev cX7_solve : ByteArray := prog_9_method_48_code
def yX7_solve : MethodName := ⟨RX7, "solve", "(I)I"⟩
abbrev cX7_plan : ByteArray := prog_9_method_49_code
def yX7_plan : MethodName := ⟨RX7, "plan", "(II)I"⟩
abbrev cX7_needs : ByteArray := prog_9_method_50_code
def yX7_needs : MethodName := ⟨RX7, "needs", "(I)I"⟩
abbrev cX7_tells : ByteArray := prog_9_method_51_code
def yX7_tells : MethodName := ⟨RX7, "tells", "()I"⟩
abbrev cX7_form : ByteArray := prog_9_method_52_code
def yX7_form : MethodName := ⟨RX7, "form", "(I)I"⟩
abbrev cX7_refused : ByteArray := prog_9_method_53_code
def yX7_refused : MethodName := ⟨RX7, "refused", "(I)I"⟩
abbrev cX7_fine : ByteArray := prog_9_method_54_code
def yX7_fine : MethodName := ⟨RX7, "fine", "(I)I"⟩
abbrev cX7_put : ByteArray := prog_9_method_55_code
def yX7_put : MethodName := ⟨RX7, "put", "(III)I"⟩
abbrev cX7_forge : ByteArray := prog_9_method_56_code
def yX7_forge : MethodName := ⟨RX7, "forge", "(III)I"⟩
abbrev cX7_status : ByteArray := prog_9_method_57_code
def yX7_status : MethodName := ⟨RX7, "status", "()I"⟩
def RJ6 : String := "java/lang/Integer"
def TJ6 : u_T := fun k => match k with
  | _ => ("", "", "", false)
def tyJ6 : Nat → FieldType := fun k => match k with
  | _ => .int
abbrev wsJ60 : List Cond := u_ws RJ6 TJ6 0
theorem nmJ6 : ∀ a, a < 0 → ∀ b, b < 0 → a ≠ b → (TJ6 a).2.1 ≠ (TJ6 b).2.1 := by decide +kernel
theorem tyJ6_ok : ∀ k, k < 0 → parseFieldDescriptor (TJ6 k).2.2.1 = some (tyJ6 k) := by decide +kernel
abbrev cJ6_bitCount_0f7a4 : ByteArray := prog_10_method_49_code
def yJ6_bitCount_0f7a4 : MethodName := ⟨RJ6, "bitCount", "(I)I"⟩
def RJ9 : String := "java/lang/Math"
def TJ9 : u_T := fun k => match k with
  | _ => ("", "", "", false)
def tyJ9 : Nat → FieldType := fun k => match k with
  | _ => .int
abbrev wsJ90 : List Cond := u_ws RJ9 TJ9 0
theorem nmJ9 : ∀ a, a < 0 → ∀ b, b < 0 → a ≠ b → (TJ9 a).2.1 ≠ (TJ9 b).2.1 := by decide +kernel
theorem tyJ9_ok : ∀ k, k < 0 → parseFieldDescriptor (TJ9 k).2.2.1 = some (tyJ9 k) := by decide +kernel
abbrev cJ9_floorMod_7cf53 : ByteArray := prog_11_method_50_code
def yJ9_floorMod_7cf53 : MethodName := ⟨RJ9, "floorMod", "(II)I"⟩
abbrev cJ9_max_7cf53 : ByteArray := prog_11_method_65_code
def yJ9_max_7cf53 : MethodName := ⟨RJ9, "max", "(II)I"⟩
abbrev cJ9_min_7cf53 : ByteArray := prog_11_method_69_code
def yJ9_min_7cf53 : MethodName := ⟨RJ9, "min", "(II)I"⟩
def RJ10 : String := "java/lang/System"
def TJ10 : u_T := fun k => match k with
  | _ => ("", "", "", false)
def tyJ10 : Nat → FieldType := fun k => match k with
  | _ => .int
abbrev wsJ100 : List Cond := u_ws RJ10 TJ10 0
theorem nmJ10 : ∀ a, a < 0 → ∀ b, b < 0 → a ≠ b → (TJ10 a).2.1 ≠ (TJ10 b).2.1 := by decide +kernel
theorem tyJ10_ok : ∀ k, k < 0 → parseFieldDescriptor (TJ10 k).2.2.1 = some (tyJ10 k) := by decide +kernel
def RJ7 : String := "java/util/Arrays"
def TJ7 : u_T := fun k => match k with
  | _ => ("", "", "", false)
def tyJ7 : Nat → FieldType := fun k => match k with
  | _ => .int
abbrev wsJ70 : List Cond := u_ws RJ7 TJ7 0
theorem nmJ7 : ∀ a, a < 0 → ∀ b, b < 0 → a ≠ b → (TJ7 a).2.1 ≠ (TJ7 b).2.1 := by decide +kernel
theorem tyJ7_ok : ∀ k, k < 0 → parseFieldDescriptor (TJ7 k).2.2.1 = some (tyJ7 k) := by decide +kernel
abbrev cJ7_fill_d0a16 : ByteArray := prog_13_method_101_code
def yJ7_fill_d0a16 : MethodName := ⟨RJ7, "fill", "([JJ)V"⟩
abbrev cJ7_fill_53178 : ByteArray := prog_13_method_103_code
def yJ7_fill_53178 : MethodName := ⟨RJ7, "fill", "([II)V"⟩
abbrev cJ7_fill_fb410 : ByteArray := prog_13_method_105_code
def yJ7_fill_fb410 : MethodName := ⟨RJ7, "fill", "([SS)V"⟩
def RL : String := "PatienceDeskLaw"
abbrev cL_law : ByteArray := code
def yL_law : MethodName := ⟨RL, "law", "([I)Z"⟩
end
section
/-! THE PURE MACHINE: a memory of ints and longs by place and index, blocks of instructions, what must hold ahead of a block -/
/-- the words of the tables that stay while the machine runs -/
def pm_TB : List Cond := lw_tbl.filter goodWord
theorem pm_TB_of {w : Cond} (h : w ∈ lw_tbl) (hg : goodWord w = true) : w ∈ pm_TB := List.mem_filter.mpr ⟨h, hg⟩
def pm_iT (w : Cond) : Bool := goodWord w && lw_tbl.contains w
theorem pm_iT_in {w : Cond} (h : pm_iT w = true) : w ∈ pm_TB := by
  simp only [pm_iT, Bool.and_eq_true, List.contains_iff_mem] at h
  exact pm_TB_of h.2 h.1
theorem pm_TB_in {w : Cond} (h : w ∈ pm_TB) : w ∈ lw_tbl := (List.mem_filter.mp h).1
theorem pm_TB_good {w : Cond} (h : w ∈ pm_TB) : (w.onTables && w.keeps) = true ∨ ∃ ty, w = .arrayClass ty := good_of_word (List.mem_filter.mp h).2
/-- the links between nest mates: they stay too, by rows of their own -/
def pm_nest : Cond → Bool
  | .fieldLinkNest .. => true
  | .methodLinkNest .. => true
  | _ => false
def pm_NB : List Cond := lw_tbl.filter pm_nest
def pm_iN (w : Cond) : Bool := pm_nest w && lw_tbl.contains w
theorem pm_iN_in {w : Cond} (h : pm_iN w = true) : w ∈ pm_NB := by
  simp only [pm_iN, Bool.and_eq_true, List.contains_iff_mem] at h
  exact List.mem_filter.mpr ⟨h.2, h.1⟩
def pm_NW (U : State) : Prop := ∀ w ∈ pm_NB, va_Nw w U
theorem pm_NW.warm {s U : State} (hW : s.WarmedH U.vm) (h : pm_NW s) : pm_NW U := by
  intro w hw
  have hn := (List.mem_filter.mp hw).2
  have h1 := h w hw
  unfold pm_nest at hn
  split at hn
  · exact va_Nw.warmF hW h1
  · exact va_Nw.warmM hW h1
  · cases hn
theorem pm_NW.same {u U : State} (e : u.vm = U.vm) (h : pm_NW u) : pm_NW U := by
  intro w hw
  have hn := (List.mem_filter.mp hw).2
  have h1 := h w hw
  unfold pm_nest at hn
  split at hn
  · exact va_Nw.same rfl e h1
  · exact va_Nw.same rfl e h1
  · cases hn
abbrev pm_cl : List vw_C := [(RX0, TX0, 8), (RX1, TX1, 4), (RX2, TX2, 2), (RX3, TX3, 9), (RX4, TX4, 7), (RX5, TX5, 4), (RX6, TX6, 10), (RX7, TX7, 42)]
/-- ints, longs -/
abbrev pm_M : Type := (Nat → Nat → Int32) × (Nat → Nat → Int64)
/-- a place: an array of the type t (0 int, 1 byte, 2 boolean, 3 short, 4 long) of n; an array of references to places; an object of the class ci with its fields (none: an int; some q: a reference to the place q) -/
abbrev pm_S : Type := (Nat × Nat) ⊕ (List Nat ⊕ (Nat × List (Option Nat)))
abbrev pm_L : Type := List (Nat × Value)
/-- what a method does: what must hold ahead of it so that k holds of its answer and the memory behind it -/
abbrev pm_T : Type := List Value → pm_M → (Option Value → pm_M → Prop) → Prop
/-- an instruction: pc, itself, its bytes, numbers looked up ahead (2), its targets with the locals that live there -/
abbrev pm_I : Type := Nat × Instr × Nat × Nat × Nat × List (Nat × List Nat)
/-- a block: its instructions, what follows -/
abbrev pm_B : Type := List pm_I × (Nat × List Nat)
/-- a call: static, index, the receiver's class, how many arguments (the receiver too), what it returns, what it does -/
abbrev pm_C : Type := Bool × Nat × Nat × Nat × Option FieldType × pm_T
abbrev pm_X : Type := Nat → pm_L → List Value → pm_M → Prop
abbrev pm_K : Type := pm_L → List Value → pm_M → Prop
def pm_set (M : pm_M) (q i : Nat) (v : Int32) : pm_M := (fun a j => if a = q ∧ j = i then v else M.1 a j, M.2)
def pm_setL (M : pm_M) (q i : Nat) (v : Int64) : pm_M := (M.1, fun a j => if a = q ∧ j = i then v else M.2 a j)
/-- n of the ints of q0 from a on come to q1 from b on -/
def pm_cpy (M : pm_M) (q0 a q1 b n : Nat) : pm_M := (fun q j => if q = q1 ∧ b ≤ j ∧ j < b + n then M.1 q0 (a + (j - b)) else M.1 q j, M.2)
def pm_cpyL (M : pm_M) (q0 a q1 b n : Nat) : pm_M := (M.1, fun q j => if q = q1 ∧ b ≤ j ∧ j < b + n then M.2 q0 (a + (j - b)) else M.2 q j)
def pm_c (a b : Nat) : Int32 := if b = 0 then nI a else -nI a
def pm_laws : List Int32 := [1, 3, 5, 11, 21]
-- the locals
def pm_lk : pm_L → Nat → Option Value
  | [], _ => none
  | (j, v) :: r, i => if i = j then some v else pm_lk r i
def pm_rm (i : Nat) : pm_L → pm_L
  | [] => []
  | (j, v) :: r => if j = i then pm_rm i r else if j + 1 = i then (if v.category = 2 then pm_rm i r else (j, v) :: pm_rm i r) else (j, v) :: pm_rm i r
def pm_rs : List Nat → pm_L → pm_L
  | [], _ => []
  | i :: is, lv => match pm_lk lv i with
    | some v => (i, v) :: pm_rs is lv
    | none => pm_rs is lv
theorem pm_lk_in {lv : pm_L} {i : Nat} {v : Value} (h : pm_lk lv i = some v) : (i, v) ∈ lv := by
  induction lv with
  | nil => cases h
  | cons a r ih =>
    obtain ⟨j, w⟩ := a
    unfold pm_lk at h
    split at h
    · next e => cases h; subst e; exact List.mem_cons_self
    · exact List.mem_cons_of_mem _ (ih h)
theorem pm_rm_in {lv : pm_L} {i : Nat} {q : Nat × Value} (h : q ∈ pm_rm i lv) : q ∈ lv ∧ q.1 ≠ i ∧ ¬ (q.1 + 1 = i ∧ q.2.category = 2) := by
  induction lv with
  | nil => cases h
  | cons a r ih =>
    obtain ⟨j, w⟩ := a
    unfold pm_rm at h
    split at h
    · exact ⟨List.mem_cons_of_mem _ (ih h).1, (ih h).2⟩
    · next n1 =>
      split at h
      · split at h
        · exact ⟨List.mem_cons_of_mem _ (ih h).1, (ih h).2⟩
        · next n2 =>
          rcases List.mem_cons.mp h with e | e
          · subst e; exact ⟨List.mem_cons_self, n1, fun x => n2 x.2⟩
          · exact ⟨List.mem_cons_of_mem _ (ih e).1, (ih e).2⟩
      · next n2 =>
        rcases List.mem_cons.mp h with e | e
        · subst e; exact ⟨List.mem_cons_self, n1, fun x => n2 x.1⟩
        · exact ⟨List.mem_cons_of_mem _ (ih e).1, (ih e).2⟩
theorem pm_rs_in {is : List Nat} {lv : pm_L} {q : Nat × Value} (h : q ∈ pm_rs is lv) : q ∈ lv := by
  induction is with
  | nil => cases h
  | cons i is ih =>
    unfold pm_rs at h
    split at h
    · next v e =>
      rcases List.mem_cons.mp h with x | x
      · subst x; exact pm_lk_in e
      · exact ih x
    · exact ih h
-- the stack
def pm_i (st : List Value) (f : Int32 → List Value → Prop) : Prop := match st with | .int x :: r => f x r | _ => False
def pm_ii (st : List Value) (f : Int32 → Int32 → List Value → Prop) : Prop := match st with | .int y :: .int x :: r => f x y r | _ => False
def pm_l (st : List Value) (f : Int64 → List Value → Prop) : Prop := match st with | .long x :: r => f x r | _ => False
def pm_ll (st : List Value) (f : Int64 → Int64 → List Value → Prop) : Prop := match st with | .long y :: .long x :: r => f x y r | _ => False
def pm_li (st : List Value) (f : Int64 → Int32 → List Value → Prop) : Prop := match st with | .int y :: .long x :: r => f x y r | _ => False
def pm_r (st : List Value) (f : Nat → List Value → Prop) : Prop := match st with | .ref q :: r => f q r | _ => False
def pm_ri (st : List Value) (f : Nat → Int32 → List Value → Prop) : Prop := match st with | .int i :: .ref q :: r => f q i r | _ => False
def pm_rii (st : List Value) (f : Nat → Int32 → Int32 → List Value → Prop) : Prop := match st with | .int x :: .int i :: .ref q :: r => f q i x r | _ => False
def pm_ril (st : List Value) (f : Nat → Int32 → Int64 → List Value → Prop) : Prop := match st with | .long x :: .int i :: .ref q :: r => f q i x r | _ => False
def pm_si (st : List Value) (f : Int32 → List Value → Prop) : Prop := match st with | .int i :: .retAddr _ :: r => f i r | _ => False
def pm_v1 (st : List Value) (f : Value → List Value → Prop) : Prop := match st with | v :: r => v.category = 1 ∧ f v r | _ => False
def pm_v2 (st : List Value) (f : Value → Value → List Value → Prop) : Prop := match st with | v :: w :: r => v.category = 1 ∧ w.category = 1 ∧ f v w r | _ => False
def pm_v3 (st : List Value) (f : Value → Value → Value → List Value → Prop) : Prop := match st with | v :: w :: x :: r => v.category = 1 ∧ w.category = 1 ∧ x.category = 1 ∧ f v w x r | _ => False
def pm_cp (st : List Value) (f : Nat → Int32 → Nat → Int32 → Int32 → List Value → Prop) : Prop := match st with | .int n :: .int b :: .ref q1 :: .int a :: .ref q0 :: r => f q0 a q1 b n r | _ => False
theorem pm_i_e {st : List Value} {f : Int32 → List Value → Prop} (h : pm_i st f) : ∃ x r, st = .int x :: r ∧ f x r := by
  unfold pm_i at h; split at h
  · exact ⟨_, _, rfl, h⟩
  · exact h.elim
theorem pm_ii_e {st : List Value} {f : Int32 → Int32 → List Value → Prop} (h : pm_ii st f) : ∃ x y r, st = .int y :: .int x :: r ∧ f x y r := by
  unfold pm_ii at h; split at h
  · exact ⟨_, _, _, rfl, h⟩
  · exact h.elim
theorem pm_l_e {st : List Value} {f : Int64 → List Value → Prop} (h : pm_l st f) : ∃ x r, st = .long x :: r ∧ f x r := by
  unfold pm_l at h; split at h
  · exact ⟨_, _, rfl, h⟩
  · exact h.elim
theorem pm_ll_e {st : List Value} {f : Int64 → Int64 → List Value → Prop} (h : pm_ll st f) : ∃ x y r, st = .long y :: .long x :: r ∧ f x y r := by
  unfold pm_ll at h; split at h
  · exact ⟨_, _, _, rfl, h⟩
  · exact h.elim
theorem pm_li_e {st : List Value} {f : Int64 → Int32 → List Value → Prop} (h : pm_li st f) : ∃ x y r, st = .int y :: .long x :: r ∧ f x y r := by
  unfold pm_li at h; split at h
  · exact ⟨_, _, _, rfl, h⟩
  · exact h.elim
theorem pm_r_e {st : List Value} {f : Nat → List Value → Prop} (h : pm_r st f) : ∃ q r, st = .ref q :: r ∧ f q r := by
  unfold pm_r at h; split at h
  · exact ⟨_, _, rfl, h⟩
  · exact h.elim
theorem pm_ri_e {st : List Value} {f : Nat → Int32 → List Value → Prop} (h : pm_ri st f) : ∃ q i r, st = .int i :: .ref q :: r ∧ f q i r := by
  unfold pm_ri at h; split at h
  · exact ⟨_, _, _, rfl, h⟩
  · exact h.elim
theorem pm_rii_e {st : List Value} {f : Nat → Int32 → Int32 → List Value → Prop} (h : pm_rii st f) : ∃ q i x r, st = .int x :: .int i :: .ref q :: r ∧ f q i x r := by
  unfold pm_rii at h; split at h
  · exact ⟨_, _, _, _, rfl, h⟩
  · exact h.elim
theorem pm_ril_e {st : List Value} {f : Nat → Int32 → Int64 → List Value → Prop} (h : pm_ril st f) : ∃ q i x r, st = .long x :: .int i :: .ref q :: r ∧ f q i x r := by
  unfold pm_ril at h; split at h
  · exact ⟨_, _, _, _, rfl, h⟩
  · exact h.elim
theorem pm_si_e {st : List Value} {f : Int32 → List Value → Prop} (h : pm_si st f) : ∃ i n r, st = .int i :: .retAddr n :: r ∧ f i r := by
  unfold pm_si at h; split at h
  · exact ⟨_, _, _, rfl, h⟩
  · exact h.elim
theorem pm_v1_e {st : List Value} {f : Value → List Value → Prop} (h : pm_v1 st f) : ∃ v r, st = v :: r ∧ v.category = 1 ∧ f v r := by
  unfold pm_v1 at h; split at h
  · exact ⟨_, _, rfl, h⟩
  · exact h.elim
theorem pm_v2_e {st : List Value} {f : Value → Value → List Value → Prop} (h : pm_v2 st f) : ∃ v w r, st = v :: w :: r ∧ v.category = 1 ∧ w.category = 1 ∧ f v w r := by
  unfold pm_v2 at h; split at h
  · exact ⟨_, _, _, rfl, h⟩
  · exact h.elim
theorem pm_v3_e {st : List Value} {f : Value → Value → Value → List Value → Prop} (h : pm_v3 st f) : ∃ v w x r, st = v :: w :: x :: r ∧ v.category = 1 ∧ w.category = 1 ∧ x.category = 1 ∧ f v w x r := by
  unfold pm_v3 at h; split at h
  · exact ⟨_, _, _, _, rfl, h⟩
  · exact h.elim
theorem pm_cp_e {st : List Value} {f : Nat → Int32 → Nat → Int32 → Int32 → List Value → Prop} (h : pm_cp st f) : ∃ q0 a q1 b n r, st = .int n :: .int b :: .ref q1 :: .int a :: .ref q0 :: r ∧ f q0 a q1 b n r := by
  unfold pm_cp at h; split at h
  · exact ⟨_, _, _, _, _, _, rfl, h⟩
  · exact h.elim
-- loads
def pm_ldi (lv : pm_L) (i : Nat) (f : Int32 → Prop) : Prop := match pm_lk lv i with | some (.int x) => f x | _ => False
def pm_ldl (lv : pm_L) (i : Nat) (f : Int64 → Prop) : Prop := match pm_lk lv i with | some (.long x) => f x | _ => False
def pm_ldr (lv : pm_L) (i : Nat) (f : Nat → Prop) : Prop := match pm_lk lv i with | some (.ref x) => f x | _ => False
theorem pm_ldi_e {lv : pm_L} {i : Nat} {f : Int32 → Prop} (h : pm_ldi lv i f) : ∃ x, (i, Value.int x) ∈ lv ∧ f x := by
  unfold pm_ldi at h; split at h
  · next e => exact ⟨_, pm_lk_in e, h⟩
  · exact h.elim
theorem pm_ldl_e {lv : pm_L} {i : Nat} {f : Int64 → Prop} (h : pm_ldl lv i f) : ∃ x, (i, Value.long x) ∈ lv ∧ f x := by
  unfold pm_ldl at h; split at h
  · next e => exact ⟨_, pm_lk_in e, h⟩
  · exact h.elim
theorem pm_ldr_e {lv : pm_L} {i : Nat} {f : Nat → Prop} (h : pm_ldr lv i f) : ∃ x, (i, Value.ref x) ∈ lv ∧ f x := by
  unfold pm_ldr at h; split at h
  · next e => exact ⟨_, pm_lk_in e, h⟩
  · exact h.elim
-- shapes
def pm_arr (SH : List pm_S) (q : Nat) (f : Nat → Nat → Prop) : Prop := match SH[q]? with | some (.inl (t, n)) => f t n | _ => False
def pm_refs (SH : List pm_S) (q : Nat) (f : List Nat → Prop) : Prop := match SH[q]? with | some (.inr (.inl ps)) => f ps | _ => False
def pm_obj (SH : List pm_S) (q ci : Nat) (f : List (Option Nat) → Prop) : Prop := match SH[q]? with | some (.inr (.inr (cj, fs))) => cj = ci ∧ f fs | _ => False
theorem pm_arr_e {SH : List pm_S} {q : Nat} {f : Nat → Nat → Prop} (h : pm_arr SH q f) : ∃ t n, SH[q]? = some (.inl (t, n)) ∧ f t n := by
  unfold pm_arr at h; split at h
  · next e => exact ⟨_, _, e, h⟩
  · exact h.elim
theorem pm_refs_e {SH : List pm_S} {q : Nat} {f : List Nat → Prop} (h : pm_refs SH q f) : ∃ ps, SH[q]? = some (.inr (.inl ps)) ∧ f ps := by
  unfold pm_refs at h; split at h
  · next e => exact ⟨_, e, h⟩
  · exact h.elim
theorem pm_obj_e {SH : List pm_S} {q ci : Nat} {f : List (Option Nat) → Prop} (h : pm_obj SH q ci f) : ∃ fs, SH[q]? = some (.inr (.inr (ci, fs))) ∧ f fs := by
  unfold pm_obj at h; split at h
  · next e => obtain ⟨rfl, h⟩ := h; exact ⟨_, e, h⟩
  · exact h.elim
/-- a field's value -/
def pm_fv (M : pm_M) (q k : Nat) : Option Nat → Value
  | none => .int (M.1 q k)
  | some r => .ref r
def pm_fld (fs : List (Option Nat)) (k : Nat) (f : Option Nat → Prop) : Prop := match fs[k]? with | some x => f x | none => False
theorem pm_fld_e {fs : List (Option Nat)} {k : Nat} {f : Option Nat → Prop} (h : pm_fld fs k f) : ∃ x, fs[k]? = some x ∧ f x := by
  unfold pm_fld at h; split at h
  · next e => exact ⟨_, e, h⟩
  · exact h.elim
/-- a jump -/
def pm_go (X : pm_X) (ts : List (Nat × List Nat)) (lv : pm_L) (st : List Value) (M : pm_M) : Prop := match ts with | (t, is) :: _ => X t (pm_rs is lv) st M | [] => False
def pm_sw (X : pm_X) (x : Int32) : Int → List (Nat × List Nat) → pm_L → List Value → pm_M → Prop
  | _, [], _, _, _ => True
  | lo, (t, is) :: ts, lv, st, M => (x.toInt = lo → X t (pm_rs is lv) st M) ∧ pm_sw X x (lo + 1) ts lv st M
def pm_recv (SH : List pm_S) (c : pm_C) (as : List Value) : Prop := match as with | .ref q :: _ => pm_obj SH q c.2.2.1 (fun _ => True) | _ => False
def pm_call (SH : List pm_S) (c : pm_C) (st : List Value) (M : pm_M) (K : List Value → pm_M → Prop) : Prop :=
  c.2.2.2.1 ≤ st.length ∧ (c.1 = false → pm_recv SH c (st.take c.2.2.2.1).reverse) ∧ ((st.drop c.2.2.2.1).map fun v => v.category).sum ≤ 8 ∧ c.2.2.2.2.2 (st.take c.2.2.2.1).reverse M (fun r M' => K (r.toList ++ st.drop c.2.2.2.1) M')
end
section
/-- what must hold ahead of an instruction so that K holds behind it (X: of where it jumps, k: of what is returned) -/
def pm_step (SH : List pm_S) (CT : List pm_C) (ret : Option FieldType) (X : pm_X) (k : Option Value → pm_M → Prop) (it : pm_I) (lv : pm_L) (st : List Value) (M : pm_M) (K : pm_K) : Prop :=
  match it with
  | (_, i, _, a, b, ts) => match i with
    | .aload_n j => pm_ldr lv j.val (fun q => K lv (.ref q :: st) M)
    | .aload j => pm_ldr lv j (fun q => K lv (.ref q :: st) M)
    | .iload_n j => pm_ldi lv j.val (fun x => K lv (.int x :: st) M)
    | .iload j => pm_ldi lv j (fun x => K lv (.int x :: st) M)
    | .lload_n j => pm_ldl lv j.val (fun x => K lv (.long x :: st) M)
    | .lload j => pm_ldl lv j (fun x => K lv (.long x :: st) M)
    | .istore_n j => pm_i st (fun x r => K ((j.val, .int x) :: pm_rm j.val lv) r M)
    | .istore j => pm_i st (fun x r => K ((j, .int x) :: pm_rm j lv) r M)
    | .lstore_n j => pm_l st (fun x r => K ((j.val, .long x) :: pm_rm (j.val + 1) (pm_rm j.val lv)) r M)
    | .lstore j => pm_l st (fun x r => K ((j, .long x) :: pm_rm (j + 1) (pm_rm j lv)) r M)
    | .astore_n j => pm_r st (fun q r => K ((j.val, .ref q) :: pm_rm j.val lv) r M)
    | .astore j => pm_r st (fun q r => K ((j, .ref q) :: pm_rm j lv) r M)
    | .iinc j _ => pm_ldi lv j (fun x => K ((j, .int (x + pm_c a b)) :: pm_rm j lv) st M)
    | .iconst _ => K lv (.int (pm_c a b) :: st) M
    | .bipush _ => K lv (.int (pm_c a b) :: st) M
    | .sipush _ => K lv (.int (pm_c a b) :: st) M
    | .ldc _ => K lv (.int (pm_c a b) :: st) M
    | .ldc_w _ => K lv (.int (pm_c a b) :: st) M
    | .lconst _ => K lv (.long (lN a) :: st) M
    | .ldc2_w _ => K lv (.long (lN a) :: st) M
    | .iadd => pm_ii st (fun x y r => K lv (.int (x + y) :: r) M)
    | .isub => pm_ii st (fun x y r => K lv (.int (x - y) :: r) M)
    | .imul => pm_ii st (fun x y r => K lv (.int (x * y) :: r) M)
    | .iand => pm_ii st (fun x y r => K lv (.int (x &&& y) :: r) M)
    | .ior => pm_ii st (fun x y r => K lv (.int (x ||| y) :: r) M)
    | .ixor => pm_ii st (fun x y r => K lv (.int (x ^^^ y) :: r) M)
    | .idiv => pm_ii st (fun x y r => ¬ y = 0 ∧ K lv (.int (x / y) :: r) M)
    | .irem => pm_ii st (fun x y r => ¬ y = 0 ∧ K lv (.int (x - x / y * y) :: r) M)
    | .ishl => pm_ii st (fun x y r => K lv (.int (x <<< (y &&& 31)) :: r) M)
    | .ishr => pm_ii st (fun x y r => K lv (.int (x >>> (y &&& 31)) :: r) M)
    | .iushr => pm_ii st (fun x y r => K lv (.int (x.toUInt32 >>> (y.toUInt32 &&& Int32.toUInt32 31)).toInt32 :: r) M)
    | .lsub => pm_ll st (fun x y r => K lv (.long (x - y) :: r) M)
    | .lmul => pm_ll st (fun x y r => K lv (.long (x * y) :: r) M)
    | .land => pm_ll st (fun x y r => K lv (.long (x &&& y) :: r) M)
    | .lor => pm_ll st (fun x y r => K lv (.long (x ||| y) :: r) M)
    | .lxor => pm_ll st (fun x y r => K lv (.long (x ^^^ y) :: r) M)
    | .lcmp => pm_ll st (fun x y r => K lv (.int (lg_cmp x y) :: r) M)
    | .lshl => pm_li st (fun x y r => K lv (.long (x <<< (y.toInt64 &&& 63)) :: r) M)
    | .lushr => pm_li st (fun x y r => K lv (.long (x.toUInt64 >>> (y.toInt64.toUInt64 &&& Int64.toUInt64 63)).toInt64 :: r) M)
    | .i2l => pm_i st (fun x r => K lv (.long x.toInt64 :: r) M)
    | .l2i => pm_l st (fun x r => K lv (.int x.toInt32 :: r) M)
    | .i2b => pm_i st (fun x r => K lv (.int x.toInt8.toInt32 :: r) M)
    | .i2s => pm_i st (fun x r => K lv (.int x.toInt16.toInt32 :: r) M)
    | .dup => pm_v1 st (fun v r => K lv (v :: v :: r) M)
    | .pop => pm_v1 st (fun _ r => K lv r M)
    | .dup_x1 => pm_v2 st (fun v w r => K lv (v :: w :: v :: r) M)
    | .dup_x2 => pm_v3 st (fun v w x r => K lv (v :: w :: x :: v :: r) M)
    | .dup2 => pm_v2 st (fun v w r => K lv (v :: w :: v :: w :: r) M)
    | .ifCond .eq _ => pm_i st (fun x r => (x = 0 → pm_go X ts lv r M) ∧ (¬ x = 0 → K lv r M))
    | .ifCond .ne _ => pm_i st (fun x r => (¬ x = 0 → pm_go X ts lv r M) ∧ (x = 0 → K lv r M))
    | .ifCond .lt _ => pm_i st (fun x r => (x < 0 → pm_go X ts lv r M) ∧ (¬ x < 0 → K lv r M))
    | .ifCond .ge _ => pm_i st (fun x r => (0 ≤ x → pm_go X ts lv r M) ∧ (¬ 0 ≤ x → K lv r M))
    | .ifCond .gt _ => pm_i st (fun x r => (0 < x → pm_go X ts lv r M) ∧ (¬ 0 < x → K lv r M))
    | .ifCond .le _ => pm_i st (fun x r => (x ≤ 0 → pm_go X ts lv r M) ∧ (¬ x ≤ 0 → K lv r M))
    | .if_icmp .eq _ => pm_ii st (fun x y r => (x = y → pm_go X ts lv r M) ∧ (¬ x = y → K lv r M))
    | .if_icmp .ne _ => pm_ii st (fun x y r => (¬ x = y → pm_go X ts lv r M) ∧ (x = y → K lv r M))
    | .if_icmp .lt _ => pm_ii st (fun x y r => (x < y → pm_go X ts lv r M) ∧ (¬ x < y → K lv r M))
    | .if_icmp .ge _ => pm_ii st (fun x y r => (y ≤ x → pm_go X ts lv r M) ∧ (¬ y ≤ x → K lv r M))
    | .if_icmp .gt _ => pm_ii st (fun x y r => (y < x → pm_go X ts lv r M) ∧ (¬ y < x → K lv r M))
    | .if_icmp .le _ => pm_ii st (fun x y r => (x ≤ y → pm_go X ts lv r M) ∧ (¬ x ≤ y → K lv r M))
    | .goto _ => pm_go X ts lv st M
    | .tableswitch _ lo hi _ => pm_i st (fun x r => (x.toInt < lo ∨ hi < x.toInt → pm_go X ts lv r M) ∧ pm_sw X x lo (ts.drop 1) lv r M)
    | .getfield _ => pm_r st (fun q r => pm_obj SH q a (fun fs => pm_fld fs b (fun f => K lv (pm_fv M q b f :: r) M)))
    | .putfield _ => match st with
      | .int x :: .ref q :: r => pm_obj SH q (a % 100) (fun fs => pm_fld fs b (fun f => f = none ∧ (100 ≤ a → x = 0 ∨ x = 1) ∧ K lv r (pm_set M q b x)))
      | _ => False
    | .getstatic _ => K lv (.retAddr 0 :: st) M
    | .iaload => match a with
      | 0 => pm_ri st (fun q i r => pm_arr SH q (fun t n => t = 0 ∧ vp_in i n ∧ K lv (.int (M.1 q i.toNatClampNeg) :: r) M))
      | _ => pm_si st (fun i r => vp_in i 5 ∧ K lv (.int (pm_laws.getD i.toNatClampNeg 0) :: r) M)
    | .baload => pm_ri st (fun q i r => pm_arr SH q (fun t n => (t = 1 ∨ t = 2) ∧ vp_in i n ∧ K lv (.int (M.1 q i.toNatClampNeg) :: r) M))
    | .saload => pm_ri st (fun q i r => pm_arr SH q (fun t n => t = 3 ∧ vp_in i n ∧ K lv (.int (M.1 q i.toNatClampNeg) :: r) M))
    | .laload => pm_ri st (fun q i r => pm_arr SH q (fun t n => t = 4 ∧ vp_in i n ∧ K lv (.long (M.2 q i.toNatClampNeg) :: r) M))
    | .aaload => pm_ri st (fun q i r => pm_refs SH q (fun ps => vp_in i ps.length ∧ K lv (.ref (ps.getD i.toNatClampNeg 0) :: r) M))
    | .iastore => pm_rii st (fun q i x r => pm_arr SH q (fun t n => t = 0 ∧ vp_in i n ∧ K lv r (pm_set M q i.toNatClampNeg x)))
    | .bastore => pm_rii st (fun q i x r => pm_arr SH q (fun t n => (t = 1 ∧ vp_in i n ∧ K lv r (pm_set M q i.toNatClampNeg x.toInt8.toInt32)) ∨ (t = 2 ∧ (x = 0 ∨ x = 1) ∧ vp_in i n ∧ K lv r (pm_set M q i.toNatClampNeg x))))
    | .sastore => pm_rii st (fun q i x r => pm_arr SH q (fun t n => t = 3 ∧ vp_in i n ∧ K lv r (pm_set M q i.toNatClampNeg x.toInt16.toInt32)))
    | .lastore => pm_ril st (fun q i x r => pm_arr SH q (fun t n => t = 4 ∧ vp_in i n ∧ K lv r (pm_setL M q i.toNatClampNeg x)))
    | .arraylength => pm_r st (fun q r => pm_arr SH q (fun t n => t < 5 ∧ K lv (.int (nI n) :: r) M))
    | .invokevirtual _ => match CT[a]? with
      | some c => pm_call SH c st M (fun st M => K lv st M)
      | none => False
    | .invokestatic _ => match b with
      | 0 => match CT[a]? with
        | some c => pm_call SH c st M (fun st M => K lv st M)
        | none => False
      | 1 => pm_cp st (fun q0 x q1 y n r => pm_arr SH q0 (fun t0 n0 => pm_arr SH q1 (fun t1 n1 => t0 = 0 ∧ t1 = 0 ∧ ¬ x < 0 ∧ ¬ y < 0 ∧ ¬ n < 0 ∧ x.toNatClampNeg + n.toNatClampNeg ≤ n0 ∧ y.toNatClampNeg + n.toNatClampNeg ≤ n1 ∧ (r.map fun v => v.category).sum ≤ 8 ∧ K lv r (pm_cpy M q0 x.toNatClampNeg q1 y.toNatClampNeg n.toNatClampNeg))))
      | _ => pm_cp st (fun q0 x q1 y n r => pm_arr SH q0 (fun t0 n0 => pm_arr SH q1 (fun t1 n1 => t0 = 4 ∧ t1 = 4 ∧ ¬ x < 0 ∧ ¬ y < 0 ∧ ¬ n < 0 ∧ x.toNatClampNeg + n.toNatClampNeg ≤ n0 ∧ y.toNatClampNeg + n.toNatClampNeg ≤ n1 ∧ (r.map fun v => v.category).sum ≤ 8 ∧ K lv r (pm_cpyL M q0 x.toNatClampNeg q1 y.toNatClampNeg n.toNatClampNeg))))
    | .ireturn => match st with
      | [.int x] => (ret = some .int ∨ (ret = some .boolean ∧ (x = 0 ∨ x = 1))) ∧ k (some (.int x)) M
      | _ => False
    | .lreturn => match st with
      | [.long x] => ret = some .long ∧ k (some (.long x)) M
      | _ => False
    | .return_ => match st with
      | [] => ret = none ∧ k none M
      | _ => False
    | _ => False
def pm_wp (SH : List pm_S) (CT : List pm_C) (ret : Option FieldType) (X : pm_X) (k : Option Value → pm_M → Prop) (nx : Nat × List Nat) : List pm_I → pm_L → List Value → pm_M → Prop
  | [], lv, st, M => pm_go X [nx] lv st M
  | it :: is, lv, st, M => pm_step SH CT ret X k it lv st M (fun lv st M => pm_wp SH CT ret X k nx is lv st M)
/-- what a program checks of an instruction ahead of time -/
def pm_ck (own : String) (nL : Nat) (cs : List (Bool × Nat)) (pc : Nat) (i : Instr) (n a b : Nat) (ts : List (Nat × List Nat)) : Bool :=
  match i with
  | .aload_n _ | .iload_n _ | .lload_n _ => n == 1
  | .aload _ | .iload _ | .lload _ => n == 2
  | .istore_n j | .astore_n j => n == 1 && decide (j.val < nL)
  | .istore j | .astore j => n == 2 && decide (j < nL)
  | .lstore_n j => n == 1 && decide (j.val + 1 < nL)
  | .lstore j => n == 2 && decide (j + 1 < nL)
  | .iinc j z => n == 3 && decide (j < nL) && decide (Int32.ofInt z = pm_c a b)
  | .iconst z => n == 1 && decide (Int32.ofInt z = pm_c a b)
  | .bipush z => n == 2 && decide ((Int8.ofInt z).toInt32 = pm_c a b)
  | .sipush z => n == 3 && decide ((Int16.ofInt z).toInt32 = pm_c a b)
  | .ldc j => n == 2 && pm_iT (Cond.constant own j (pm_c a b))
  | .ldc_w j => n == 3 && pm_iT (Cond.constant own j (pm_c a b))
  | .lconst j => n == 1 && decide (j.val = a)
  | .ldc2_w j => n == 3 && pm_iT (Cond.constantLong own j (lN a))
  | .iadd | .isub | .imul | .iand | .ior | .ixor | .idiv | .irem | .ishl | .ishr | .iushr | .lsub | .lmul | .land | .lor | .lxor | .lcmp | .lshl | .lushr | .i2l | .l2i | .i2b | .i2s | .dup | .pop | .dup_x1 | .dup_x2 | .dup2 => n == 1
  | .ifCond _ off | .if_icmp _ off => n == 3 && match ts with | (t, _) :: _ => decide ((pc : Int) + off = (t : Int)) | [] => false
  | .goto off => n == 3 && match ts with | (t, _) :: _ => decide ((pc : Int) + off = (t : Int)) | [] => false
  | .tableswitch d lo hi offs => match ts with | (t, _) :: ts' => decide ((pc : Int) + d = (t : Int)) && decide (ts'.map (fun q => (q.1 : Int)) = offs.toList.map (fun o => (pc : Int) + o)) && decide (lo + (offs.size : Int) = hi + 1) | [] => false
  | .getfield j => n == 3 && match pm_cl[a]? with
    | some (_, T, N) => decide (b < N) && (pm_iT (Cond.fieldLink own j (T b).1 (T b).2.1 (T b).2.2.1) || pm_iN (Cond.fieldLinkNest own j (T b).1 (T b).2.1 (T b).2.2.1 RX6))
    | none => false
  | .putfield j => n == 3 && match pm_cl[a % 100]? with
    | some (_, T, N) => decide (b < N) && (pm_iT (Cond.fieldLink own j (T b).1 (T b).2.1 (T b).2.2.1) || pm_iN (Cond.fieldLinkNest own j (T b).1 (T b).2.1 (T b).2.2.1 RX6)) && decide ((T b).2.2.2 = false) && decide (parseFieldDescriptor (T b).2.2.1 = some (if 100 ≤ a then .boolean else .int))
    | none => false
  | .getstatic j => n == 3 && pm_iT (Cond.fieldLink own j "PatienceDesk" "LAWS_ABOVE" "[I")
  | .iaload | .baload | .saload | .laload | .aaload | .iastore | .bastore | .sastore | .lastore | .arraylength | .ireturn | .lreturn | .return_ => n == 1
  | .invokevirtual j => n == 3 && decide (cs[a]? = some (false, j))
  | .invokestatic j => n == 3 && (match b with | 0 => decide (cs[a]? = some (true, j)) | _ => pm_iT (Cond.methodLink own j arraycopyName))
  | _ => false
def pm_cks (own : String) (cc : ByteArray) (nL : Nat) (cs : List (Bool × Nat)) (nx : Nat × List Nat) : Nat → List pm_I → Bool
  | pc, [] => pc == nx.1
  | pc, (pc', i, n, a, b, ts) :: is => pc' == pc && decide (decode cc pc = .ok (i, n)) && pm_ck own nL cs pc i n a b ts && (match i, is with | .goto _, [] | .ireturn, [] | .lreturn, [] | .return_, [] | .tableswitch .., [] => true | _, _ => pm_cks own cc nL cs nx (pc + n) is)
def pm_ckB (own : String) (cc : ByteArray) (nL : Nat) (cs : List (Bool × Nat)) (bl : List (Nat × pm_B)) : Bool := bl.all (fun B => pm_cks own cc nL cs B.2.2 B.1 B.2.1)
end
section
/-! the pure memory in the machine's heap -/
def pm_tr (ad : Nat → Nat) : Value → Value
  | .ref q => .ref (ad q)
  | .retAddr _ => .ref (ad 1000)
  | v => v
theorem pm_tr_cat (ad : Nat → Nat) (v : Value) : (pm_tr ad v).category = v.category := by cases v <;> rfl
def pm_tp (ad : Nat → Nat) (q : Nat × Value) : Nat × Value := (q.1, pm_tr ad q.2)
def pm_tys (ct : Nat → ClassId) : List (ClassId × FieldType) := [(ct 0, .int), (ct 1, .byte), (ct 2, .boolean), (ct 3, .short), (ct 4, .long), (ct 5, .object "PatienceDesk$Tray")]
def pm_cell (ad : Nat → Nat) (ct : Nat → ClassId) (M : pm_M) (q : Nat) : pm_S → va_E
  | .inl (t, n) => .inl (ct t, n, if t = 4 then .inr (.inl (M.2 q)) else .inl (M.1 q))
  | .inr (.inl ps) => .inl (ct 5, ps.length, .inr (.inr (.inr (.inr (fun j => (ps[j]?).map ad)))))
  | .inr (.inr (ci, fs)) => .inr (ci, fs.mapIdx (fun j f => pm_tr ad (pm_fv M q j f)))
def pm_w (SH : List pm_S) (ad : Nat → Nat) (ct : Nat → ClassId) (M : pm_M) : va_W := SH.mapIdx (fun q sh => (ad q, pm_cell ad ct M q sh))
def pm_A (SH : List pm_S) (ad : Nat → Nat) : Nat → Prop := fun a => ∃ q, q < SH.length ∧ a = ad q
theorem pm_w_at {SH : List pm_S} {ad : Nat → Nat} {ct : Nat → ClassId} {M : pm_M} {q : Nat} {sh : pm_S} (h : SH[q]? = some sh) : (pm_w SH ad ct M)[q]? = some (ad q, pm_cell ad ct M q sh) := by
  simp [pm_w, h]
theorem pm_w_set {SH : List pm_S} {ad : Nat → Nat} {ct : Nat → ClassId} {M M' : pm_M} {q : Nat} {sh : pm_S} {e : va_E} (h : SH[q]? = some sh) (hM : ∀ a sh', a ≠ q → pm_cell ad ct M' a sh' = pm_cell ad ct M a sh') (he : pm_cell ad ct M' q sh = e) : (pm_w SH ad ct M).set q (ad q, e) = pm_w SH ad ct M' := by
  apply List.ext_getElem?
  intro j
  rw [List.getElem?_set]
  split
  · next e1 =>
    subst e1
    have hq : q < SH.length := (List.getElem?_eq_some_iff.mp h).1
    rw [pm_w_at h, he]
    simp [pm_w, hq]
  · next e1 =>
    cases hj : SH[j]? with
    | none => simp [pm_w, hj]
    | some sh' => rw [pm_w_at hj, pm_w_at hj, hM j sh' (fun x => e1 x.symm)]
theorem pm_set_ne {ad : Nat → Nat} {ct : Nat → ClassId} {M : pm_M} {q i : Nat} {v : Int32} (a : Nat) (sh : pm_S) (h : a ≠ q) : pm_cell ad ct (pm_set M q i v) a sh = pm_cell ad ct M a sh := by
  rcases sh with ⟨t, n⟩ | ps | ⟨ci, fs⟩
  · simp [pm_cell, pm_set, h]
  · rfl
  · have e : ∀ j f, pm_fv (pm_set M q i v) a j f = pm_fv M a j f := fun j f => by cases f <;> simp [pm_fv, pm_set, h]
    simp [pm_cell, e]
theorem pm_setL_ne {ad : Nat → Nat} {ct : Nat → ClassId} {M : pm_M} {q i : Nat} {v : Int64} (a : Nat) (sh : pm_S) (h : a ≠ q) : pm_cell ad ct (pm_setL M q i v) a sh = pm_cell ad ct M a sh := by
  rcases sh with ⟨t, n⟩ | ps | ⟨ci, fs⟩
  · simp [pm_cell, pm_setL, h]
  · rfl
  · have e : ∀ j f, pm_fv (pm_setL M q i v) a j f = pm_fv M a j f := fun j f => by cases f <;> rfl
    simp [pm_cell, e]
theorem pm_cpy_ne {ad : Nat → Nat} {ct : Nat → ClassId} {M : pm_M} {q0 x q y n : Nat} (a : Nat) (sh : pm_S) (h : a ≠ q) : pm_cell ad ct (pm_cpy M q0 x q y n) a sh = pm_cell ad ct M a sh := by
  rcases sh with ⟨t, n⟩ | ps | ⟨ci, fs⟩
  · simp [pm_cell, pm_cpy, h]
  · rfl
  · have e : ∀ j f, pm_fv (pm_cpy M q0 x q y n) a j f = pm_fv M a j f := fun j f => by cases f <;> simp [pm_fv, pm_cpy, h]
    simp [pm_cell, e]
theorem pm_cpyL_ne {ad : Nat → Nat} {ct : Nat → ClassId} {M : pm_M} {q0 x q y n : Nat} (a : Nat) (sh : pm_S) (h : a ≠ q) : pm_cell ad ct (pm_cpyL M q0 x q y n) a sh = pm_cell ad ct M a sh := by
  rcases sh with ⟨t, n⟩ | ps | ⟨ci, fs⟩
  · simp [pm_cell, pm_cpyL, h]
  · rfl
  · have e : ∀ j f, pm_fv (pm_cpyL M q0 x q y n) a j f = pm_fv M a j f := fun j f => by cases f <;> rfl
    simp [pm_cell, e]
theorem pm_cell_i {ad : Nat → Nat} {ct : Nat → ClassId} {M : pm_M} {q t n : Nat} (h : t ≠ 4) : pm_cell ad ct M q (.inl (t, n)) = .inl (ct t, n, .inl (M.1 q)) := by simp [pm_cell, h]
theorem pm_cell_l {ad : Nat → Nat} {ct : Nat → ClassId} {M : pm_M} {q n : Nat} : pm_cell ad ct M q (.inl (4, n)) = .inl (ct 4, n, .inr (.inl (M.2 q))) := by simp [pm_cell]
theorem pm_set_row {M : pm_M} {q i : Nat} {v : Int32} : (pm_set M q i v).1 q = upd (M.1 q) i v := by
  funext j; simp [pm_set, upd]
theorem pm_setL_row {M : pm_M} {q i : Nat} {v : Int64} : (pm_setL M q i v).2 q = vp_updL (M.2 q) i v := by
  funext j; simp [pm_setL, vp_updL]
theorem pm_cpy_row {M : pm_M} {q0 x q y n : Nat} : (pm_cpy M q0 x q y n).1 q = va_cpy (M.1 q0) (M.1 q) x y n := by
  funext j; simp [pm_cpy, va_cpy]
theorem pm_cpyL_row {M : pm_M} {q0 x q y n : Nat} : (pm_cpyL M q0 x q y n).2 q = va_cpy (M.2 q0) (M.2 q) x y n := by
  funext j; simp [pm_cpyL, va_cpy]
theorem pm_set_fs {ad : Nat → Nat} {M : pm_M} {q b : Nat} {x : Int32} {fs : List (Option Nat)} (h : fs[b]? = some none) : fs.mapIdx (fun j f => pm_tr ad (pm_fv (pm_set M q b x) q j f)) = (fs.mapIdx (fun j f => pm_tr ad (pm_fv M q j f))).set b (.int x) := by
  apply List.ext_getElem?
  intro j
  rw [List.getElem?_set]
  obtain ⟨hb, hb2⟩ := List.getElem?_eq_some_iff.mp h
  split
  · next e => subst e; simp [hb2, pm_fv, pm_set, pm_tr, hb]
  · next e =>
    cases hj : fs[j]? with
    | none => simp [hj]
    | some f => cases f with
      | none => simp [hj, pm_fv, pm_set, pm_tr, show ¬ j = b from fun x => e x.symm]
      | some r => simp [hj, pm_fv]
def pm_RO (SH : List pm_S) (ad : Nat → Nat) (U : State) (H : Heap) : Prop := va_Z "PatienceDesk" "LAWS_ABOVE" "[I" (.ref (ad 1000)) (pm_A SH ad) U H ∧ va_T .int (ad 1000) 5 (fun j => .int (pm_laws.getD j 0)) (pm_A SH ad) U H
theorem pm_RO.moved {SH : List pm_S} {ad : Nat → Nat} {u U : State} {H : Heap} (hvm : u.vm.Alike U.vm) (h : pm_RO SH ad u H) : pm_RO SH ad U H := ⟨h.1.moved hvm, h.2.moved hvm⟩
theorem pm_RO.kept {SH : List pm_S} {ad : Nat → Nat} {U : State} {H H1 : Heap} (h : pm_RO SH ad U H) (hq : ∀ a : Nat, a < H.size → ¬ pm_A SH ad a → H1[a]? = H[a]?) : pm_RO SH ad U H1 := ⟨h.1.kept hq, h.2.kept hq⟩
def pm_Wd (SH : List pm_S) (ad : Nat → Nat) (ct : Nat → ClassId) (D : va_G) (M : pm_M) (U : State) : Prop := va_P D pm_cl (pm_w SH ad ct M) U.heap ∧ va_K D pm_cl (pm_tys ct) U ∧ va_D (pm_A SH ad) (pm_w SH ad ct M) ∧ pm_RO SH ad U U.heap ∧ pm_NW U
theorem pm_D {SH : List pm_S} {ad : Nat → Nat} {ct : Nat → ClassId} {M : pm_M} (h : va_D (pm_A SH ad) (pm_w SH ad ct M)) (M' : pm_M) : va_D (pm_A SH ad) (pm_w SH ad ct M') := by
  have key : ∀ (i : Nat) (p : Nat × va_E), (pm_w SH ad ct M')[i]? = some p → ∃ p', (pm_w SH ad ct M)[i]? = some p' ∧ p'.1 = p.1 := by
    intro i p hp
    cases hj : SH[i]? with
    | none => simp [pm_w, hj] at hp
    | some sh =>
      rw [pm_w_at hj] at hp
      cases hp
      exact ⟨_, pm_w_at hj, rfl⟩
  refine ⟨fun i j p q hp hq e => ?_, fun k q hq => ?_⟩
  · obtain ⟨p', h1, e1⟩ := key i p hp
    obtain ⟨q', h2, e2⟩ := key j q hq
    exact h.1 i j p' q' h1 h2 (by rw [e1, e2, e])
  · obtain ⟨q', h2, e2⟩ := key k q hq
    rw [← e2]; exact h.2 k q' h2
def pm_Q (SH : List pm_S) (ad : Nat → Nat) (ct : Nat → ClassId) (D : va_G) (ret : Option FieldType) (k : Option Value → pm_M → Prop) : Array Value → State → Outcome → State → Prop := match ret with
  | none => va_Qv (fun u : pm_M => k none u) (fun u t => pm_Wd SH ad ct D u t) (pm_A SH ad)
  | some .long => va_Ql (fun (r : Int64) (u : pm_M) => k (some (.long r)) u) (fun u t => pm_Wd SH ad ct D u t) (pm_A SH ad)
  | some _ => va_Qi (fun (r : Int32) (u : pm_M) => k (some (.int r)) u) (fun u t => pm_Wd SH ad ct D u t) (pm_A SH ad)
def pm_rm0 (d : Nat) : Room := { frames := d, cells := 0, slots := 0, locals := 30 * d }
/-- a method does what T says -/
def pm_Sem (SH : List pm_S) (y : MethodName) (bb : ByteArray) (nL : Nat) (ret : Option FieldType) (d : Nat) (T : pm_T) : Prop :=
  ∀ (l : Launch) (ad : Nat → Nat) (ct : Nat → ClassId) (D : va_G) (args : List Value) (M : pm_M) (k : Option Value → pm_M → Prop), T args M k →
    Met l y (.code y bb nL ret :: pm_TB) (pm_rm0 d) (va_Pc (args.map (pm_tr ad)) (pm_Wd SH ad ct D M)) (pm_Q SH ad ct D ret k) 0 0 (pm_A SH ad)
/-- a call of it, by the tables -/
def pm_lk1 (own : String) (idx : Nat) (y : MethodName) : Bool := pm_iT (Cond.methodLink own idx y)
def pm_lk2 (own : String) (idx : Nat) (y : MethodName) : Bool := pm_iN (Cond.methodLinkNest own idx y RX6)
def pm_ckC (own : String) (c : Bool × Nat × Nat × Nat) (y : MethodName) (nL : Nat) : Bool :=
  decide (nL ≤ 10) && pm_iT (Cond.initialized y.cls) && decide (y.cls ≠ "java/lang/invoke/MethodHandle" ∧ y.cls ≠ "java/lang/invoke/VarHandle") && (pm_lk1 own c.2.1 y || pm_lk2 own c.2.1 y) &&
  (match c.1 with
   | true => pm_iT (Cond.static y) && decide ((parseMethodDescriptor y.desc).map (fun d => d.parameters.length) = some c.2.2.2)
   | false => pm_iT (Cond.instanceMethod y) && pm_iT (Cond.selects y.cls y y) && decide ((parseMethodDescriptor y.desc).map (fun d => d.parameters.length + 1) = some c.2.2.2) && decide ((pm_cl[c.2.2.1]?).map (fun q => q.1) = some y.cls))
def pm_Callee (SH : List pm_S) (own : String) (d : Nat) (c : pm_C) : Prop :=
  ∃ (y : MethodName) (bb : ByteArray) (nL d' : Nat), pm_Sem SH y bb nL c.2.2.2.2.1 d' c.2.2.2.2.2 ∧ d' + 1 ≤ d ∧ Cond.code y bb nL c.2.2.2.2.1 ∈ pm_TB ∧ pm_ckC own (c.1, c.2.1, c.2.2.1, c.2.2.2.1) y nL = true
theorem pm_lays0 : ∀ w ∈ u_ws RX0 TX0 8, w ∈ pm_TB := by decide +kernel
theorem pm_lays1 : ∀ w ∈ u_ws RX1 TX1 4, w ∈ pm_TB := by decide +kernel
theorem pm_lays2 : ∀ w ∈ u_ws RX2 TX2 2, w ∈ pm_TB := by decide +kernel
theorem pm_lays3 : ∀ w ∈ u_ws RX3 TX3 9, w ∈ pm_TB := by decide +kernel
theorem pm_lays4 : ∀ w ∈ u_ws RX4 TX4 7, w ∈ pm_TB := by decide +kernel
theorem pm_lays5 : ∀ w ∈ u_ws RX5 TX5 4, w ∈ pm_TB := by decide +kernel
theorem pm_lays6 : ∀ w ∈ u_ws RX6 TX6 10, w ∈ pm_TB := by decide +kernel
theorem pm_lays7 : ∀ w ∈ u_ws RX7 TX7 42, w ∈ pm_TB := by decide +kernel
theorem pm_lays {ci : Nat} {C : String} {T : u_T} {N : Nat} (h : pm_cl[ci]? = some (C, T, N)) : (∀ w ∈ u_ws C T N, w ∈ pm_TB) ∧ ∃ ty0 : Nat → FieldType, (∀ k, k < N → parseFieldDescriptor (T k).2.2.1 = some (ty0 k)) ∧ (∀ a, a < N → ∀ b, b < N → a ≠ b → (T a).2.1 ≠ (T b).2.1) := by
  match ci, h with
  | 0, h => cases h; exact ⟨pm_lays0, tyX0, tyX0_ok, nmX0⟩
  | 1, h => cases h; exact ⟨pm_lays1, tyX1, tyX1_ok, nmX1⟩
  | 2, h => cases h; exact ⟨pm_lays2, tyX2, tyX2_ok, nmX2⟩
  | 3, h => cases h; exact ⟨pm_lays3, tyX3, tyX3_ok, nmX3⟩
  | 4, h => cases h; exact ⟨pm_lays4, tyX4, tyX4_ok, nmX4⟩
  | 5, h => cases h; exact ⟨pm_lays5, tyX5, tyX5_ok, nmX5⟩
  | 6, h => cases h; exact ⟨pm_lays6, tyX6, tyX6_ok, nmX6⟩
  | 7, h => cases h; exact ⟨pm_lays7, tyX7, tyX7_ok, nmX7⟩
  | ci + 8, h => simp [pm_cl] at h
end
section
/-! WHAT THE PURE MACHINE SAYS HOLDS OF THE MACHINE -/
def pm_Cx (p : Program) (R : Room) (s : State) (m : MethodId) (args : Array Value) (meth : Method) (c : Code) (SH : List pm_S) (ad : Nat → Nat) (ct : Nat → ClassId) (D : va_G) (own : String) (cc : ByteArray) (nL : Nat) (ret : Option FieldType) (d : Nat) (Ts : List Cond) : Prop :=
  p.tables.exec = Jvm.exec ∧ c.code = cc ∧ c.maxLocals = nL ∧ meth.sig.returnType = ret ∧ s.vm.findClass own = some m.cls ∧ (∀ w ∈ Ts, w.before args s = true) ∧ (∀ w ∈ pm_TB, w ∈ Ts) ∧ meth.locks = false ∧ va_K D pm_cl (pm_tys ct) s ∧ (∀ M, va_D (pm_A SH ad) (pm_w SH ad ct M)) ∧ pm_RO SH ad s s.heap ∧ pm_NW s ∧ d ≤ R.frames ∧ 30 * d ≤ R.locals ∧ 0 < d
def pm_At (p : Program) (l : Launch) (e : Env) (R : Room) (s : State) (m : MethodId) (args : Array Value) (below : List Frame) (meth : Method) (c : Code) (SH : List pm_S) (ad : Nat → Nat) (ct : Nat → ClassId) (D : va_G) (nL : Nat) (Q : State → Prop) (pc : Nat) (lv : pm_L) (st : List Value) (M : pm_M) : Prop :=
  ∀ (H : Heap) (locs : List Loc) (ls : Array Slot), lv_has ls nL (lv.map (pm_tp ad)) → va_P D pm_cl (pm_w SH ad ct M) H → va_S (pm_A SH ad) s.heap H locs → W p l e R s m args below meth c H locs 0 0 Q (F0 m pc ls (st.map (pm_tr ad)))
theorem pm_has {ls : Array Slot} {nL : Nat} {ad : Nat → Nat} {lv : pm_L} {i : Nat} {v : Value} (hl : lv_has ls nL (lv.map (pm_tp ad))) (h : (i, v) ∈ lv) : ls[i]? = some (.val (pm_tr ad v)) := hl.2.2 (i, pm_tr ad v) (List.mem_map.mpr ⟨(i, v), h, rfl⟩)
theorem pm_has_sub {ls : Array Slot} {nL : Nat} {l l' : List (Nat × Value)} (hl : lv_has ls nL l) (h : ∀ q ∈ l', q ∈ l) : lv_has ls nL l' := ⟨hl.1, hl.2.1, fun q hq => hl.2.2 q (h q hq)⟩
theorem pm_map_sub {ad : Nat → Nat} {lv lv' : pm_L} (h : ∀ q ∈ lv', q ∈ lv) : ∀ q ∈ lv'.map (pm_tp ad), q ∈ lv.map (pm_tp ad) := by
  intro q hq
  obtain ⟨x, h1, h2⟩ := List.mem_map.mp hq
  exact List.mem_map.mpr ⟨x, h x h1, h2⟩
theorem pm_has_st {ls : Array Slot} {nL i : Nat} {ad : Nat → Nat} {lv : pm_L} {v v' : Value} (hl : lv_has ls nL ((i, v') :: (lv.map (pm_tp ad)).filter (fun q => !(q.1 == i) && !(q.1 + 1 == i && q.2.category == 2)))) (hv : pm_tr ad v = v') : lv_has ls nL (((i, v) :: pm_rm i lv).map (pm_tp ad)) := by
  refine pm_has_sub hl (fun q hq => ?_)
  rcases List.mem_cons.mp hq with x | x
  · subst x; subst hv; exact List.mem_cons_self
  · obtain ⟨z, h1, rfl⟩ := List.mem_map.mp x
    obtain ⟨h2, h3, h4⟩ := pm_rm_in h1
    refine List.mem_cons_of_mem _ (List.mem_filter.mpr ⟨List.mem_map.mpr ⟨z, h2, rfl⟩, ?_⟩)
    simp only [pm_tp, pm_tr_cat]
    simp only [Bool.and_eq_true, Bool.not_eq_true', beq_eq_false_iff_ne, ne_eq, Bool.and_eq_false_iff]
    refine ⟨h3, ?_⟩
    rcases Nat.decEq (z.1 + 1) i with n | n
    · exact Or.inl n
    · exact Or.inr (fun c => h4 ⟨n, c⟩)
theorem pm_has_stL {ls : Array Slot} {nL i : Nat} {ad : Nat → Nat} {lv : pm_L} {x : Int64} (hl : lv_has ls nL ((i, .long x) :: (lv.map (pm_tp ad)).filter (fun q => !(q.1 == i) && (!(q.1 == i + 1) && !(q.1 + 1 == i && q.2.category == 2))))) : lv_has ls nL (((i, .long x) :: pm_rm (i + 1) (pm_rm i lv)).map (pm_tp ad)) := by
  refine pm_has_sub hl (fun q hq => ?_)
  rcases List.mem_cons.mp hq with y | y
  · subst y; exact List.mem_cons_self
  · obtain ⟨z, h0, rfl⟩ := List.mem_map.mp y
    obtain ⟨h1, h5, -⟩ := pm_rm_in h0
    obtain ⟨h2, h3, h4⟩ := pm_rm_in h1
    refine List.mem_cons_of_mem _ (List.mem_filter.mpr ⟨List.mem_map.mpr ⟨z, h2, rfl⟩, ?_⟩)
    simp only [pm_tp, pm_tr_cat]
    simp only [Bool.and_eq_true, Bool.not_eq_true', beq_eq_false_iff_ne, ne_eq, Bool.and_eq_false_iff]
    refine ⟨h3, h5, ?_⟩
    rcases Nat.decEq (z.1 + 1) i with n | n
    · exact Or.inl n
    · exact Or.inr (fun c => h4 ⟨n, c⟩)
section PM
variable {p : Program} {l : Launch} {e : Env} {R : Room} {s : State} {m : MethodId} {args : Array Value} {below : List Frame} {meth : Method} {c : Code} {SH : List pm_S} {ad : Nat → Nat} {ct : Nat → ClassId} {D : va_G} {own : String} {cc : ByteArray} {nL : Nat} {ret : Option FieldType} {d : Nat} {Ts : List Cond} {Q : State → Prop}
theorem pm_At.drop {t : Nat} {is : List Nat} {lv : pm_L} {st : List Value} {M : pm_M} (h : pm_At p l e R s m args below meth c SH ad ct D nL Q t (pm_rs is lv) st M) : pm_At p l e R s m args below meth c SH ad ct D nL Q t lv st M :=
  fun H locs ls hl hP hS => h H locs ls (pm_has_sub hl (pm_map_sub (fun _ hq => pm_rs_in hq))) hP hS
theorem pm_good {y : MethodName} {bb : ByteArray} {nL : Nat} {rt : Option FieldType} {Ts ws : List Cond} (hT : ∀ w ∈ pm_TB, w ∈ Ts) (hc : Cond.code y bb nL rt ∈ pm_TB) (hw : ∀ w ∈ ws, w ∈ pm_TB) : GoodIn Ts (ws ++ (.code y bb nL rt :: pm_TB)) := by
  intro w hw1
  have h : w ∈ pm_TB := by
    rcases List.mem_append.mp hw1 with x | x
    · exact hw w x
    · rcases List.mem_cons.mp x with z | z
      · subst z; exact hc
      · exact z
  exact ⟨hT w h, pm_TB_good h⟩
/-- a call -/
theorem pm_call_ok (C : pm_Cx p R s m args meth c SH ad ct D own cc nL ret d Ts) {q : pm_C} (hq : pm_Callee SH own d q) {pc : Nat} {lv : pm_L} {st : List Value} {M : pm_M} {K : List Value → pm_M → Prop} (hK : ∀ st M, K st M → pm_At p l e R s m args below meth c SH ad ct D nL Q (pc + 3) lv st M)
    (hdg : decode cc pc = .ok (if q.1 then .invokestatic q.2.1 else .invokevirtual q.2.1, 3)) (h : pm_call SH q st M K) : pm_At p l e R s m args below meth c SH ad ct D nL Q pc lv st M := by
  obtain ⟨hx, hb, hml, hr, hown, hts, hTB, hlocks, hKK, hDD, hRO, hNW, hRf, hRl, hd0⟩ := C
  obtain ⟨y, bb, nC, d', hSem, hd', hcode, hck⟩ := hq
  obtain ⟨qs, qi, qc, qn, qr, qT⟩ := q
  obtain ⟨hlen, hrecv, hcat, hT⟩ := h
  dsimp only at hSem hcode hck hdg hlen hrecv hcat hT
  simp only [pm_ckC, Bool.and_eq_true, decide_eq_true_eq, Bool.or_eq_true, pm_lk1, pm_lk2] at hck
  obtain ⟨⟨⟨⟨hnC, hini0⟩, hmh⟩, hlink⟩, hkind⟩ := hck
  have hini := pm_iT_in hini0
  intro H locs ls hl hP hS
  have hsplit : st = (st.take qn) ++ st.drop qn := (List.take_append_drop qn st).symm
  have hM := hSem l ad ct D (st.take qn).reverse M (fun r M' => K (r.toList ++ st.drop qn) M') hT
  have hRoom : (pm_rm0 d').frames + 1 ≤ R.frames ∧ 8 + (nC + 11) + (pm_rm0 d').locals ≤ R.locals := by
    refine ⟨?_, ?_⟩
    · show d' + 1 ≤ R.frames; omega
    · show 8 + (nC + 11) + 30 * d' ≤ R.locals; omega
  have hblind : FrameBlind (va_Pc ((st.take qn).reverse.map (pm_tr ad)) (pm_Wd SH ad ct D M)) := fun a U g mk q => by
    obtain ⟨q0, qP, qK, qD, qR, qN⟩ := q
    exact ⟨q0, qP, va_K.moved (u := U) (U := U.calling g mk a) (Vm.Alike.refl U.vm) qK, qD, pm_RO.moved (u := U) (U := U.calling g mk a) (Vm.Alike.refl U.vm) qR, pm_NW.same (u := U) (U := U.calling g mk a) rfl qN⟩
  have hROH : pm_RO SH ad s H := hRO.kept (fun a h1 h2 => hS.2.1 a h1 h2)
  have hpre : ∀ U : State, U.heap = H → s.WarmedH U.vm → va_Pc ((st.take qn).reverse.map (pm_tr ad)) (pm_Wd SH ad ct D M) ((st.take qn).reverse.map (pm_tr ad)).toArray U := fun U hU hW =>
    ⟨rfl, by rw [hU]; exact hP, va_K.moved hW.alike hKK, hDD M, by rw [hU]; exact hROH.moved hW.alike, hNW.warm hW⟩
  have hgo : ∀ (r : Option Value) (u : pm_M) (t : State) (H1 : Heap) (locs1 : List Loc), t.heap = H1 → K (r.toList ++ st.drop qn) u → pm_Wd SH ad ct D u t → va_S (pm_A SH ad) s.heap H1 locs1 → W p l e R s m args below meth c H1 locs1 0 0 Q (F0 m (pc + 3) ls ((r.toList ++ st.drop qn).map (pm_tr ad))) := by
    intro r u t H1 locs1 ht hk hw hS1
    exact hK _ _ hk H1 locs1 ls hl (by rw [← ht]; exact hw.1) hS1
  have hrun : va_Run p l e R s m args below meth c H locs 0 0 0 0 (F0 m pc ls (st.map (pm_tr ad))) ((st.drop qn).map (pm_tr ad)) (pm_Q SH ad ct D qr (fun r M' => K (r.toList ++ st.drop qn) M') ((st.take qn).reverse.map (pm_tr ad)).toArray) (pm_A SH ad) := by
    have hroomS : 2 * (F0 m pc ls (st.map (pm_tr ad))).monitorRoom + (((st.drop qn).map (pm_tr ad)).map fun v => v.category).sum ≤ 8 := by
      refine lv_room ?_
      rw [List.map_map]
      have e1 : ((fun v => v.category) ∘ pm_tr ad) = (fun v : Value => v.category) := by funext v; exact pm_tr_cat ad v
      rw [e1]; exact hcat
    cases qs with
    | true =>
      simp only [Bool.and_eq_true, decide_eq_true_eq] at hkind
      obtain ⟨hst0, hpar⟩ := hkind
      have hst := pm_iT_in hst0
      have hnn : ((st.take qn).reverse.map (pm_tr ad)).length = qn := by simp; omega
      have hstk : (F0 m pc ls (st.map (pm_tr ad))).stack = ((st.take qn).reverse.map (pm_tr ad)).reverse ++ (st.drop qn).map (pm_tr ad) := by
        show st.map (pm_tr ad) = _
        rw [← List.map_reverse, List.reverse_reverse, ← List.map_append, List.take_append_drop]
      rcases hlink with hlk0 | hlk0
      · have hlk := pm_iT_in hlk0
        refine va_runS (bytes := bb) (maxL := nC) (ret := qr) ⟨hx, hb, hml, hown, hts⟩ hM ?_ ⟨hblind, hpre⟩ rfl hnn hl.1 hstk hroomS hdg ⟨Nat.zero_le _, Nat.zero_le _⟩
        refine va_cwS qn hts ?_ rfl rfl rfl ⟨hmh.1, hmh.2, hpar⟩ hRoom
        refine pm_good (ws := [.methodLink own qi y, .static y, .initialized y.cls]) hTB hcode ?_
        intro w hw
        simp only [List.mem_cons, List.not_mem_nil, or_false] at hw
        rcases hw with rfl | rfl | rfl
        · exact hlk
        · exact hst
        · exact hini
      · have hlk := pm_iN_in hlk0
        refine va_runSN (host := RX6) (bytes := bb) (maxL := nC) (ret := qr) ⟨hx, hb, hml, hown, hts⟩ hM ⟨?_, hts _ (hTB _ hst), trivial⟩ ⟨hblind, hpre⟩ rfl hnn hl.1 hstk hroomS hdg ⟨Nat.zero_le _, Nat.zero_le _⟩
        refine va_cnB (host := RX6) qn hts (pm_good (ws := []) hTB hcode (fun w h => by cases h)) rfl rfl rfl (hNW _ hlk) (hts _ (hTB _ hini)) ⟨hmh.1, hmh.2, hpar⟩ hRoom
    | false =>
      simp only [Bool.and_eq_true, decide_eq_true_eq] at hkind
      obtain ⟨⟨⟨hinst0, hsel0⟩, hpar⟩, hcls⟩ := hkind
      have hinst := pm_iT_in hinst0
      have hsel := pm_iT_in hsel0
      have hrc := hrecv rfl
      unfold pm_recv at hrc
      split at hrc
      · next q0 as heq =>
        obtain ⟨fs, hsh, -⟩ := pm_obj_e hrc
        rw [heq] at hM hblind hpre ⊢
        have hqn : as.length + 1 = qn := by
          have := congrArg List.length heq
          simp at this
          omega
        have hpar2 : (parseMethodDescriptor y.desc).map (fun d => d.parameters.length) = some as.length := by
          cases hpm : parseMethodDescriptor y.desc with
          | none => rw [hpm] at hpar; cases hpar
          | some dd => rw [hpm] at hpar; simp at hpar ⊢; omega
        have hnn : (as.map (pm_tr ad)).length = as.length := by simp
        have hstk : (F0 m pc ls (st.map (pm_tr ad))).stack = (as.map (pm_tr ad)).reverse ++ .ref (ad q0) :: (st.drop qn).map (pm_tr ad) := by
          show st.map (pm_tr ad) = _
          have h1 : st.take qn = as.reverse ++ [.ref q0] := by
            have := congrArg List.reverse heq
            simpa using this
          conv => lhs; rw [hsplit, h1]
          simp [pm_tr]
        obtain ⟨qcl, hcl⟩ : ∃ z, pm_cl[qc]? = some z := by
          cases hz : pm_cl[qc]? with
          | none => rw [hz] at hcls; cases hcls
          | some z => exact ⟨z, rfl⟩
        have hcn : qcl.1 = y.cls := by rw [hcl] at hcls; simpa using hcls
        have hrv := va_recv hKK hP hcl (pm_w_at hsh)
        rw [hcn] at hrv
        rcases hlink with hlk0 | hlk0
        · have hlk := pm_iT_in hlk0
          refine va_runV (bytes := bb) (maxL := nC) (ret := qr) (C := y.cls) (As := as.map (pm_tr ad)) ⟨hx, hb, hml, hown, hts⟩ hM ?_ ⟨hblind, hrv, hpre⟩ rfl hnn hl.1 hstk hroomS hdg ⟨Nat.zero_le _, Nat.zero_le _⟩
          refine cwV as.length hts ?_ rfl rfl rfl ⟨rfl, hmh.1, hmh.2, hpar2⟩ hRoom
          refine pm_good (ws := [.methodLink own qi y, .instanceMethod y, .selects y.cls y y, .initialized y.cls]) hTB hcode ?_
          intro w hw
          simp only [List.mem_cons, List.not_mem_nil, or_false] at hw
          rcases hw with rfl | rfl | rfl | rfl
          · exact hlk
          · exact hinst
          · exact hsel
          · exact hini
        · have hlk := pm_iN_in hlk0
          refine va_runVN (host := RX6) (bytes := bb) (maxL := nC) (ret := qr) (C := y.cls) (As := as.map (pm_tr ad)) ⟨hx, hb, hml, hown, hts⟩ hM ⟨?_, hts _ (hTB _ hinst), hts _ (hTB _ hsel)⟩ ⟨hblind, hrv, hpre⟩ rfl hnn hl.1 hstk hroomS hdg ⟨Nat.zero_le _, Nat.zero_le _⟩
          refine va_cnB (host := RX6) as.length hts (pm_good (ws := []) hTB hcode (fun w h => by cases h)) rfl rfl rfl (hNW _ hlk) (hts _ (hTB _ hini)) ⟨hmh.1, hmh.2, hpar2⟩ hRoom
      · exact hrc.elim
  have hA1 : ∀ q : Nat, q < H.size → pm_A SH ad q → pm_A SH ad q := fun _ _ h => h
  have hA2 : ∀ q : Nat, pm_A SH ad q → pm_A SH ad q := fun _ h => h
  unfold pm_Q at hrun
  split at hrun
  · exact va_callv hrun hS hA1 hA2 (fun u t H1 locs1 ht _ hp hB _ _ hS1 => hgo none u t H1 locs1 ht hp hB hS1)
  · exact va_calll hrun hS hA1 hA2 (fun r u t H1 locs1 ht _ hp hB _ _ hS1 => hgo (some (.long r)) u t H1 locs1 ht hp hB hS1)
  · exact va_calli hrun hS hA1 hA2 (fun r u t H1 locs1 ht _ hp hB _ _ hS1 => hgo (some (.int r)) u t H1 locs1 ht hp hB hS1)
end PM
end
section
section PM
variable {p : Program} {l : Launch} {e : Env} {R : Room} {s : State} {m : MethodId} {args : Array Value} {below : List Frame} {meth : Method} {c : Code} {SH : List pm_S} {ad : Nat → Nat} {ct : Nat → ClassId} {D : va_G} {own : String} {cc : ByteArray} {nL : Nat} {ret : Option FieldType} {d : Nat} {Ts : List Cond}
theorem pm_ret (C : pm_Cx p R s m args meth c SH ad ct D own cc nL ret d Ts) {H : Heap} {locs : List Loc} {M : pm_M} (hP : va_P D pm_cl (pm_w SH ad ct M) H) (hS : va_S (pm_A SH ad) s.heap H locs) (t : State) (ht : t.heap = H) (hW : s.WarmedH t.vm) : pm_Wd SH ad ct D M t := by
  obtain ⟨hx, hb, hml, hr, hown, hts, hTB, hlocks, hKK, hDD, hRO, hNW, hRf, hRl, hd0⟩ := C
  exact ⟨by rw [ht]; exact hP, va_K.moved hW.alike hKK, hDD M, by rw [ht]; exact (hRO.kept (fun a h1 h2 => hS.2.1 a h1 h2)).moved hW.alike, hNW.warm hW⟩
theorem pm_nar_b {x : Int32} (h : x = 0 ∨ x = 1) : narrow .boolean (.int x) = .int x := by rcases h with rfl | rfl <;> rfl
theorem pm_vnar_b {x : Int32} (h : x = 0 ∨ x = 1) : vp_nar .boolean x = x := by rcases h with rfl | rfl <;> rfl
theorem pm_fit_b {x : Int32} (h : x = 0 ∨ x = 1) : fits .boolean (.int x) = true := by rcases h with rfl | rfl <;> rfl
theorem pm_ac1 : Cond.native arraycopyName ∈ pm_TB := by decide +kernel
theorem pm_ac2 : Cond.static arraycopyName ∈ pm_TB := by decide +kernel
theorem pm_ac3 : Cond.initialized "java/lang/System" ∈ pm_TB := by decide +kernel
theorem pm_tys_at {t : Nat} {ct : Nat → ClassId} (h : t < 5) : (pm_tys ct)[t]? = some (ct t, [FieldType.int, .byte, .boolean, .short, .long].getD t .int) := by
  match t, h with
  | 0, _ => rfl
  | 1, _ => rfl
  | 2, _ => rfl
  | 3, _ => rfl
  | 4, _ => rfl
theorem pm_sw_at {X : pm_X} {x : Int32} {lv : pm_L} {st : List Value} {M : pm_M} : ∀ (ts : List (Nat × List Nat)) (lo : Int), pm_sw X x lo ts lv st M → ∀ (j : Nat) (q : Nat × List Nat), ts[j]? = some q → x.toInt = lo + j → X q.1 (pm_rs q.2 lv) st M
  | [], _, _, j, q, h, _ => by simp at h
  | (t, is) :: ts, lo, h, 0, q, hj, hx => by
    simp at hj; subst hj
    exact h.1 (by simpa using hx)
  | (t, is) :: ts, lo, h, j + 1, q, hj, hx => by
    refine pm_sw_at ts (lo + 1) h.2 j q (by simpa using hj) (by rw [hx]; push_cast; omega)

set_option maxHeartbeats 4000000 in
theorem pm_step_ok (C : pm_Cx p R s m args meth c SH ad ct D own cc nL ret d Ts) {CT : List pm_C} {cs : List (Bool × Nat)} (hcs : CT.map (fun q => (q.1, q.2.1)) = cs) (hCT : ∀ q ∈ CT, pm_Callee SH own d q) {X : pm_X} {K : pm_K} {k : Option Value → pm_M → Prop} {pc n a b : Nat} {i : Instr} {ts : List (Nat × List Nat)} {lv : pm_L} {st : List Value} {M : pm_M}
    (hck : pm_ck own nL cs pc i n a b ts = true) (hdg : decode cc pc = .ok (i, n))
    (hX : ∀ t lv st M, X t lv st M → pm_At p l e R s m args below meth c SH ad ct D nL (MQ below (pm_Q SH ad ct D ret k) args s 0 0 (pm_A SH ad)) t lv st M)
    (hK : ∀ lv st M, K lv st M → pm_At p l e R s m args below meth c SH ad ct D nL (MQ below (pm_Q SH ad ct D ret k) args s 0 0 (pm_A SH ad)) (pc + n) lv st M)
    (h : pm_step SH CT ret X k (pc, i, n, a, b, ts) lv st M K) : pm_At p l e R s m args below meth c SH ad ct D nL (MQ below (pm_Q SH ad ct D ret k) args s 0 0 (pm_A SH ad)) pc lv st M := by
  have C0 := C
  obtain ⟨hx, hb, hml, hr, hown, hts, hTB, hlocks, hKK, hDD, hRO, hNW, hRf, hRl, hd0⟩ := C
  have hgo : ∀ {lv : pm_L} {st : List Value} {M : pm_M} {t : Nat} {is : List Nat} {ts' : List (Nat × List Nat)}, pm_go X ((t, is) :: ts') lv st M → pm_At p l e R s m args below meth c SH ad ct D nL (MQ below (pm_Q SH ad ct D ret k) args s 0 0 (pm_A SH ad)) t lv st M := fun h => (hX _ _ _ _ h).drop
  unfold pm_step at h
  cases i
  all_goals first | exact h.elim | skip
  all_goals dsimp only at h
  all_goals simp only [pm_ck, Bool.and_eq_true, beq_iff_eq, decide_eq_true_eq] at hck
  case aload_n j =>
    obtain ⟨x, h1, h⟩ := pm_ldr_e h
    subst hck
    intro H locs ls hl hP hS
    exact lv_aload_n hx hb hdg rfl (pm_has hl h1) (hK _ _ _ h H locs ls hl hP hS)
  case aload j =>
    obtain ⟨x, h1, h⟩ := pm_ldr_e h
    subst hck
    intro H locs ls hl hP hS
    exact lv_aload hx hb hdg (pm_has hl h1) (hK _ _ _ h H locs ls hl hP hS)
  case iload_n j =>
    obtain ⟨x, h1, h⟩ := pm_ldi_e h
    subst hck
    intro H locs ls hl hP hS
    exact lv_iload_n hx hb hdg rfl (pm_has hl h1) (hK _ _ _ h H locs ls hl hP hS)
  case iload j =>
    obtain ⟨x, h1, h⟩ := pm_ldi_e h
    subst hck
    intro H locs ls hl hP hS
    exact lv_iload hx hb hdg (pm_has hl h1) (hK _ _ _ h H locs ls hl hP hS)
  case lload_n j =>
    obtain ⟨x, h1, h⟩ := pm_ldl_e h
    subst hck
    intro H locs ls hl hP hS
    exact lv_lload_n hx hb hdg rfl (pm_has hl h1) (hK _ _ _ h H locs ls hl hP hS)
  case lload j =>
    obtain ⟨x, h1, h⟩ := pm_ldl_e h
    subst hck
    intro H locs ls hl hP hS
    exact lv_lload hx hb hdg (pm_has hl h1) (hK _ _ _ h H locs ls hl hP hS)
  case astore_n j =>
    obtain ⟨x, r, rfl, h⟩ := pm_r_e h
    obtain ⟨rfl, hj⟩ := hck
    intro H locs ls hl hP hS
    exact lv_astore_n hx hb hdg rfl hl hj rfl (fun ls' hl' => hK _ _ _ h H locs ls' (pm_has_st hl' rfl) hP hS)
  case astore j =>
    obtain ⟨x, r, rfl, h⟩ := pm_r_e h
    obtain ⟨rfl, hj⟩ := hck
    intro H locs ls hl hP hS
    exact lv_astore hx hb hdg hl hj rfl (fun ls' hl' => hK _ _ _ h H locs ls' (pm_has_st hl' rfl) hP hS)
  case istore_n j =>
    obtain ⟨x, r, rfl, h⟩ := pm_i_e h
    obtain ⟨rfl, hj⟩ := hck
    intro H locs ls hl hP hS
    exact lv_istore_n hx hb hdg rfl hl hj rfl (fun ls' hl' => hK _ _ _ h H locs ls' (pm_has_st hl' rfl) hP hS)
  case istore j =>
    obtain ⟨x, r, rfl, h⟩ := pm_i_e h
    obtain ⟨rfl, hj⟩ := hck
    intro H locs ls hl hP hS
    exact lv_istore hx hb hdg hl hj rfl (fun ls' hl' => hK _ _ _ h H locs ls' (pm_has_st hl' rfl) hP hS)
  case lstore_n j =>
    obtain ⟨x, r, rfl, h⟩ := pm_l_e h
    obtain ⟨rfl, hj⟩ := hck
    intro H locs ls hl hP hS
    exact lv_lstore_n hx hb hdg rfl hl hj rfl (fun ls' hl' => hK _ _ _ h H locs ls' (pm_has_stL hl') hP hS)
  case lstore j =>
    obtain ⟨x, r, rfl, h⟩ := pm_l_e h
    obtain ⟨rfl, hj⟩ := hck
    intro H locs ls hl hP hS
    exact lv_lstore hx hb hdg hl hj rfl (fun ls' hl' => hK _ _ _ h H locs ls' (pm_has_stL hl') hP hS)
  case iinc j z =>
    obtain ⟨x, h1, h⟩ := pm_ldi_e h
    obtain ⟨⟨rfl, hj⟩, hz⟩ := hck
    intro H locs ls hl hP hS
    obtain ⟨kk, hkk⟩ := List.getElem?_of_mem (List.mem_map.mpr ⟨(j, Value.int x), h1, rfl⟩ : (j, Value.int x) ∈ lv.map (pm_tp ad))
    exact lv_iinc (v := x + pm_c a b) hx hb hdg hl hkk (by rw [hz]) hj rfl (fun ls' hl' => hK _ _ _ h H locs ls' (pm_has_st hl' rfl) hP hS)
  case iconst z =>
    obtain ⟨rfl, hz⟩ := hck
    intro H locs ls hl hP hS
    exact lv_iconst hx hb hdg hz (hK _ _ _ h H locs ls hl hP hS)
  case bipush z =>
    obtain ⟨rfl, hz⟩ := hck
    intro H locs ls hl hP hS
    exact lv_bipush hx hb hdg hz (hK _ _ _ h H locs ls hl hP hS)
  case sipush z =>
    obtain ⟨rfl, hz⟩ := hck
    intro H locs ls hl hP hS
    exact lv_sipush hx hb hdg hz (hK _ _ _ h H locs ls hl hP hS)
  case ldc j =>
    obtain ⟨rfl, hz⟩ := hck
    intro H locs ls hl hP hS
    exact lv_ldc hx hb hown (hts _ (hTB _ (pm_iT_in hz))) hdg (hK _ _ _ h H locs ls hl hP hS)
  case ldc_w j =>
    obtain ⟨rfl, hz⟩ := hck
    intro H locs ls hl hP hS
    exact lv_ldcw hx hb hown (hts _ (hTB _ (pm_iT_in hz))) hdg (hK _ _ _ h H locs ls hl hP hS)
  case lconst j =>
    obtain ⟨rfl, hz⟩ := hck
    intro H locs ls hl hP hS
    exact lv_lconst (v := lN a) hx hb hdg (by rw [hz]; rfl) (hK _ _ _ h H locs ls hl hP hS)
  case ldc2_w j =>
    obtain ⟨rfl, hz⟩ := hck
    intro H locs ls hl hP hS
    exact lv_ldc2 hx hb hown (hts _ (hTB _ (pm_iT_in hz))) hdg (hK _ _ _ h H locs ls hl hP hS)
  case iadd =>
    obtain ⟨x, y, r, rfl, h⟩ := pm_ii_e h
    subst hck
    intro H locs ls hl hP hS
    exact lv_iadd hx hb hdg (hK _ _ _ h H locs ls hl hP hS)
  case isub =>
    obtain ⟨x, y, r, rfl, h⟩ := pm_ii_e h
    subst hck
    intro H locs ls hl hP hS
    exact lv_isub hx hb hdg (hK _ _ _ h H locs ls hl hP hS)
  case imul =>
    obtain ⟨x, y, r, rfl, h⟩ := pm_ii_e h
    subst hck
    intro H locs ls hl hP hS
    exact lv_imul hx hb hdg (hK _ _ _ h H locs ls hl hP hS)
  case iand =>
    obtain ⟨x, y, r, rfl, h⟩ := pm_ii_e h
    subst hck
    intro H locs ls hl hP hS
    exact lv_iand hx hb hdg (hK _ _ _ h H locs ls hl hP hS)
  case ior =>
    obtain ⟨x, y, r, rfl, h⟩ := pm_ii_e h
    subst hck
    intro H locs ls hl hP hS
    exact lv_ior hx hb hdg (hK _ _ _ h H locs ls hl hP hS)
  case ixor =>
    obtain ⟨x, y, r, rfl, h⟩ := pm_ii_e h
    subst hck
    intro H locs ls hl hP hS
    exact lv_ixor hx hb hdg (hK _ _ _ h H locs ls hl hP hS)
  case ishl =>
    obtain ⟨x, y, r, rfl, h⟩ := pm_ii_e h
    subst hck
    intro H locs ls hl hP hS
    exact lv_ishl hx hb hdg (hK _ _ _ h H locs ls hl hP hS)
  case ishr =>
    obtain ⟨x, y, r, rfl, h⟩ := pm_ii_e h
    subst hck
    intro H locs ls hl hP hS
    exact lv_ishr hx hb hdg (hK _ _ _ h H locs ls hl hP hS)
  case idiv =>
    obtain ⟨x, y, r, rfl, h0, h⟩ := pm_ii_e h
    subst hck
    intro H locs ls hl hP hS
    exact lv_idiv hx hb hdg h0 (hK _ _ _ h H locs ls hl hP hS)
  case irem =>
    obtain ⟨x, y, r, rfl, h0, h⟩ := pm_ii_e h
    subst hck
    intro H locs ls hl hP hS
    exact lv_irem hx hb hdg h0 (hK _ _ _ h H locs ls hl hP hS)
  case iushr =>
    obtain ⟨x, y, r, rfl, h⟩ := pm_ii_e h
    subst hck
    intro H locs ls hl hP hS
    exact lv_iushr hx hb hdg rfl (hK _ _ _ h H locs ls hl hP hS)
  case lsub =>
    obtain ⟨x, y, r, rfl, h⟩ := pm_ll_e h
    subst hck
    intro H locs ls hl hP hS
    exact lv_lsub hx hb hdg (hK _ _ _ h H locs ls hl hP hS)
  case lmul =>
    obtain ⟨x, y, r, rfl, h⟩ := pm_ll_e h
    subst hck
    intro H locs ls hl hP hS
    exact lv_lmul hx hb hdg (hK _ _ _ h H locs ls hl hP hS)
  case land =>
    obtain ⟨x, y, r, rfl, h⟩ := pm_ll_e h
    subst hck
    intro H locs ls hl hP hS
    exact lv_land hx hb hdg (hK _ _ _ h H locs ls hl hP hS)
  case lor =>
    obtain ⟨x, y, r, rfl, h⟩ := pm_ll_e h
    subst hck
    intro H locs ls hl hP hS
    exact lv_lor hx hb hdg (hK _ _ _ h H locs ls hl hP hS)
  case lxor =>
    obtain ⟨x, y, r, rfl, h⟩ := pm_ll_e h
    subst hck
    intro H locs ls hl hP hS
    exact lv_lxor hx hb hdg (hK _ _ _ h H locs ls hl hP hS)
  case lcmp =>
    obtain ⟨x, y, r, rfl, h⟩ := pm_ll_e h
    subst hck
    intro H locs ls hl hP hS
    exact W.lcmp hx hb hdg (hK _ _ _ h H locs ls hl hP hS)
  case lshl =>
    obtain ⟨x, y, r, rfl, h⟩ := pm_li_e h
    subst hck
    intro H locs ls hl hP hS
    exact lv_lshl hx hb hdg rfl (hK _ _ _ h H locs ls hl hP hS)
  case lushr =>
    obtain ⟨x, y, r, rfl, h⟩ := pm_li_e h
    subst hck
    intro H locs ls hl hP hS
    exact lv_lushr hx hb hdg rfl (hK _ _ _ h H locs ls hl hP hS)
  case i2l =>
    obtain ⟨x, r, rfl, h⟩ := pm_i_e h
    subst hck
    intro H locs ls hl hP hS
    exact lv_i2l hx hb hdg rfl (hK _ _ _ h H locs ls hl hP hS)
  case l2i =>
    obtain ⟨x, r, rfl, h⟩ := pm_l_e h
    subst hck
    intro H locs ls hl hP hS
    exact lv_l2i hx hb hdg rfl (hK _ _ _ h H locs ls hl hP hS)
  case i2b =>
    obtain ⟨x, r, rfl, h⟩ := pm_i_e h
    subst hck
    intro H locs ls hl hP hS
    exact lv_i2b hx hb hdg rfl (hK _ _ _ h H locs ls hl hP hS)
  case i2s =>
    obtain ⟨x, r, rfl, h⟩ := pm_i_e h
    subst hck
    intro H locs ls hl hP hS
    exact lv_i2s hx hb hdg rfl (hK _ _ _ h H locs ls hl hP hS)
  case dup =>
    obtain ⟨v, r, rfl, h1, h⟩ := pm_v1_e h
    subst hck
    intro H locs ls hl hP hS
    exact lv_dup hx hb hdg (va := pm_tr ad v) (by rw [pm_tr_cat]; exact h1) (hK _ _ _ h H locs ls hl hP hS)
  case pop =>
    obtain ⟨v, r, rfl, h1, h⟩ := pm_v1_e h
    subst hck
    intro H locs ls hl hP hS
    exact lv_pop hx hb hdg (va := pm_tr ad v) (by rw [pm_tr_cat]; exact h1) (hK _ _ _ h H locs ls hl hP hS)
  case dup_x1 =>
    obtain ⟨v, w, r, rfl, h1, h2, h⟩ := pm_v2_e h
    subst hck
    intro H locs ls hl hP hS
    exact lv_dup_x1 hx hb hdg (va := pm_tr ad v) (vb := pm_tr ad w) (by rw [pm_tr_cat]; exact h1) (by rw [pm_tr_cat]; exact h2) (hK _ _ _ h H locs ls hl hP hS)
  case dup2 =>
    obtain ⟨v, w, r, rfl, h1, h2, h⟩ := pm_v2_e h
    subst hck
    intro H locs ls hl hP hS
    exact lv_dup2_11 hx hb hdg (va := pm_tr ad v) (vb := pm_tr ad w) (by rw [pm_tr_cat]; exact h1) (by rw [pm_tr_cat]; exact h2) (hK _ _ _ h H locs ls hl hP hS)
  case dup_x2 =>
    obtain ⟨v, w, x, r, rfl, h1, h2, h3, h⟩ := pm_v3_e h
    subst hck
    intro H locs ls hl hP hS
    exact lv_dup_x2 hx hb hdg (va := pm_tr ad v) (vb := pm_tr ad w) (vd := pm_tr ad x) (by rw [pm_tr_cat]; exact h1) (by rw [pm_tr_cat]; exact h2) (by rw [pm_tr_cat]; exact h3) (hK _ _ _ h H locs ls hl hP hS)
  case ifCond cd off =>
    obtain ⟨rfl, hck⟩ := hck
    cases ts with
    | nil => simp at hck
    | cons q ts' =>
      obtain ⟨t, is⟩ := q
      simp only [decide_eq_true_eq] at hck
      cases cd
      case eq =>
        dsimp only at h
        obtain ⟨x, r, rfl, ht, hf⟩ := pm_i_e h
        intro H locs ls hl hP hS
        exact lv_if_eq hx hb hdg hck (fun cc => hgo (ht cc) H locs ls hl hP hS) (fun cc => hK _ _ _ (hf cc) H locs ls hl hP hS)
      case ne =>
        dsimp only at h
        obtain ⟨x, r, rfl, ht, hf⟩ := pm_i_e h
        intro H locs ls hl hP hS
        exact lv_if_ne hx hb hdg hck (fun cc => hgo (ht cc) H locs ls hl hP hS) (fun cc => hK _ _ _ (hf cc) H locs ls hl hP hS)
      case lt =>
        dsimp only at h
        obtain ⟨x, r, rfl, ht, hf⟩ := pm_i_e h
        intro H locs ls hl hP hS
        exact lv_if_lt hx hb hdg hck (fun cc => hgo (ht cc) H locs ls hl hP hS) (fun cc => hK _ _ _ (hf cc) H locs ls hl hP hS)
      case ge =>
        dsimp only at h
        obtain ⟨x, r, rfl, ht, hf⟩ := pm_i_e h
        intro H locs ls hl hP hS
        exact lv_if_ge hx hb hdg hck (fun cc => hgo (ht cc) H locs ls hl hP hS) (fun cc => hK _ _ _ (hf cc) H locs ls hl hP hS)
      case gt =>
        dsimp only at h
        obtain ⟨x, r, rfl, ht, hf⟩ := pm_i_e h
        intro H locs ls hl hP hS
        exact lv_if_gt hx hb hdg hck (fun cc => hgo (ht cc) H locs ls hl hP hS) (fun cc => hK _ _ _ (hf cc) H locs ls hl hP hS)
      case le =>
        dsimp only at h
        obtain ⟨x, r, rfl, ht, hf⟩ := pm_i_e h
        intro H locs ls hl hP hS
        exact lv_if_le hx hb hdg hck (fun cc => hgo (ht cc) H locs ls hl hP hS) (fun cc => hK _ _ _ (hf cc) H locs ls hl hP hS)
  case if_icmp cd off =>
    obtain ⟨rfl, hck⟩ := hck
    cases ts with
    | nil => simp at hck
    | cons q ts' =>
      obtain ⟨t, is⟩ := q
      simp only [decide_eq_true_eq] at hck
      cases cd
      case eq =>
        dsimp only at h
        obtain ⟨x, y, r, rfl, ht, hf⟩ := pm_ii_e h
        intro H locs ls hl hP hS
        exact lv_icmp_eq hx hb hdg hck (fun cc => hgo (ht cc) H locs ls hl hP hS) (fun cc => hK _ _ _ (hf cc) H locs ls hl hP hS)
      case ne =>
        dsimp only at h
        obtain ⟨x, y, r, rfl, ht, hf⟩ := pm_ii_e h
        intro H locs ls hl hP hS
        exact lv_icmp_ne hx hb hdg hck (fun cc => hgo (ht cc) H locs ls hl hP hS) (fun cc => hK _ _ _ (hf cc) H locs ls hl hP hS)
      case lt =>
        dsimp only at h
        obtain ⟨x, y, r, rfl, ht, hf⟩ := pm_ii_e h
        intro H locs ls hl hP hS
        exact lv_icmp_lt hx hb hdg hck (fun cc => hgo (ht cc) H locs ls hl hP hS) (fun cc => hK _ _ _ (hf cc) H locs ls hl hP hS)
      case ge =>
        dsimp only at h
        obtain ⟨x, y, r, rfl, ht, hf⟩ := pm_ii_e h
        intro H locs ls hl hP hS
        exact lv_icmp_ge hx hb hdg hck (fun cc => hgo (ht cc) H locs ls hl hP hS) (fun cc => hK _ _ _ (hf cc) H locs ls hl hP hS)
      case gt =>
        dsimp only at h
        obtain ⟨x, y, r, rfl, ht, hf⟩ := pm_ii_e h
        intro H locs ls hl hP hS
        exact lv_icmp_gt hx hb hdg hck (fun cc => hgo (ht cc) H locs ls hl hP hS) (fun cc => hK _ _ _ (hf cc) H locs ls hl hP hS)
      case le =>
        dsimp only at h
        obtain ⟨x, y, r, rfl, ht, hf⟩ := pm_ii_e h
        intro H locs ls hl hP hS
        exact lv_icmp_le hx hb hdg hck (fun cc => hgo (ht cc) H locs ls hl hP hS) (fun cc => hK _ _ _ (hf cc) H locs ls hl hP hS)
  case goto off =>
    obtain ⟨rfl, hck⟩ := hck
    cases ts with
    | nil => simp at hck
    | cons q ts' =>
      obtain ⟨t, is⟩ := q
      simp only [decide_eq_true_eq] at hck
      intro H locs ls hl hP hS
      exact lv_goto hx hb hdg hck (hgo h H locs ls hl hP hS)
  case tableswitch df lo hi offs =>
    cases ts with
    | nil => simp at hck
    | cons q ts' =>
      obtain ⟨t, is⟩ := q
      simp only [Bool.and_eq_true, decide_eq_true_eq] at hck
      obtain ⟨⟨hd1, hd2⟩, hd3⟩ := hck
      obtain ⟨x, r, rfl, h1, h2⟩ := pm_i_e h
      intro H locs ls hl hP hS
      by_cases hout : x.toInt < lo ∨ hi < x.toInt
      · exact lv_tableOut hx hb hdg hout hd1 (hgo (h1 hout) H locs ls hl hP hS)
      · have hn1 : ¬ x.toInt < lo := fun z => hout (Or.inl z)
        have hn2 : ¬ hi < x.toInt := fun z => hout (Or.inr z)
        have hj : (x.toInt - lo).toNat < offs.size := by omega
        have hts' : ts'.length = offs.size := by
          have := congrArg List.length hd2
          simpa using this
        obtain ⟨q2, hq2⟩ : ∃ q2, ts'[(x.toInt - lo).toNat]? = some q2 := ⟨_, List.getElem?_eq_getElem (by omega)⟩
        have ho : offs[(x.toInt - lo).toNat]? = some offs[(x.toInt - lo).toNat] := Array.getElem?_eq_getElem hj
        have hq3 : (pc : Int) + offs[(x.toInt - lo).toNat] = (q2.1 : Int) := by
          have := congrArg (fun z => z[(x.toInt - lo).toNat]?) hd2
          simp [hq2, ho] at this
          exact this.symm
        have hx2 : x.toInt = lo + (((x.toInt - lo).toNat : Nat) : Int) := by omega
        exact lv_tableIn hx hb hdg hn1 hn2 ho hq3 (((hX _ _ _ _ (pm_sw_at ts' lo h2 _ q2 hq2 hx2)).drop) H locs ls hl hP hS)
  case getfield j =>
    obtain ⟨q, r, rfl, h⟩ := pm_r_e h
    obtain ⟨fs, hsh, h⟩ := pm_obj_e h
    obtain ⟨f, hf, h⟩ := pm_fld_e h
    obtain ⟨rfl, hck⟩ := hck
    intro H locs ls hl hP hS
    split at hck
    · next C T N hcl =>
      simp only [Bool.and_eq_true, Bool.or_eq_true, decide_eq_true_eq] at hck
      obtain ⟨hbN, hlk⟩ := hck
      have hv : (fs.mapIdx (fun j f => pm_tr ad (pm_fv M q j f)))[b]? = some (pm_tr ad (pm_fv M q b f)) := by simp [hf]
      have hlays := (pm_lays hcl).1
      rcases hlk with hlk | hlk
      · exact va_get hx hb hts (fun w hw => hTB w (hlays w hw)) hown hKK hP q (pm_w_at hsh) hcl b hbN (hts _ (hTB _ (pm_iT_in hlk))) (fun _ h9 => h9) hv hdg (hK _ _ _ h H locs ls hl hP hS)
      · exact va_getN hx hb hts (fun w hw => hTB w (hlays w hw)) hown hKK hP q (pm_w_at hsh) hcl b hbN (va_Nw.use rfl (hNW _ (pm_iN_in hlk))) (fun _ h9 => h9) hv hdg (hK _ _ _ h H locs ls hl hP hS)
    · cases hck
  case putfield j =>
    split at h
    · next x q r =>
      obtain ⟨fs, hsh, h⟩ := pm_obj_e h
      obtain ⟨f, hf, rfl, hbool, h⟩ := pm_fld_e h
      obtain ⟨rfl, hck⟩ := hck
      intro H locs ls hl hP hS
      split at hck
      · next C T N hcl =>
        simp only [Bool.and_eq_true, Bool.or_eq_true, decide_eq_true_eq] at hck
        obtain ⟨⟨⟨hbN, hlk⟩, hfin⟩, hty⟩ := hck
        obtain ⟨hlays, ty0, hty0, hnm⟩ := pm_lays hcl
        have hlen : b < (fs.mapIdx (fun j f => pm_tr ad (pm_fv M q j f))).length := by
          rw [List.length_mapIdx]; exact (List.getElem?_eq_some_iff.mp hf).1
        have hset : (pm_w SH ad ct M).set q (ad q, .inr (a % 100, (fs.mapIdx (fun j f => pm_tr ad (pm_fv M q j f))).set b (.int x))) = pm_w SH ad ct (pm_set M q b x) := pm_w_set hsh pm_set_ne (by show Sum.inr _ = _; rw [pm_set_fs hf])
        have hnar : narrow (if 100 ≤ a then FieldType.boolean else .int) (.int x) = .int x := by
          split
          · next h9 => exact pm_nar_b (hbool h9)
          · rfl
        have hfit : fits (if 100 ≤ a then FieldType.boolean else .int) (.int x) = true := by
          split
          · next h9 => exact pm_fit_b (hbool h9)
          · rfl
        rcases hlk with hlk | hlk
        · exact va_put hx hb hts (fun w hw => hTB w (hlays w hw)) ty0 hty0 hnm hown hKK hP (hDD M) hS q (pm_w_at hsh) hcl b hbN (hts _ (hTB _ (pm_iT_in hlk))) (fun _ h9 => h9) hfin hty hnar hfit hlen hdg (fun H1 locs1 hP1 _ hS1 => hK _ _ _ h H1 locs1 ls hl (hset ▸ hP1) hS1)
        · exact va_putN hx hb hts (fun w hw => hTB w (hlays w hw)) ty0 hty0 hnm hown hKK hP (hDD M) hS q (pm_w_at hsh) hcl b hbN (va_Nw.use rfl (hNW _ (pm_iN_in hlk))) (fun _ h9 => h9) hfin hty hnar hfit hlen hdg (fun H1 locs1 hP1 _ hS1 => hK _ _ _ h H1 locs1 ls hl (hset ▸ hP1) hS1)
      · cases hck
    · exact h.elim
  case getstatic j =>
    obtain ⟨rfl, hck⟩ := hck
    intro H locs ls hl hP hS
    exact va_gets hx hb hRO.1 hS hown (hts _ (hTB _ (pm_iT_in hck))) (fun _ h9 => h9) hdg (hK _ _ _ h H locs ls hl hP hS)
  case iaload =>
    subst hck
    split at h
    · obtain ⟨q, i, r, rfl, h⟩ := pm_ri_e h
      obtain ⟨t, n, hsh, rfl, hin, h⟩ := pm_arr_e h
      intro H locs ls hl hP hS
      have hw := pm_w_at (ad := ad) (ct := ct) (M := M) hsh
      rw [pm_cell_i (by decide)] at hw
      exact va_iald hx hb hKK hP q 0 hw (pm_tys_at (by decide)) hin hdg (hK _ _ _ h H locs ls hl hP hS)
    · obtain ⟨i, n, r, rfl, hin, h⟩ := pm_si_e h
      intro H locs ls hl hP hS
      exact va_ti hx hb hRO.2 hS hin rfl hdg (hK _ _ _ h H locs ls hl hP hS)
  case baload =>
    subst hck
    obtain ⟨q, i, r, rfl, h⟩ := pm_ri_e h
    obtain ⟨t, n, hsh, ht, hin, h⟩ := pm_arr_e h
    intro H locs ls hl hP hS
    rcases ht with rfl | rfl
    · have hw := pm_w_at (ad := ad) (ct := ct) (M := M) hsh
      rw [pm_cell_i (by decide)] at hw
      exact va_bald hx hb hKK hP q 1 hw (pm_tys_at (by decide)) hin hdg (hK _ _ _ h H locs ls hl hP hS)
    · have hw := pm_w_at (ad := ad) (ct := ct) (M := M) hsh
      rw [pm_cell_i (by decide)] at hw
      exact va_zald hx hb hKK hP q 2 hw (pm_tys_at (by decide)) hin hdg (hK _ _ _ h H locs ls hl hP hS)
  case saload =>
    subst hck
    obtain ⟨q, i, r, rfl, h⟩ := pm_ri_e h
    obtain ⟨t, n, hsh, rfl, hin, h⟩ := pm_arr_e h
    intro H locs ls hl hP hS
    have hw := pm_w_at (ad := ad) (ct := ct) (M := M) hsh
    rw [pm_cell_i (by decide)] at hw
    exact va_sald hx hb hKK hP q 3 hw (pm_tys_at (by decide)) hin hdg (hK _ _ _ h H locs ls hl hP hS)
  case laload =>
    subst hck
    obtain ⟨q, i, r, rfl, h⟩ := pm_ri_e h
    obtain ⟨t, n, hsh, rfl, hin, h⟩ := pm_arr_e h
    intro H locs ls hl hP hS
    have hw := pm_w_at (ad := ad) (ct := ct) (M := M) hsh
    rw [pm_cell_l] at hw
    exact va_lald hx hb hKK hP q 4 hw (pm_tys_at (by decide)) hin hdg (hK _ _ _ h H locs ls hl hP hS)
  case aaload =>
    subst hck
    obtain ⟨q, i, r, rfl, h⟩ := pm_ri_e h
    obtain ⟨ps, hsh, hin, h⟩ := pm_refs_e h
    intro H locs ls hl hP hS
    have hi : i.toNatClampNeg < ps.length := Nat.lt_of_not_le (fun z => hin (Or.inr z))
    have e : va_rf ((ps[i.toNatClampNeg]?).map ad) = pm_tr ad (.ref (ps.getD i.toNatClampNeg 0)) := by
      simp [hi, va_rf, pm_tr]
    refine va_aldq hx hb hKK hP q 5 (pm_w_at hsh) rfl hin hdg ?_
    rw [e]
    exact hK _ _ _ h H locs ls hl hP hS
  case iastore =>
    subst hck
    obtain ⟨q, i, x, r, rfl, h⟩ := pm_rii_e h
    obtain ⟨t, n, hsh, rfl, hin, h⟩ := pm_arr_e h
    intro H locs ls hl hP hS
    have hw := pm_w_at (ad := ad) (ct := ct) (M := M) hsh
    rw [pm_cell_i (by decide)] at hw
    have hset : (pm_w SH ad ct M).set q (ad q, .inl (ct 0, n, .inl (upd (M.1 q) i.toNatClampNeg x))) = pm_w SH ad ct (pm_set M q i.toNatClampNeg x) := pm_w_set hsh pm_set_ne (by rw [pm_cell_i (by decide), pm_set_row])
    exact va_iast hx hb hKK hP (hDD M) hS q 0 hw (pm_tys_at (by decide)) hin hdg (fun H1 locs1 hP1 _ hS1 => hK _ _ _ h H1 locs1 ls hl (hset ▸ hP1) hS1)
  case bastore =>
    subst hck
    obtain ⟨q, i, x, r, rfl, h⟩ := pm_rii_e h
    obtain ⟨t, n, hsh, h⟩ := pm_arr_e h
    intro H locs ls hl hP hS
    rcases h with ⟨rfl, hin, h⟩ | ⟨rfl, hbool, hin, h⟩
    · have hw := pm_w_at (ad := ad) (ct := ct) (M := M) hsh
      rw [pm_cell_i (by decide)] at hw
      have hset : (pm_w SH ad ct M).set q (ad q, .inl (ct 1, n, .inl (upd (M.1 q) i.toNatClampNeg (vp_nar .byte x)))) = pm_w SH ad ct (pm_set M q i.toNatClampNeg x.toInt8.toInt32) := pm_w_set hsh pm_set_ne (by rw [pm_cell_i (by decide), pm_set_row, vp_nar_byte])
      exact va_bast hx hb hKK hP (hDD M) hS q 1 hw (pm_tys_at (by decide)) hin hdg (fun H1 locs1 hP1 _ hS1 => hK _ _ _ h H1 locs1 ls hl (hset ▸ hP1) hS1)
    · have hw := pm_w_at (ad := ad) (ct := ct) (M := M) hsh
      rw [pm_cell_i (by decide)] at hw
      have hset : (pm_w SH ad ct M).set q (ad q, .inl (ct 2, n, .inl (upd (M.1 q) i.toNatClampNeg (vp_nar .boolean x)))) = pm_w SH ad ct (pm_set M q i.toNatClampNeg x) := pm_w_set hsh pm_set_ne (by rw [pm_cell_i (by decide), pm_set_row, pm_vnar_b hbool])
      exact va_zast hx hb hKK hP (hDD M) hS q 2 hw (pm_tys_at (by decide)) hin hdg (fun H1 locs1 hP1 _ hS1 => hK _ _ _ h H1 locs1 ls hl (hset ▸ hP1) hS1)
  case sastore =>
    subst hck
    obtain ⟨q, i, x, r, rfl, h⟩ := pm_rii_e h
    obtain ⟨t, n, hsh, rfl, hin, h⟩ := pm_arr_e h
    intro H locs ls hl hP hS
    have hw := pm_w_at (ad := ad) (ct := ct) (M := M) hsh
    rw [pm_cell_i (by decide)] at hw
    have hset : (pm_w SH ad ct M).set q (ad q, .inl (ct 3, n, .inl (upd (M.1 q) i.toNatClampNeg (vp_nar .short x)))) = pm_w SH ad ct (pm_set M q i.toNatClampNeg x.toInt16.toInt32) := pm_w_set hsh pm_set_ne (by rw [pm_cell_i (by decide), pm_set_row, vp_nar_short])
    exact va_sast hx hb hKK hP (hDD M) hS q 3 hw (pm_tys_at (by decide)) hin hdg (fun H1 locs1 hP1 _ hS1 => hK _ _ _ h H1 locs1 ls hl (hset ▸ hP1) hS1)
  case lastore =>
    subst hck
    obtain ⟨q, i, x, r, rfl, h⟩ := pm_ril_e h
    obtain ⟨t, n, hsh, rfl, hin, h⟩ := pm_arr_e h
    intro H locs ls hl hP hS
    have hw := pm_w_at (ad := ad) (ct := ct) (M := M) hsh
    rw [pm_cell_l] at hw
    have hset : (pm_w SH ad ct M).set q (ad q, .inl (ct 4, n, .inr (.inl (vp_updL (M.2 q) i.toNatClampNeg x)))) = pm_w SH ad ct (pm_setL M q i.toNatClampNeg x) := pm_w_set hsh pm_setL_ne (by rw [pm_cell_l, pm_setL_row])
    exact va_last hx hb hKK hP (hDD M) hS q 4 hw (pm_tys_at (by decide)) hin hdg (fun H1 locs1 hP1 _ hS1 => hK _ _ _ h H1 locs1 ls hl (hset ▸ hP1) hS1)
  case arraylength =>
    subst hck
    obtain ⟨q, r, rfl, h⟩ := pm_r_e h
    obtain ⟨t, n, hsh, ht5, h⟩ := pm_arr_e h
    intro H locs ls hl hP hS
    exact va_alen hx hb hKK hP q t (pm_w_at hsh) (pm_tys_at ht5) rfl hdg (hK _ _ _ h H locs ls hl hP hS)
  case invokevirtual j =>
    obtain ⟨rfl, hck⟩ := hck
    split at h
    · next q hq =>
      have e : q.1 = false ∧ q.2.1 = j := by
        rw [← hcs, List.getElem?_map, hq] at hck
        simpa using hck
      refine pm_call_ok C0 (hCT q (List.mem_of_getElem? hq)) (fun st M hk => hK _ _ _ hk) ?_ h
      rw [hdg, e.1, e.2]; rfl
    · exact h.elim
  case invokestatic j =>
    obtain ⟨rfl, hck⟩ := hck
    split at h
    · split at h
      · next q hq =>
        simp only [decide_eq_true_eq] at hck
        have e : q.1 = true ∧ q.2.1 = j := by
          rw [← hcs, List.getElem?_map, hq] at hck
          simpa using hck
        refine pm_call_ok C0 (hCT q (List.mem_of_getElem? hq)) (fun st M hk => hK _ _ _ hk) ?_ h
        rw [hdg, e.1, e.2]; rfl
      · exact h.elim
    · obtain ⟨q0, x, q1, y, n, r, rfl, h⟩ := pm_cp_e h
      obtain ⟨t0, n0, hs0, h⟩ := pm_arr_e h
      obtain ⟨t1, n1, hs1, rfl, rfl, hx0, hy0, hn0, hle0, hle1, hcat, h⟩ := pm_arr_e h
      intro H locs ls hl hP hS
      have hlkk : Cond.methodLink own j arraycopyName ∈ pm_TB := by first | exact pm_iT_in hck | (split at hck <;> first | exact pm_iT_in hck | contradiction | simp_all)
      have hw0 := pm_w_at (ad := ad) (ct := ct) (M := M) hs0
      have hw1 := pm_w_at (ad := ad) (ct := ct) (M := M) hs1
      rw [pm_cell_i (by decide)] at hw0 hw1
      have hset : (pm_w SH ad ct M).set q1 (ad q1, .inl (ct 0, n1, .inl (va_cpy (M.1 q0) (M.1 q1) x.toNatClampNeg y.toNatClampNeg n.toNatClampNeg))) = pm_w SH ad ct (pm_cpy M q0 x.toNatClampNeg q1 y.toNatClampNeg n.toNatClampNeg) := pm_w_set hs1 pm_cpy_ne (by rw [pm_cell_i (by decide), pm_cpy_row])
      have e1 : ((fun v => v.category) ∘ pm_tr ad) = (fun v : Value => v.category) := by funext v; exact pm_tr_cat ad v
      refine va_copyi hx hb (by rw [hml, hl.1]) hown (hts _ (hTB _ hlkk)) (hts _ (hTB _ pm_ac1)) (hts _ (hTB _ pm_ac2)) (hts _ (hTB _ pm_ac3)) hKK hP (hDD M) hS q0 q1 0 0 hw0 hw1 (pm_tys_at (by decide)) (pm_tys_at (by decide)) rfl hx0 hy0 hn0 hle0 hle1 (fun _ _ => rfl) (by omega) ?_ hdg (fun H1 locs1 hP1 _ hS1 => hK _ _ _ h H1 locs1 ls hl (hset ▸ hP1) hS1)
      rw [List.map_map, e1]
      have e2 : nativeFrameWords "java/lang/System" "arraycopy" 5 ≤ 11 := by decide +kernel
      omega
    · obtain ⟨q0, x, q1, y, n, r, rfl, h⟩ := pm_cp_e h
      obtain ⟨t0, n0, hs0, h⟩ := pm_arr_e h
      obtain ⟨t1, n1, hs1, rfl, rfl, hx0, hy0, hn0, hle0, hle1, hcat, h⟩ := pm_arr_e h
      intro H locs ls hl hP hS
      have hlkk : Cond.methodLink own j arraycopyName ∈ pm_TB := by first | exact pm_iT_in hck | (split at hck <;> first | exact pm_iT_in hck | contradiction | simp_all)
      have hw0 := pm_w_at (ad := ad) (ct := ct) (M := M) hs0
      have hw1 := pm_w_at (ad := ad) (ct := ct) (M := M) hs1
      rw [pm_cell_l] at hw0 hw1
      have hset : (pm_w SH ad ct M).set q1 (ad q1, .inl (ct 4, n1, .inr (.inl (va_cpy (M.2 q0) (M.2 q1) x.toNatClampNeg y.toNatClampNeg n.toNatClampNeg)))) = pm_w SH ad ct (pm_cpyL M q0 x.toNatClampNeg q1 y.toNatClampNeg n.toNatClampNeg) := pm_w_set hs1 pm_cpyL_ne (by rw [pm_cell_l, pm_cpyL_row])
      have e1 : ((fun v => v.category) ∘ pm_tr ad) = (fun v : Value => v.category) := by funext v; exact pm_tr_cat ad v
      refine va_copyl hx hb (by rw [hml, hl.1]) hown (hts _ (hTB _ hlkk)) (hts _ (hTB _ pm_ac1)) (hts _ (hTB _ pm_ac2)) (hts _ (hTB _ pm_ac3)) hKK hP (hDD M) hS q0 q1 4 4 hw0 hw1 (pm_tys_at (by decide)) (pm_tys_at (by decide)) rfl hx0 hy0 hn0 hle0 hle1 (fun _ _ => rfl) (by omega) ?_ hdg (fun H1 locs1 hP1 _ hS1 => hK _ _ _ h H1 locs1 ls hl (hset ▸ hP1) hS1)
      rw [List.map_map, e1]
      have e2 : nativeFrameWords "java/lang/System" "arraycopy" 5 ≤ 11 := by decide +kernel
      omega
  case ireturn =>
    subst hck
    split at h
    · next x =>
      obtain ⟨hret, h⟩ := h
      intro H locs ls hl hP hS
      rcases hret with rfl | ⟨rfl, hbool⟩
      · exact W.iret hx hb hr (fun t ht hW => ⟨⟨x, M, rfl, h, pm_ret C0 hP hS t ht hW⟩, hS.F ht⟩) hS.2.2 hdg
      · exact W.zret hx hb hr (pm_nar_b hbool) (fun t ht hW => ⟨⟨x, M, rfl, h, pm_ret C0 hP hS t ht hW⟩, hS.F ht⟩) hS.2.2 hdg
    · exact h.elim
  case lreturn =>
    subst hck
    split at h
    · next x =>
      obtain ⟨rfl, h⟩ := h
      intro H locs ls hl hP hS
      exact W.lret hx hb hr (fun t ht hW => ⟨⟨x, M, rfl, h, pm_ret C0 hP hS t ht hW⟩, hS.F ht⟩) hS.2.2 hdg
    · exact h.elim
  case return_ =>
    subst hck
    split at h
    · obtain ⟨rfl, h⟩ := h
      intro H locs ls hl hP hS
      exact W.vret hx hb hr (fun t ht hW => ⟨⟨M, rfl, h, pm_ret C0 hP hS t ht hW⟩, hS.F ht⟩) hS.2.2 hdg
    · exact h.elim
end PM
end
section
section PM
variable {p : Program} {l : Launch} {e : Env} {R : Room} {s : State} {m : MethodId} {args : Array Value} {below : List Frame} {meth : Method} {c : Code} {SH : List pm_S} {ad : Nat → Nat} {ct : Nat → ClassId} {D : va_G} {own : String} {cc : ByteArray} {nL : Nat} {ret : Option FieldType} {d : Nat} {Ts : List Cond}
theorem pm_wp_ok (C : pm_Cx p R s m args meth c SH ad ct D own cc nL ret d Ts) {CT : List pm_C} {cs : List (Bool × Nat)} (hcs : CT.map (fun q => (q.1, q.2.1)) = cs) (hCT : ∀ q ∈ CT, pm_Callee SH own d q) {X : pm_X} {k : Option Value → pm_M → Prop} {nx : Nat × List Nat}
    (hX : ∀ t lv st M, X t lv st M → pm_At p l e R s m args below meth c SH ad ct D nL (MQ below (pm_Q SH ad ct D ret k) args s 0 0 (pm_A SH ad)) t lv st M) :
    ∀ (is : List pm_I) (pc : Nat) (lv : pm_L) (st : List Value) (M : pm_M), pm_cks own cc nL cs nx pc is = true → pm_wp SH CT ret X k nx is lv st M → pm_At p l e R s m args below meth c SH ad ct D nL (MQ below (pm_Q SH ad ct D ret k) args s 0 0 (pm_A SH ad)) pc lv st M := by
  intro is
  induction is with
  | nil =>
    intro pc lv st M hck h
    have hpc : pc = nx.1 := by simpa [pm_cks] using hck
    subst hpc
    exact (hX _ _ _ _ h).drop
  | cons it is ih =>
    intro pc lv st M hck h
    obtain ⟨pc', i, n, a, b, ts⟩ := it
    unfold pm_cks at hck
    simp only [Bool.and_eq_true, beq_iff_eq, decide_eq_true_eq] at hck
    obtain ⟨⟨⟨rfl, hdg⟩, hck1⟩, hck2⟩ := hck
    unfold pm_wp at h
    by_cases hr : pm_cks own cc nL cs nx (pc' + n) is = true
    · exact pm_step_ok C hcs hCT hck1 hdg hX (fun lv st M hk => ih (pc' + n) lv st M hr hk) h
    · have h2 : pm_step SH CT ret X k (pc', i, n, a, b, ts) lv st M (fun _ _ _ => False) := by
        split at hck2
        · exact h
        · exact h
        · exact h
        · exact h
        · exact h
        · exact absurd hck2 hr
      exact pm_step_ok C hcs hCT hck1 hdg hX (fun lv st M hk => hk.elim) h2
end PM
theorem pm_sl (ad : Nat → Nat) : ∀ vs : List Value, (lg_sl (vs.map (pm_tr ad))).length = (lg_sl vs).length
  | [] => rfl
  | v :: vs => by
    have := pm_sl ad vs
    cases v <;> simp_all [lg_sl, pm_tr, Value.category]
theorem pm_args (ad : Nat → Nat) : ∀ (vs : List Value) (i : Nat), lv_args i (vs.map (pm_tr ad)) = (lv_args i vs).map (pm_tp ad)
  | [], _ => rfl
  | v :: vs, i => by
    show (i, pm_tr ad v) :: lv_args _ (vs.map (pm_tr ad)) = _
    rw [pm_args ad vs, pm_tr_cat]; rfl
/-- A METHOD OUT OF ITS BLOCKS -/
theorem pm_Sem_intro {SH : List pm_S} {y : MethodName} {bb : ByteArray} {nL : Nat} {ret : Option FieldType} {d : Nat} {T : pm_T} (bl : List (Nat × pm_B)) (CT : List pm_C) (cs : List (Bool × Nat)) (hcs : CT.map (fun q => (q.1, q.2.1)) = cs) (hCT : ∀ q ∈ CT, pm_Callee SH y.cls d q) (hck : pm_ckB y.cls bb nL cs bl = true) (hpl : plainFor y = true) (hd : 0 < d)
    (u : ∀ (X : pm_X) (k : Option Value → pm_M → Prop), (∀ t B, (t, B) ∈ bl → ∀ lv st M, pm_wp SH CT ret X k B.2 B.1 lv st M → X t lv st M) → ∀ (args : List Value) (M : pm_M), T args M k → (lg_sl args).length ≤ nL ∧ X 0 (lv_args 0 args) [] M) : pm_Sem SH y bb nL ret d T := by
  intro l ad ct D args M k hT
  refine va_MetF (cc := bb) (maxL := nL) (ret := ret) hpl rfl ?_
  intro p e s m args' below meth c s₁ B hml hv
  obtain ⟨rfl, hP, hK, hD, hRO, hNW⟩ := hv
  have hx := B.exec
  have hb := B.bytes
  have hr := B.returns
  have hts := atoms_spec (ws := .code y bb nL ret :: pm_TB) B.pre
  have hown : s.vm.findClass y.cls = some m.cls := findClass_of_methodNamed B.named
  have hlocks := B.notSynchronized
  have C : pm_Cx p (headSpec (.code y bb nL ret :: pm_TB) (pm_rm0 d)).room s m (args.map (pm_tr ad)).toArray meth c SH ad ct D y.cls bb nL ret d (.code y bb nL ret :: pm_TB) :=
    ⟨hx, hb, hml, hr, hown, hts, fun w hw => List.mem_cons_of_mem _ hw, hlocks, hK, pm_D hD, hRO, hNW, Nat.le_refl _, Nat.le_refl _, hd⟩
  have hXX : ∀ t B, (t, B) ∈ bl → ∀ lv st M, pm_wp SH CT ret (pm_At p l e (headSpec (.code y bb nL ret :: pm_TB) (pm_rm0 d)).room s m (args.map (pm_tr ad)).toArray below meth c SH ad ct D nL (MQ below (pm_Q SH ad ct D ret k) (args.map (pm_tr ad)).toArray s 0 0 (pm_A SH ad))) k B.2 B.1 lv st M → pm_At p l e (headSpec (.code y bb nL ret :: pm_TB) (pm_rm0 d)).room s m (args.map (pm_tr ad)).toArray below meth c SH ad ct D nL (MQ below (pm_Q SH ad ct D ret k) (args.map (pm_tr ad)).toArray s 0 0 (pm_A SH ad)) t lv st M := by
    intro t B hB lv st M hw
    have hck1 := List.all_eq_true.mp hck (t, B) hB
    exact pm_wp_ok C hcs hCT (fun _ _ _ _ h => h) B.1 t lv st M hck1 hw
  obtain ⟨hlen, hX0⟩ := u _ k hXX args M hT
  have hl := lv_entry (args.map (pm_tr ad)) (n := nL) (by rw [pm_sl]; exact hlen)
  rw [pm_args] at hl
  rw [lg_entry_eq]
  exact hX0 s.heap [] _ hl hP va_S.rf
end
section
def bk_X0_choose_0 : pm_B := ([(0, .aload_n 0, 1, 0, 0, []), (1, .iload_n 1, 1, 0, 0, []), (2, .putfield 21, 3, 0, 3, []), (5, .aload_n 0, 1, 0, 0, []), (6, .iload_n 2, 1, 0, 0, []), (7, .putfield 25, 3, 0, 4, []), (10, .aload_n 0, 1, 0, 0, []), (11, .iload_n 3, 1, 0, 0, []), (12, .putfield 28, 3, 0, 5, []), (15, .aload_n 0, 1, 0, 0, []), (16, .iload 4, 2, 0, 0, []), (18, .putfield 31, 3, 0, 6, []), (21, .aload_n 0, 1, 0, 0, []), (22, .iload 5, 2, 0, 0, []), (24, .putfield 34, 3, 0, 7, []), (27, .iconst 0, 1, 0, 0, []), (28, .istore 6, 2, 0, 0, [])], (30, [0, 6]))
def bk_X0_choose_30 : pm_B := ([(30, .iload 6, 2, 0, 0, []), (32, .aload_n 0, 1, 0, 0, []), (33, .getfield 21, 3, 0, 3, []), (36, .if_icmp .ge 55, 3, 0, 0, [(91, [0])]), (39, .iconst 1, 1, 1, 0, []), (40, .istore 7, 2, 0, 0, [])], (42, [0, 6, 7]))
def bk_X0_choose_42 : pm_B := ([(42, .iload 7, 2, 0, 0, []), (44, .aload_n 0, 1, 0, 0, []), (45, .getfield 25, 3, 0, 4, []), (48, .if_icmp .gt 37, 3, 0, 0, [(85, [0, 6])]), (51, .aload_n 0, 1, 0, 0, []), (52, .iload 6, 2, 0, 0, []), (54, .iload 7, 2, 0, 0, []), (56, .invokevirtual 37, 3, 0, 0, []), (59, .istore 8, 2, 0, 0, []), (61, .aload_n 0, 1, 0, 0, []), (62, .getfield 9, 3, 0, 0, []), (65, .iload 8, 2, 0, 0, []), (67, .iload 6, 2, 0, 0, []), (69, .iastore, 1, 0, 0, []), (70, .aload_n 0, 1, 0, 0, []), (71, .getfield 15, 3, 0, 1, []), (74, .iload 8, 2, 0, 0, []), (76, .iload 7, 2, 0, 0, []), (78, .iastore, 1, 0, 0, []), (79, .iinc 7 1, 3, 1, 0, []), (82, .goto (-40), 3, 0, 0, [(42, [0, 6, 7])])], (0, []))
def bk_X0_choose_85 : pm_B := ([(85, .iinc 6 1, 3, 1, 0, []), (88, .goto (-58), 3, 0, 0, [(30, [0, 6])])], (0, []))
def bk_X0_choose_91 : pm_B := ([(91, .iconst 1, 1, 1, 0, []), (92, .istore 6, 2, 0, 0, [])], (94, [0, 6]))
def bk_X0_choose_94 : pm_B := ([(94, .iload 6, 2, 0, 0, []), (96, .aload_n 0, 1, 0, 0, []), (97, .invokevirtual 41, 3, 1, 0, []), (100, .if_icmp .gt 22, 3, 0, 0, [(122, [])]), (103, .aload_n 0, 1, 0, 0, []), (104, .getfield 18, 3, 0, 2, []), (107, .iload 6, 2, 0, 0, []), (109, .aload_n 0, 1, 0, 0, []), (110, .iload 6, 2, 0, 0, []), (112, .invokevirtual 45, 3, 2, 0, []), (115, .iastore, 1, 0, 0, []), (116, .iinc 6 1, 3, 1, 0, []), (119, .goto (-25), 3, 0, 0, [(94, [0, 6])])], (0, []))
def bk_X0_choose_122 : pm_B := ([(122, .return_, 1, 0, 0, [])], (0, []))
def bl_X0_choose : List (Nat × pm_B) := [(0, bk_X0_choose_0), (30, bk_X0_choose_30), (42, bk_X0_choose_42), (85, bk_X0_choose_85), (91, bk_X0_choose_91), (94, bk_X0_choose_94), (122, bk_X0_choose_122)]
def cs_X0_choose : List (Bool × Nat) := [(false, 37), (false, 41), (false, 45)]
theorem ck_X0_choose : pm_ckB yX0_choose.cls cX0_choose 9 cs_X0_choose bl_X0_choose = true := by decide +kernel
def bk_X0_size_0 : pm_B := ([(0, .aload_n 0, 1, 0, 0, []), (1, .getfield 21, 3, 0, 3, []), (4, .aload_n 0, 1, 0, 0, []), (5, .getfield 25, 3, 0, 4, []), (8, .imul, 1, 0, 0, []), (9, .ireturn, 1, 0, 0, [])], (0, []))
def bl_X0_size : List (Nat × pm_B) := [(0, bk_X0_size_0)]
def cs_X0_size : List (Bool × Nat) := []
theorem ck_X0_size : pm_ckB yX0_size.cls cX0_size 1 cs_X0_size bl_X0_size = true := by decide +kernel
def bk_X0_has_0 : pm_B := ([(0, .iload_n 1, 1, 0, 0, []), (1, .iconst 0, 1, 0, 0, []), (2, .aload_n 0, 1, 0, 0, []), (3, .getfield 21, 3, 0, 3, []), (6, .iconst 1, 1, 1, 0, []), (7, .isub, 1, 0, 0, []), (8, .invokestatic 49, 3, 0, 0, []), (11, .ifCond .eq 19, 3, 0, 0, [(30, [])]), (14, .iload_n 2, 1, 0, 0, []), (15, .iconst 1, 1, 1, 0, []), (16, .aload_n 0, 1, 0, 0, []), (17, .getfield 25, 3, 0, 4, []), (20, .invokestatic 49, 3, 0, 0, []), (23, .ifCond .eq 7, 3, 0, 0, [(30, [])]), (26, .iconst 1, 1, 1, 0, []), (27, .goto 4, 3, 0, 0, [(31, [])])], (0, []))
def bk_X0_has_30 : pm_B := ([(30, .iconst 0, 1, 0, 0, [])], (31, []))
def bk_X0_has_31 : pm_B := ([(31, .ireturn, 1, 0, 0, [])], (0, []))
def bl_X0_has : List (Nat × pm_B) := [(0, bk_X0_has_0), (30, bk_X0_has_30), (31, bk_X0_has_31)]
def cs_X0_has : List (Bool × Nat) := [(true, 49)]
theorem ck_X0_has : pm_ckB yX0_has.cls cX0_has 3 cs_X0_has bl_X0_has = true := by decide +kernel
def bk_X0_hasCode_0 : pm_B := ([(0, .aload_n 0, 1, 0, 0, []), (1, .iload_n 1, 1, 0, 0, []), (2, .iconst 3, 1, 3, 0, []), (3, .ishr, 1, 0, 0, []), (4, .iload_n 1, 1, 0, 0, []), (5, .bipush 7, 2, 7, 0, []), (7, .iand, 1, 0, 0, []), (8, .invokevirtual 53, 3, 0, 0, []), (11, .ireturn, 1, 0, 0, [])], (0, []))
def bl_X0_hasCode : List (Nat × pm_B) := [(0, bk_X0_hasCode_0)]
def cs_X0_hasCode : List (Bool × Nat) := [(false, 53)]
theorem ck_X0_hasCode : pm_ckB yX0_hasCode.cls cX0_hasCode 2 cs_X0_hasCode bl_X0_hasCode = true := by decide +kernel
def bk_X0_cardOf_0 : pm_B := ([(0, .iload_n 1, 1, 0, 0, []), (1, .aload_n 0, 1, 0, 0, []), (2, .getfield 25, 3, 0, 4, []), (5, .imul, 1, 0, 0, []), (6, .iload_n 2, 1, 0, 0, []), (7, .iadd, 1, 0, 0, []), (8, .bipush 15, 2, 15, 0, []), (10, .iand, 1, 0, 0, []), (11, .ireturn, 1, 0, 0, [])], (0, []))
def bl_X0_cardOf : List (Nat × pm_B) := [(0, bk_X0_cardOf_0)]
def cs_X0_cardOf : List (Bool × Nat) := []
theorem ck_X0_cardOf : pm_ckB yX0_cardOf.cls cX0_cardOf 3 cs_X0_cardOf bl_X0_cardOf = true := by decide +kernel
def bk_X0_cardOfCode_0 : pm_B := ([(0, .aload_n 0, 1, 0, 0, []), (1, .iload_n 1, 1, 0, 0, []), (2, .iconst 3, 1, 3, 0, []), (3, .ishr, 1, 0, 0, []), (4, .iload_n 1, 1, 0, 0, []), (5, .bipush 7, 2, 7, 0, []), (7, .iand, 1, 0, 0, []), (8, .invokevirtual 37, 3, 0, 0, []), (11, .ireturn, 1, 0, 0, [])], (0, []))
def bl_X0_cardOfCode : List (Nat × pm_B) := [(0, bk_X0_cardOfCode_0)]
def cs_X0_cardOfCode : List (Bool × Nat) := [(false, 37)]
theorem ck_X0_cardOfCode : pm_ckB yX0_cardOfCode.cls cX0_cardOfCode 2 cs_X0_cardOfCode bl_X0_cardOfCode = true := by decide +kernel
def bk_X0_codeOf_0 : pm_B := ([(0, .iload_n 1, 1, 0, 0, []), (1, .ifCond .ne 7, 3, 0, 0, [(8, [0, 1])]), (4, .iconst 0, 1, 0, 0, []), (5, .goto 25, 3, 0, 0, [(30, [])])], (0, []))
def bk_X0_codeOf_8 : pm_B := ([(8, .bipush 8, 2, 8, 0, []), (10, .aload_n 0, 1, 0, 0, []), (11, .getfield 9, 3, 0, 0, []), (14, .iload_n 1, 1, 0, 0, []), (15, .bipush 15, 2, 15, 0, []), (17, .iand, 1, 0, 0, []), (18, .iaload, 1, 0, 0, []), (19, .imul, 1, 0, 0, []), (20, .aload_n 0, 1, 0, 0, []), (21, .getfield 15, 3, 0, 1, []), (24, .iload_n 1, 1, 0, 0, []), (25, .bipush 15, 2, 15, 0, []), (27, .iand, 1, 0, 0, []), (28, .iaload, 1, 0, 0, []), (29, .iadd, 1, 0, 0, [])], (30, []))
def bk_X0_codeOf_30 : pm_B := ([(30, .ireturn, 1, 0, 0, [])], (0, []))
def bl_X0_codeOf : List (Nat × pm_B) := [(0, bk_X0_codeOf_0), (8, bk_X0_codeOf_8), (30, bk_X0_codeOf_30)]
def cs_X0_codeOf : List (Bool × Nat) := []
theorem ck_X0_codeOf : pm_ckB yX0_codeOf.cls cX0_codeOf 2 cs_X0_codeOf bl_X0_codeOf = true := by decide +kernel
def bk_X0_allows_0 : pm_B := ([(0, .aload_n 0, 1, 0, 0, []), (1, .getfield 18, 3, 0, 2, []), (4, .iload_n 1, 1, 0, 0, []), (5, .bipush 15, 2, 15, 0, []), (7, .iand, 1, 0, 0, []), (8, .iaload, 1, 0, 0, []), (9, .iconst 1, 1, 1, 0, []), (10, .iload_n 2, 1, 0, 0, []), (11, .ishl, 1, 0, 0, []), (12, .iand, 1, 0, 0, []), (13, .ifCond .eq 7, 3, 0, 0, [(20, [])]), (16, .iconst 1, 1, 1, 0, []), (17, .goto 4, 3, 0, 0, [(21, [])])], (0, []))
def bk_X0_allows_20 : pm_B := ([(20, .iconst 0, 1, 0, 0, [])], (21, []))
def bk_X0_allows_21 : pm_B := ([(21, .ireturn, 1, 0, 0, [])], (0, []))
def bl_X0_allows : List (Nat × pm_B) := [(0, bk_X0_allows_0), (20, bk_X0_allows_20), (21, bk_X0_allows_21)]
def cs_X0_allows : List (Bool × Nat) := []
theorem ck_X0_allows : pm_ckB yX0_allows.cls cX0_allows 3 cs_X0_allows bl_X0_allows = true := by decide +kernel
def bk_X0_targetsOf_0 : pm_B := ([(0, .aload_n 0, 1, 0, 0, []), (1, .getfield 34, 3, 0, 7, []), (4, .iconst 4, 1, 4, 0, []), (5, .if_icmp .ne 16, 3, 0, 0, [(21, [0, 1])]), (8, .aload_n 0, 1, 0, 0, []), (9, .getfield 15, 3, 0, 1, []), (12, .iload_n 1, 1, 0, 0, []), (13, .iaload, 1, 0, 0, []), (14, .aload_n 0, 1, 0, 0, []), (15, .getfield 25, 3, 0, 4, []), (18, .if_icmp .ne 7, 3, 0, 0, [(25, [0, 1])])], (21, [0, 1]))
def bk_X0_targetsOf_21 : pm_B := ([(21, .iconst 1, 1, 1, 0, []), (22, .goto 4, 3, 0, 0, [(26, [0, 1])])], (0, []))
def bk_X0_targetsOf_25 : pm_B := ([(25, .iconst 0, 1, 0, 0, [])], (26, [0, 1]))
def bk_X0_targetsOf_26 : pm_B := ([(26, .istore_n 2, 1, 0, 0, []), (27, .iconst 1, 1, 1, 0, []), (28, .istore_n 3, 1, 0, 0, [])], (29, [0, 1, 2, 3]))
def bk_X0_targetsOf_29 : pm_B := ([(29, .iload_n 3, 1, 0, 0, []), (30, .aload_n 0, 1, 0, 0, []), (31, .invokevirtual 41, 3, 0, 0, []), (34, .if_icmp .gt 24, 3, 0, 0, [(58, [2])]), (37, .aload_n 0, 1, 0, 0, []), (38, .iload_n 1, 1, 0, 0, []), (39, .iload_n 3, 1, 0, 0, []), (40, .invokevirtual 57, 3, 1, 0, []), (43, .ifCond .eq 9, 3, 0, 0, [(52, [0, 1, 2, 3])]), (46, .iload_n 2, 1, 0, 0, []), (47, .iconst 1, 1, 1, 0, []), (48, .iload_n 3, 1, 0, 0, []), (49, .ishl, 1, 0, 0, []), (50, .ior, 1, 0, 0, []), (51, .istore_n 2, 1, 0, 0, [])], (52, [0, 1, 2, 3]))
def bk_X0_targetsOf_52 : pm_B := ([(52, .iinc 3 1, 3, 1, 0, []), (55, .goto (-26), 3, 0, 0, [(29, [0, 1, 2, 3])])], (0, []))
def bk_X0_targetsOf_58 : pm_B := ([(58, .iload_n 2, 1, 0, 0, []), (59, .ireturn, 1, 0, 0, [])], (0, []))
def bl_X0_targetsOf : List (Nat × pm_B) := [(0, bk_X0_targetsOf_0), (21, bk_X0_targetsOf_21), (25, bk_X0_targetsOf_25), (26, bk_X0_targetsOf_26), (29, bk_X0_targetsOf_29), (52, bk_X0_targetsOf_52), (58, bk_X0_targetsOf_58)]
def cs_X0_targetsOf : List (Bool × Nat) := [(false, 41), (false, 57)]
theorem ck_X0_targetsOf : pm_ckB yX0_targetsOf.cls cX0_targetsOf 4 cs_X0_targetsOf bl_X0_targetsOf = true := by decide +kernel
def bk_X0_lawLets_0 : pm_B := ([(0, .aload_n 0, 1, 0, 0, []), (1, .getfield 15, 3, 0, 1, []), (4, .iload_n 2, 1, 0, 0, []), (5, .iaload, 1, 0, 0, []), (6, .aload_n 0, 1, 0, 0, []), (7, .getfield 15, 3, 0, 1, []), (10, .iload_n 1, 1, 0, 0, []), (11, .iaload, 1, 0, 0, []), (12, .iconst 1, 1, 1, 0, []), (13, .iadd, 1, 0, 0, []), (14, .if_icmp .ne 7, 3, 0, 0, [(21, [0, 1, 2])]), (17, .iconst 1, 1, 1, 0, []), (18, .goto 4, 3, 0, 0, [(22, [0, 1, 2])])], (0, []))
def bk_X0_lawLets_21 : pm_B := ([(21, .iconst 0, 1, 0, 0, [])], (22, [0, 1, 2]))
def bk_X0_lawLets_22 : pm_B := ([(22, .istore_n 3, 1, 0, 0, []), (23, .aload_n 0, 1, 0, 0, []), (24, .getfield 9, 3, 0, 0, []), (27, .iload_n 2, 1, 0, 0, []), (28, .iaload, 1, 0, 0, []), (29, .aload_n 0, 1, 0, 0, []), (30, .getfield 9, 3, 0, 0, []), (33, .iload_n 1, 1, 0, 0, []), (34, .iaload, 1, 0, 0, []), (35, .if_icmp .ne 7, 3, 0, 0, [(42, [0, 1, 2, 3])]), (38, .iconst 1, 1, 1, 0, []), (39, .goto 4, 3, 0, 0, [(43, [0, 1, 2, 3])])], (0, []))
def bk_X0_lawLets_42 : pm_B := ([(42, .iconst 0, 1, 0, 0, [])], (43, [0, 1, 2, 3]))
def bk_X0_lawLets_43 : pm_B := ([(43, .istore 4, 2, 0, 0, []), (45, .aload_n 0, 1, 0, 0, []), (46, .getfield 34, 3, 0, 7, []), (49, .tableswitch 99 1 4 #[31, 70, 46, 70], 31, 0, 0, [(148, [3]), (80, [3, 4]), (119, [0, 1, 2, 3]), (95, [0, 1, 2, 3, 4]), (119, [0, 1, 2, 3])])], (0, []))
def bk_X0_lawLets_80 : pm_B := ([(80, .iload_n 3, 1, 0, 0, []), (81, .ifCond .eq 12, 3, 0, 0, [(93, [])]), (84, .iload 4, 2, 0, 0, []), (86, .ifCond .eq 7, 3, 0, 0, [(93, [])]), (89, .iconst 1, 1, 1, 0, []), (90, .goto 4, 3, 0, 0, [(94, [])])], (0, []))
def bk_X0_lawLets_93 : pm_B := ([(93, .iconst 0, 1, 0, 0, [])], (94, []))
def bk_X0_lawLets_94 : pm_B := ([(94, .ireturn, 1, 0, 0, [])], (0, []))
def bk_X0_lawLets_95 : pm_B := ([(95, .iload 4, 2, 0, 0, []), (97, .ifCond .eq 20, 3, 0, 0, [(117, [])]), (100, .iload_n 3, 1, 0, 0, []), (101, .ifCond .ne 12, 3, 0, 0, [(113, [])]), (104, .aload_n 0, 1, 0, 0, []), (105, .iload_n 1, 1, 0, 0, []), (106, .iload_n 2, 1, 0, 0, []), (107, .invokevirtual 60, 3, 0, 0, []), (110, .ifCond .eq 7, 3, 0, 0, [(117, [])])], (113, []))
def bk_X0_lawLets_113 : pm_B := ([(113, .iconst 1, 1, 1, 0, []), (114, .goto 4, 3, 0, 0, [(118, [])])], (0, []))
def bk_X0_lawLets_117 : pm_B := ([(117, .iconst 0, 1, 0, 0, [])], (118, []))
def bk_X0_lawLets_118 : pm_B := ([(118, .ireturn, 1, 0, 0, [])], (0, []))
def bk_X0_lawLets_119 : pm_B := ([(119, .iload_n 3, 1, 0, 0, []), (120, .ifCond .eq 26, 3, 0, 0, [(146, [])]), (123, .aload_n 0, 1, 0, 0, []), (124, .aload_n 0, 1, 0, 0, []), (125, .getfield 9, 3, 0, 0, []), (128, .iload_n 1, 1, 0, 0, []), (129, .iaload, 1, 0, 0, []), (130, .aload_n 0, 1, 0, 0, []), (131, .getfield 9, 3, 0, 0, []), (134, .iload_n 2, 1, 0, 0, []), (135, .iaload, 1, 0, 0, []), (136, .invokevirtual 63, 3, 1, 0, []), (139, .ifCond .eq 7, 3, 0, 0, [(146, [])]), (142, .iconst 1, 1, 1, 0, []), (143, .goto 4, 3, 0, 0, [(147, [])])], (0, []))
def bk_X0_lawLets_146 : pm_B := ([(146, .iconst 0, 1, 0, 0, [])], (147, []))
def bk_X0_lawLets_147 : pm_B := ([(147, .ireturn, 1, 0, 0, [])], (0, []))
def bk_X0_lawLets_148 : pm_B := ([(148, .iload_n 3, 1, 0, 0, []), (149, .ireturn, 1, 0, 0, [])], (0, []))
def bl_X0_lawLets : List (Nat × pm_B) := [(0, bk_X0_lawLets_0), (21, bk_X0_lawLets_21), (22, bk_X0_lawLets_22), (42, bk_X0_lawLets_42), (43, bk_X0_lawLets_43), (80, bk_X0_lawLets_80), (93, bk_X0_lawLets_93), (94, bk_X0_lawLets_94), (95, bk_X0_lawLets_95), (113, bk_X0_lawLets_113), (117, bk_X0_lawLets_117), (118, bk_X0_lawLets_118), (119, bk_X0_lawLets_119), (146, bk_X0_lawLets_146), (147, bk_X0_lawLets_147), (148, bk_X0_lawLets_148)]
def cs_X0_lawLets : List (Bool × Nat) := [(false, 60), (false, 63)]
theorem ck_X0_lawLets : pm_ckB yX0_lawLets.cls cX0_lawLets 5 cs_X0_lawLets bl_X0_lawLets = true := by decide +kernel
def bk_X0_closesRound_0 : pm_B := ([(0, .aload_n 0, 1, 0, 0, []), (1, .getfield 25, 3, 0, 4, []), (4, .iconst 1, 1, 1, 0, []), (5, .if_icmp .le 30, 3, 0, 0, [(35, [])]), (8, .aload_n 0, 1, 0, 0, []), (9, .getfield 15, 3, 0, 1, []), (12, .iload_n 1, 1, 0, 0, []), (13, .iaload, 1, 0, 0, []), (14, .aload_n 0, 1, 0, 0, []), (15, .getfield 25, 3, 0, 4, []), (18, .if_icmp .ne 17, 3, 0, 0, [(35, [])]), (21, .aload_n 0, 1, 0, 0, []), (22, .getfield 15, 3, 0, 1, []), (25, .iload_n 2, 1, 0, 0, []), (26, .iaload, 1, 0, 0, []), (27, .iconst 1, 1, 1, 0, []), (28, .if_icmp .ne 7, 3, 0, 0, [(35, [])]), (31, .iconst 1, 1, 1, 0, []), (32, .goto 4, 3, 0, 0, [(36, [])])], (0, []))
def bk_X0_closesRound_35 : pm_B := ([(35, .iconst 0, 1, 0, 0, [])], (36, []))
def bk_X0_closesRound_36 : pm_B := ([(36, .ireturn, 1, 0, 0, [])], (0, []))
def bl_X0_closesRound : List (Nat × pm_B) := [(0, bk_X0_closesRound_0), (35, bk_X0_closesRound_35), (36, bk_X0_closesRound_36)]
def cs_X0_closesRound : List (Bool × Nat) := []
theorem ck_X0_closesRound : pm_ckB yX0_closesRound.cls cX0_closesRound 3 cs_X0_closesRound bl_X0_closesRound = true := by decide +kernel
def bk_X0_suitsTurn_0 : pm_B := ([(0, .iload_n 1, 1, 0, 0, []), (1, .iconst 1, 1, 1, 0, []), (2, .iand, 1, 0, 0, []), (3, .iload_n 2, 1, 0, 0, []), (4, .iconst 1, 1, 1, 0, []), (5, .iand, 1, 0, 0, []), (6, .if_icmp .eq 7, 3, 0, 0, [(13, [])]), (9, .iconst 1, 1, 1, 0, []), (10, .goto 4, 3, 0, 0, [(14, [])])], (0, []))
def bk_X0_suitsTurn_13 : pm_B := ([(13, .iconst 0, 1, 0, 0, [])], (14, []))
def bk_X0_suitsTurn_14 : pm_B := ([(14, .ireturn, 1, 0, 0, [])], (0, []))
def bl_X0_suitsTurn : List (Nat × pm_B) := [(0, bk_X0_suitsTurn_0), (13, bk_X0_suitsTurn_13), (14, bk_X0_suitsTurn_14)]
def cs_X0_suitsTurn : List (Bool × Nat) := []
theorem ck_X0_suitsTurn : pm_ckB yX0_suitsTurn.cls cX0_suitsTurn 3 cs_X0_suitsTurn bl_X0_suitsTurn = true := by decide +kernel
def bk_X1_restart_0 : pm_B := ([(0, .aload_n 0, 1, 0, 0, []), (1, .iconst 0, 1, 0, 0, []), (2, .putfield 17, 3, 1, 2, []), (5, .aload_n 0, 1, 0, 0, []), (6, .iconst 0, 1, 0, 0, []), (7, .putfield 21, 3, 1, 3, []), (10, .aload_n 0, 1, 0, 0, []), (11, .aload_n 1, 1, 0, 0, []), (12, .invokevirtual 24, 3, 0, 0, []), (15, .return_, 1, 0, 0, [])], (0, []))
def bl_X1_restart : List (Nat × pm_B) := [(0, bk_X1_restart_0)]
def cs_X1_restart : List (Bool × Nat) := [(false, 24)]
theorem ck_X1_restart : pm_ckB yX1_restart.cls cX1_restart 2 cs_X1_restart bl_X1_restart = true := by decide +kernel
def bk_X1_keep_0 : pm_B := ([(0, .aload_n 0, 1, 0, 0, []), (1, .getfield 17, 3, 1, 2, []), (4, .bipush 64, 2, 64, 0, []), (6, .if_icmp .ge 16, 3, 0, 0, [(22, [0, 1])]), (9, .aload_n 0, 1, 0, 0, []), (10, .dup, 1, 0, 0, []), (11, .getfield 17, 3, 1, 2, []), (14, .iconst 1, 1, 1, 0, []), (15, .iadd, 1, 0, 0, []), (16, .putfield 17, 3, 1, 2, []), (19, .goto 33, 3, 0, 0, [(52, [0, 1])])], (0, []))
def bk_X1_keep_22 : pm_B := ([(22, .aload_n 0, 1, 0, 0, []), (23, .getfield 9, 3, 1, 0, []), (26, .iconst 1, 1, 1, 0, []), (27, .aload_n 0, 1, 0, 0, []), (28, .getfield 9, 3, 1, 0, []), (31, .iconst 0, 1, 0, 0, []), (32, .bipush 64, 2, 64, 0, []), (34, .invokestatic 28, 3, 0, 2, []), (37, .aload_n 0, 1, 0, 0, []), (38, .getfield 13, 3, 1, 1, []), (41, .iconst 1, 1, 1, 0, []), (42, .aload_n 0, 1, 0, 0, []), (43, .getfield 13, 3, 1, 1, []), (46, .iconst 0, 1, 0, 0, []), (47, .bipush 64, 2, 64, 0, []), (49, .invokestatic 28, 3, 0, 1, [])], (52, [0, 1]))
def bk_X1_keep_52 : pm_B := ([(52, .aload_n 0, 1, 0, 0, []), (53, .aload_n 0, 1, 0, 0, []), (54, .getfield 17, 3, 1, 2, []), (57, .putfield 21, 3, 1, 3, []), (60, .aload_n 0, 1, 0, 0, []), (61, .aload_n 1, 1, 0, 0, []), (62, .invokevirtual 24, 3, 0, 0, []), (65, .return_, 1, 0, 0, [])], (0, []))
def bl_X1_keep : List (Nat × pm_B) := [(0, bk_X1_keep_0), (22, bk_X1_keep_22), (52, bk_X1_keep_52)]
def cs_X1_keep : List (Bool × Nat) := [(false, 24)]
theorem ck_X1_keep : pm_ckB yX1_keep.cls cX1_keep 2 cs_X1_keep bl_X1_keep = true := by decide +kernel
def bk_X1_canGoBack_0 : pm_B := ([(0, .aload_n 0, 1, 0, 0, []), (1, .getfield 17, 3, 1, 2, []), (4, .ireturn, 1, 0, 0, [])], (0, []))
def bl_X1_canGoBack : List (Nat × pm_B) := [(0, bk_X1_canGoBack_0)]
def cs_X1_canGoBack : List (Bool × Nat) := []
theorem ck_X1_canGoBack : pm_ckB yX1_canGoBack.cls cX1_canGoBack 1 cs_X1_canGoBack bl_X1_canGoBack = true := by decide +kernel
def bk_X1_goBack_0 : pm_B := ([(0, .aload_n 0, 1, 0, 0, []), (1, .getfield 17, 3, 1, 2, []), (4, .ifCond .ne 5, 3, 0, 0, [(9, [0, 1])]), (7, .iconst 0, 1, 0, 0, []), (8, .ireturn, 1, 0, 0, [])], (0, []))
def bk_X1_goBack_9 : pm_B := ([(9, .aload_n 0, 1, 0, 0, []), (10, .dup, 1, 0, 0, []), (11, .getfield 17, 3, 1, 2, []), (14, .iconst 1, 1, 1, 0, []), (15, .isub, 1, 0, 0, []), (16, .putfield 17, 3, 1, 2, []), (19, .aload_n 1, 1, 0, 0, []), (20, .aload_n 0, 1, 0, 0, []), (21, .getfield 9, 3, 1, 0, []), (24, .aload_n 0, 1, 0, 0, []), (25, .getfield 17, 3, 1, 2, []), (28, .laload, 1, 0, 0, []), (29, .aload_n 0, 1, 0, 0, []), (30, .getfield 13, 3, 1, 1, []), (33, .aload_n 0, 1, 0, 0, []), (34, .getfield 17, 3, 1, 2, []), (37, .iaload, 1, 0, 0, []), (38, .invokevirtual 34, 3, 0, 0, []), (41, .iconst 1, 1, 1, 0, []), (42, .ireturn, 1, 0, 0, [])], (0, []))
def bl_X1_goBack : List (Nat × pm_B) := [(0, bk_X1_goBack_0), (9, bk_X1_goBack_9)]
def cs_X1_goBack : List (Bool × Nat) := [(false, 34)]
theorem ck_X1_goBack : pm_ckB yX1_goBack.cls cX1_goBack 2 cs_X1_goBack bl_X1_goBack = true := by decide +kernel
def bk_X1_goOn_0 : pm_B := ([(0, .aload_n 0, 1, 0, 0, []), (1, .getfield 17, 3, 1, 2, []), (4, .aload_n 0, 1, 0, 0, []), (5, .getfield 21, 3, 1, 3, []), (8, .if_icmp .lt 5, 3, 0, 0, [(13, [0, 1])]), (11, .iconst 0, 1, 0, 0, []), (12, .ireturn, 1, 0, 0, [])], (0, []))
def bk_X1_goOn_13 : pm_B := ([(13, .aload_n 0, 1, 0, 0, []), (14, .dup, 1, 0, 0, []), (15, .getfield 17, 3, 1, 2, []), (18, .iconst 1, 1, 1, 0, []), (19, .iadd, 1, 0, 0, []), (20, .putfield 17, 3, 1, 2, []), (23, .aload_n 1, 1, 0, 0, []), (24, .aload_n 0, 1, 0, 0, []), (25, .getfield 9, 3, 1, 0, []), (28, .aload_n 0, 1, 0, 0, []), (29, .getfield 17, 3, 1, 2, []), (32, .laload, 1, 0, 0, []), (33, .aload_n 0, 1, 0, 0, []), (34, .getfield 13, 3, 1, 1, []), (37, .aload_n 0, 1, 0, 0, []), (38, .getfield 17, 3, 1, 2, []), (41, .iaload, 1, 0, 0, []), (42, .invokevirtual 34, 3, 0, 0, []), (45, .iconst 1, 1, 1, 0, []), (46, .ireturn, 1, 0, 0, [])], (0, []))
def bl_X1_goOn : List (Nat × pm_B) := [(0, bk_X1_goOn_0), (13, bk_X1_goOn_13)]
def cs_X1_goOn : List (Bool × Nat) := [(false, 34)]
theorem ck_X1_goOn : pm_ckB yX1_goOn.cls cX1_goOn 2 cs_X1_goOn bl_X1_goOn = true := by decide +kernel
def bk_X1_write_0 : pm_B := ([(0, .aload_n 0, 1, 0, 0, []), (1, .getfield 9, 3, 1, 0, []), (4, .aload_n 0, 1, 0, 0, []), (5, .getfield 17, 3, 1, 2, []), (8, .aload_n 1, 1, 0, 0, []), (9, .invokevirtual 40, 3, 0, 0, []), (12, .lastore, 1, 0, 0, []), (13, .aload_n 0, 1, 0, 0, []), (14, .getfield 13, 3, 1, 1, []), (17, .aload_n 0, 1, 0, 0, []), (18, .getfield 17, 3, 1, 2, []), (21, .aload_n 1, 1, 0, 0, []), (22, .invokevirtual 44, 3, 1, 0, []), (25, .iastore, 1, 0, 0, []), (26, .return_, 1, 0, 0, [])], (0, []))
def bl_X1_write : List (Nat × pm_B) := [(0, bk_X1_write_0)]
def cs_X1_write : List (Bool × Nat) := [(false, 40), (false, 44)]
theorem ck_X1_write : pm_ckB yX1_write.cls cX1_write 2 cs_X1_write bl_X1_write = true := by decide +kernel
def bk_X2_write_0 : pm_B := ([(0, .bipush 8, 2, 8, 0, []), (2, .iload_n 1, 1, 0, 0, []), (3, .bipush 8, 2, 8, 0, []), (5, .irem, 1, 0, 0, []), (6, .imul, 1, 0, 0, []), (7, .istore_n 3, 1, 0, 0, []), (8, .aload_n 0, 1, 0, 0, []), (9, .getfield 11, 3, 2, 0, []), (12, .iload_n 1, 1, 0, 0, []), (13, .bipush 8, 2, 8, 0, []), (15, .idiv, 1, 0, 0, []), (16, .laload, 1, 0, 0, []), (17, .ldc2_w 15, 3, 255, 0, []), (20, .iload_n 3, 1, 0, 0, []), (21, .lshl, 1, 0, 0, []), (22, .ldc2_w 17, 3, 18446744073709551615, 0, []), (25, .lxor, 1, 0, 0, []), (26, .land, 1, 0, 0, []), (27, .lstore 4, 2, 0, 0, []), (29, .aload_n 0, 1, 0, 0, []), (30, .getfield 11, 3, 2, 0, []), (33, .iload_n 1, 1, 0, 0, []), (34, .bipush 8, 2, 8, 0, []), (36, .idiv, 1, 0, 0, []), (37, .lload 4, 2, 0, 0, []), (39, .iload_n 2, 1, 0, 0, []), (40, .i2l, 1, 0, 0, []), (41, .iload_n 3, 1, 0, 0, []), (42, .lshl, 1, 0, 0, []), (43, .lor, 1, 0, 0, []), (44, .lastore, 1, 0, 0, []), (45, .return_, 1, 0, 0, [])], (0, []))
def bl_X2_write : List (Nat × pm_B) := [(0, bk_X2_write_0)]
def cs_X2_write : List (Bool × Nat) := []
theorem ck_X2_write : pm_ckB yX2_write.cls cX2_write 6 cs_X2_write bl_X2_write = true := by decide +kernel
def bk_X2_moveAt_0 : pm_B := ([(0, .aload_n 0, 1, 0, 0, []), (1, .getfield 11, 3, 2, 0, []), (4, .iload_n 1, 1, 0, 0, []), (5, .bipush 8, 2, 8, 0, []), (7, .idiv, 1, 0, 0, []), (8, .laload, 1, 0, 0, []), (9, .bipush 8, 2, 8, 0, []), (11, .iload_n 1, 1, 0, 0, []), (12, .bipush 8, 2, 8, 0, []), (14, .irem, 1, 0, 0, []), (15, .imul, 1, 0, 0, []), (16, .lushr, 1, 0, 0, []), (17, .l2i, 1, 0, 0, []), (18, .sipush 255, 3, 255, 0, []), (21, .iand, 1, 0, 0, []), (22, .ireturn, 1, 0, 0, [])], (0, []))
def bl_X2_moveAt : List (Nat × pm_B) := [(0, bk_X2_moveAt_0)]
def cs_X2_moveAt : List (Bool × Nat) := []
theorem ck_X2_moveAt : pm_ckB yX2_moveAt.cls cX2_moveAt 2 cs_X2_moveAt bl_X2_moveAt = true := by decide +kernel
def bk_X2_fromAt_0 : pm_B := ([(0, .aload_n 0, 1, 0, 0, []), (1, .iload_n 1, 1, 0, 0, []), (2, .invokevirtual 19, 3, 0, 0, []), (5, .iconst 3, 1, 3, 0, []), (6, .ishr, 1, 0, 0, []), (7, .ireturn, 1, 0, 0, [])], (0, []))
def bl_X2_fromAt : List (Nat × pm_B) := [(0, bk_X2_fromAt_0)]
def cs_X2_fromAt : List (Bool × Nat) := [(false, 19)]
theorem ck_X2_fromAt : pm_ckB yX2_fromAt.cls cX2_fromAt 2 cs_X2_fromAt bl_X2_fromAt = true := by decide +kernel
def bk_X2_toAt_0 : pm_B := ([(0, .aload_n 0, 1, 0, 0, []), (1, .iload_n 1, 1, 0, 0, []), (2, .invokevirtual 19, 3, 0, 0, []), (5, .bipush 7, 2, 7, 0, []), (7, .iand, 1, 0, 0, []), (8, .ireturn, 1, 0, 0, [])], (0, []))
def bl_X2_toAt : List (Nat × pm_B) := [(0, bk_X2_toAt_0)]
def cs_X2_toAt : List (Bool × Nat) := [(false, 19)]
theorem ck_X2_toAt : pm_ckB yX2_toAt.cls cX2_toAt 2 cs_X2_toAt bl_X2_toAt = true := by decide +kernel
def bk_X3_fewestMoves_0 : pm_B := ([(0, .aload_n 1, 1, 0, 0, []), (1, .invokevirtual 31, 3, 0, 0, []), (4, .ifCond .eq 5, 3, 0, 0, [(9, [0, 1, 2, 3])]), (7, .iconst 0, 1, 0, 0, []), (8, .ireturn, 1, 0, 0, [])], (0, []))
def bk_X3_fewestMoves_9 : pm_B := ([(9, .aload_n 0, 1, 0, 0, []), (10, .aload_n 1, 1, 0, 0, []), (11, .iload_n 2, 1, 0, 0, []), (12, .iload_n 3, 1, 0, 0, []), (13, .invokevirtual 35, 3, 1, 0, []), (16, .iconst 0, 1, 0, 0, []), (17, .istore 4, 2, 0, 0, []), (19, .iconst 1, 1, 1, 0, []), (20, .istore 5, 2, 0, 0, [])], (22, [0, 4, 5]))
def bk_X3_fewestMoves_22 : pm_B := ([(22, .iload 5, 2, 0, 0, []), (24, .sipush 4000, 3, 4000, 0, []), (27, .if_icmp .gt 61, 3, 0, 0, [(88, [])]), (30, .aload_n 0, 1, 0, 0, []), (31, .getfield 39, 3, 3, 4, []), (34, .istore 6, 2, 0, 0, [])], (36, [0, 4, 5, 6]))
def bk_X3_fewestMoves_36 : pm_B := ([(36, .iload 4, 2, 0, 0, []), (38, .iload 6, 2, 0, 0, []), (40, .if_icmp .ge 21, 3, 0, 0, [(61, [0, 4, 5, 6])]), (43, .aload_n 0, 1, 0, 0, []), (44, .iload 4, 2, 0, 0, []), (46, .invokevirtual 43, 3, 2, 0, []), (49, .ifCond .eq 6, 3, 0, 0, [(55, [0, 4, 5, 6])]), (52, .iload 5, 2, 0, 0, []), (54, .ireturn, 1, 0, 0, [])], (0, []))
def bk_X3_fewestMoves_55 : pm_B := ([(55, .iinc 4 1, 3, 1, 0, []), (58, .goto (-22), 3, 0, 0, [(36, [0, 4, 5, 6])])], (0, []))
def bk_X3_fewestMoves_61 : pm_B := ([(61, .aload_n 0, 1, 0, 0, []), (62, .getfield 47, 3, 3, 6, []), (65, .ifCond .eq 6, 3, 0, 0, [(71, [0, 4, 5, 6])]), (68, .bipush (-3), 2, 3, 1, []), (70, .ireturn, 1, 0, 0, [])], (0, []))
def bk_X3_fewestMoves_71 : pm_B := ([(71, .aload_n 0, 1, 0, 0, []), (72, .getfield 39, 3, 3, 4, []), (75, .iload 6, 2, 0, 0, []), (77, .if_icmp .ne 5, 3, 0, 0, [(82, [0, 4, 5])]), (80, .iconst (-1), 1, 1, 1, []), (81, .ireturn, 1, 0, 0, [])], (0, []))
def bk_X3_fewestMoves_82 : pm_B := ([(82, .iinc 5 1, 3, 1, 0, []), (85, .goto (-63), 3, 0, 0, [(22, [0, 4, 5])])], (0, []))
def bk_X3_fewestMoves_88 : pm_B := ([(88, .bipush (-3), 2, 3, 1, []), (90, .ireturn, 1, 0, 0, [])], (0, []))
def bl_X3_fewestMoves : List (Nat × pm_B) := [(0, bk_X3_fewestMoves_0), (9, bk_X3_fewestMoves_9), (22, bk_X3_fewestMoves_22), (36, bk_X3_fewestMoves_36), (55, bk_X3_fewestMoves_55), (61, bk_X3_fewestMoves_61), (71, bk_X3_fewestMoves_71), (82, bk_X3_fewestMoves_82), (88, bk_X3_fewestMoves_88)]
def cs_X3_fewestMoves : List (Bool × Nat) := [(false, 31), (false, 35), (false, 43)]
theorem ck_X3_fewestMoves : pm_ckB yX3_fewestMoves.cls cX3_fewestMoves 7 cs_X3_fewestMoves bl_X3_fewestMoves = true := by decide +kernel
def bk_X3_restart_0 : pm_B := ([(0, .aload_n 0, 1, 0, 0, []), (1, .getfield 18, 3, 3, 3, []), (4, .iconst 0, 1, 0, 0, []), (5, .invokestatic 51, 3, 0, 0, []), (8, .aload_n 0, 1, 0, 0, []), (9, .iconst 0, 1, 0, 0, []), (10, .putfield 39, 3, 3, 4, []), (13, .aload_n 0, 1, 0, 0, []), (14, .iload_n 3, 1, 0, 0, []), (15, .sipush 4000, 3, 4000, 0, []), (18, .invokestatic 57, 3, 1, 0, []), (21, .putfield 63, 3, 3, 5, []), (24, .aload_n 0, 1, 0, 0, []), (25, .iconst 0, 1, 0, 0, []), (26, .putfield 47, 3, 103, 6, []), (29, .aload_n 0, 1, 0, 0, []), (30, .getfield 27, 3, 3, 0, []), (33, .iload_n 2, 1, 0, 0, []), (34, .putfield 66, 3, 4, 6, []), (37, .aload_n 0, 1, 0, 0, []), (38, .getfield 27, 3, 3, 0, []), (41, .aload_n 1, 1, 0, 0, []), (42, .invokevirtual 69, 3, 2, 0, []), (45, .aload_n 1, 1, 0, 0, []), (46, .invokevirtual 73, 3, 3, 0, []), (49, .invokevirtual 77, 3, 4, 0, []), (52, .aload_n 0, 1, 0, 0, []), (53, .iconst 0, 1, 0, 0, []), (54, .iconst 0, 1, 0, 0, []), (55, .invokevirtual 81, 3, 5, 0, []), (58, .return_, 1, 0, 0, [])], (0, []))
def bl_X3_restart : List (Nat × pm_B) := [(0, bk_X3_restart_0)]
def cs_X3_restart : List (Bool × Nat) := [(true, 51), (true, 57), (false, 69), (false, 73), (false, 77), (false, 81)]
theorem ck_X3_restart : pm_ckB yX3_restart.cls cX3_restart 4 cs_X3_restart bl_X3_restart = true := by decide +kernel
def bk_X3_leadsToEnd_0 : pm_B := ([(0, .aload_n 0, 1, 0, 0, []), (1, .getfield 27, 3, 3, 0, []), (4, .aload_n 0, 1, 0, 0, []), (5, .getfield 11, 3, 3, 1, []), (8, .iload_n 1, 1, 0, 0, []), (9, .laload, 1, 0, 0, []), (10, .aload_n 0, 1, 0, 0, []), (11, .getfield 15, 3, 3, 2, []), (14, .iload_n 1, 1, 0, 0, []), (15, .laload, 1, 0, 0, []), (16, .bipush 18, 2, 18, 0, []), (18, .lushr, 1, 0, 0, []), (19, .l2i, 1, 0, 0, []), (20, .sipush 511, 3, 511, 0, []), (23, .iand, 1, 0, 0, []), (24, .invokevirtual 77, 3, 0, 0, []), (27, .iconst 0, 1, 0, 0, []), (28, .istore_n 2, 1, 0, 0, [])], (29, [0, 1, 2]))
def bk_X3_leadsToEnd_29 : pm_B := ([(29, .iload_n 2, 1, 0, 0, []), (30, .bipush 6, 2, 6, 0, []), (32, .if_icmp .ge 97, 3, 0, 0, [(129, [])]), (35, .aload_n 0, 1, 0, 0, []), (36, .getfield 27, 3, 3, 0, []), (39, .iload_n 2, 1, 0, 0, []), (40, .invokevirtual 85, 3, 1, 0, []), (43, .ifCond .eq 7, 3, 0, 0, [(50, [0, 1, 2])]), (46, .iconst 1, 1, 1, 0, []), (47, .goto 4, 3, 0, 0, [(51, [0, 1, 2])])], (0, []))
def bk_X3_leadsToEnd_50 : pm_B := ([(50, .iconst 0, 1, 0, 0, [])], (51, [0, 1, 2]))
def bk_X3_leadsToEnd_51 : pm_B := ([(51, .istore_n 3, 1, 0, 0, []), (52, .iconst 0, 1, 0, 0, []), (53, .istore 4, 2, 0, 0, [])], (55, [0, 1, 2, 3, 4]))
def bk_X3_leadsToEnd_55 : pm_B := ([(55, .iload_n 3, 1, 0, 0, []), (56, .ifCond .eq 67, 3, 0, 0, [(123, [0, 1, 2])]), (59, .iload 4, 2, 0, 0, []), (61, .bipush 6, 2, 6, 0, []), (63, .if_icmp .ge 60, 3, 0, 0, [(123, [0, 1, 2])]), (66, .aload_n 0, 1, 0, 0, []), (67, .getfield 27, 3, 3, 0, []), (70, .iload_n 2, 1, 0, 0, []), (71, .iload 4, 2, 0, 0, []), (73, .invokevirtual 89, 3, 2, 0, []), (76, .ifCond .eq 20, 3, 0, 0, [(96, [0, 1, 2, 3, 4])]), (79, .aload_n 0, 1, 0, 0, []), (80, .getfield 27, 3, 3, 0, []), (83, .iload_n 2, 1, 0, 0, []), (84, .iload 4, 2, 0, 0, []), (86, .invokevirtual 93, 3, 3, 0, []), (89, .ifCond .ne 7, 3, 0, 0, [(96, [0, 1, 2, 3, 4])]), (92, .iconst 1, 1, 1, 0, []), (93, .goto 4, 3, 0, 0, [(97, [0, 1, 2, 3, 4])])], (0, []))
def bk_X3_leadsToEnd_96 : pm_B := ([(96, .iconst 0, 1, 0, 0, [])], (97, [0, 1, 2, 3, 4]))
def bk_X3_leadsToEnd_97 : pm_B := ([(97, .istore 5, 2, 0, 0, []), (99, .iload 5, 2, 0, 0, []), (101, .ifCond .eq 16, 3, 0, 0, [(117, [0, 1, 2, 3, 4])]), (104, .aload_n 0, 1, 0, 0, []), (105, .iload_n 1, 1, 0, 0, []), (106, .iload_n 2, 1, 0, 0, []), (107, .iload 4, 2, 0, 0, []), (109, .invokevirtual 96, 3, 4, 0, []), (112, .ifCond .eq 5, 3, 0, 0, [(117, [0, 1, 2, 3, 4])]), (115, .iconst 1, 1, 1, 0, []), (116, .ireturn, 1, 0, 0, [])], (0, []))
def bk_X3_leadsToEnd_117 : pm_B := ([(117, .iinc 4 1, 3, 1, 0, []), (120, .goto (-65), 3, 0, 0, [(55, [0, 1, 2, 3, 4])])], (0, []))
def bk_X3_leadsToEnd_123 : pm_B := ([(123, .iinc 2 1, 3, 1, 0, []), (126, .goto (-97), 3, 0, 0, [(29, [0, 1, 2])])], (0, []))
def bk_X3_leadsToEnd_129 : pm_B := ([(129, .iconst 0, 1, 0, 0, []), (130, .ireturn, 1, 0, 0, [])], (0, []))
def bl_X3_leadsToEnd : List (Nat × pm_B) := [(0, bk_X3_leadsToEnd_0), (29, bk_X3_leadsToEnd_29), (50, bk_X3_leadsToEnd_50), (51, bk_X3_leadsToEnd_51), (55, bk_X3_leadsToEnd_55), (96, bk_X3_leadsToEnd_96), (97, bk_X3_leadsToEnd_97), (117, bk_X3_leadsToEnd_117), (123, bk_X3_leadsToEnd_123), (129, bk_X3_leadsToEnd_129)]
def cs_X3_leadsToEnd : List (Bool × Nat) := [(false, 77), (false, 85), (false, 89), (false, 93), (false, 96)]
theorem ck_X3_leadsToEnd : pm_ckB yX3_leadsToEnd.cls cX3_leadsToEnd 6 cs_X3_leadsToEnd bl_X3_leadsToEnd = true := by decide +kernel
def bk_X3_endsBy_0 : pm_B := ([(0, .iload_n 2, 1, 0, 0, []), (1, .iconst 3, 1, 3, 0, []), (2, .ishl, 1, 0, 0, []), (3, .iload_n 3, 1, 0, 0, []), (4, .ior, 1, 0, 0, []), (5, .istore 4, 2, 0, 0, []), (7, .aload_n 0, 1, 0, 0, []), (8, .getfield 27, 3, 3, 0, []), (11, .iload_n 2, 1, 0, 0, []), (12, .iload_n 3, 1, 0, 0, []), (13, .invokevirtual 100, 3, 0, 0, []), (16, .istore 5, 2, 0, 0, []), (18, .aload_n 0, 1, 0, 0, []), (19, .getfield 27, 3, 3, 0, []), (22, .invokevirtual 31, 3, 1, 0, []), (25, .istore 6, 2, 0, 0, []), (27, .iload 6, 2, 0, 0, []), (29, .ifCond .eq 17, 3, 0, 0, [(46, [0, 1, 2, 3, 4, 5, 6])]), (32, .aload_n 0, 1, 0, 0, []), (33, .iload_n 1, 1, 0, 0, []), (34, .putfield 103, 3, 3, 7, []), (37, .aload_n 0, 1, 0, 0, []), (38, .iload 4, 2, 0, 0, []), (40, .putfield 106, 3, 3, 8, []), (43, .goto 17, 3, 0, 0, [(60, [0, 2, 3, 5, 6])])], (0, []))
def bk_X3_endsBy_46 : pm_B := ([(46, .aload_n 0, 1, 0, 0, []), (47, .getfield 47, 3, 3, 6, []), (50, .ifCond .ne 10, 3, 0, 0, [(60, [0, 2, 3, 5, 6])]), (53, .aload_n 0, 1, 0, 0, []), (54, .iload_n 1, 1, 0, 0, []), (55, .iload 4, 2, 0, 0, []), (57, .invokevirtual 81, 3, 2, 0, [])], (60, [0, 2, 3, 5, 6]))
def bk_X3_endsBy_60 : pm_B := ([(60, .aload_n 0, 1, 0, 0, []), (61, .getfield 27, 3, 3, 0, []), (64, .iload 5, 2, 0, 0, []), (66, .iload_n 2, 1, 0, 0, []), (67, .iload_n 3, 1, 0, 0, []), (68, .invokevirtual 109, 3, 3, 0, []), (71, .iload 6, 2, 0, 0, []), (73, .ireturn, 1, 0, 0, [])], (0, []))
def bl_X3_endsBy : List (Nat × pm_B) := [(0, bk_X3_endsBy_0), (46, bk_X3_endsBy_46), (60, bk_X3_endsBy_60)]
def cs_X3_endsBy : List (Bool × Nat) := [(false, 100), (false, 31), (false, 81), (false, 109)]
theorem ck_X3_endsBy : pm_ckB yX3_endsBy.cls cX3_endsBy 7 cs_X3_endsBy bl_X3_endsBy = true := by decide +kernel
def bk_X3_meet_0 : pm_B := ([(0, .aload_n 0, 1, 0, 0, []), (1, .getfield 27, 3, 3, 0, []), (4, .invokevirtual 69, 3, 0, 0, []), (7, .lstore_n 3, 1, 0, 0, []), (8, .lload_n 3, 1, 0, 0, []), (9, .ldc2_w 113, 3, 11400714819323198485, 0, []), (12, .lmul, 1, 0, 0, []), (13, .bipush 54, 2, 54, 0, []), (15, .lushr, 1, 0, 0, []), (16, .l2i, 1, 0, 0, []), (17, .istore 5, 2, 0, 0, []), (19, .aload_n 0, 1, 0, 0, []), (20, .lload_n 3, 1, 0, 0, []), (21, .iload 5, 2, 0, 0, []), (23, .invokevirtual 115, 3, 1, 0, []), (26, .ifCond .eq 4, 3, 0, 0, [(30, [0, 1, 2, 3, 5])]), (29, .return_, 1, 0, 0, [])], (0, []))
def bk_X3_meet_30 : pm_B := ([(30, .aload_n 0, 1, 0, 0, []), (31, .getfield 39, 3, 3, 4, []), (34, .aload_n 0, 1, 0, 0, []), (35, .getfield 63, 3, 3, 5, []), (38, .if_icmp .lt 9, 3, 0, 0, [(47, [0, 1, 2, 3, 5])]), (41, .aload_n 0, 1, 0, 0, []), (42, .iconst 1, 1, 1, 0, []), (43, .putfield 47, 3, 103, 6, []), (46, .return_, 1, 0, 0, [])], (0, []))
def bk_X3_meet_47 : pm_B := ([(47, .aload_n 0, 1, 0, 0, []), (48, .getfield 11, 3, 3, 1, []), (51, .aload_n 0, 1, 0, 0, []), (52, .getfield 39, 3, 3, 4, []), (55, .lload_n 3, 1, 0, 0, []), (56, .lastore, 1, 0, 0, []), (57, .aload_n 0, 1, 0, 0, []), (58, .getfield 15, 3, 3, 2, []), (61, .aload_n 0, 1, 0, 0, []), (62, .getfield 39, 3, 3, 4, []), (65, .aload_n 0, 1, 0, 0, []), (66, .getfield 18, 3, 3, 3, []), (69, .iload 5, 2, 0, 0, []), (71, .saload, 1, 0, 0, []), (72, .i2l, 1, 0, 0, []), (73, .bipush 27, 2, 27, 0, []), (75, .lshl, 1, 0, 0, []), (76, .aload_n 0, 1, 0, 0, []), (77, .getfield 27, 3, 3, 0, []), (80, .invokevirtual 73, 3, 2, 0, []), (83, .i2l, 1, 0, 0, []), (84, .bipush 18, 2, 18, 0, []), (86, .lshl, 1, 0, 0, []), (87, .lor, 1, 0, 0, []), (88, .iload_n 1, 1, 0, 0, []), (89, .bipush 6, 2, 6, 0, []), (91, .ishl, 1, 0, 0, []), (92, .i2l, 1, 0, 0, []), (93, .lor, 1, 0, 0, []), (94, .iload_n 2, 1, 0, 0, []), (95, .i2l, 1, 0, 0, []), (96, .lor, 1, 0, 0, []), (97, .lastore, 1, 0, 0, []), (98, .aload_n 0, 1, 0, 0, []), (99, .dup, 1, 0, 0, []), (100, .getfield 39, 3, 3, 4, []), (103, .iconst 1, 1, 1, 0, []), (104, .iadd, 1, 0, 0, []), (105, .putfield 39, 3, 3, 4, []), (108, .aload_n 0, 1, 0, 0, []), (109, .getfield 18, 3, 3, 3, []), (112, .iload 5, 2, 0, 0, []), (114, .aload_n 0, 1, 0, 0, []), (115, .getfield 39, 3, 3, 4, []), (118, .i2s, 1, 0, 0, []), (119, .sastore, 1, 0, 0, []), (120, .return_, 1, 0, 0, [])], (0, []))
def bl_X3_meet : List (Nat × pm_B) := [(0, bk_X3_meet_0), (30, bk_X3_meet_30), (47, bk_X3_meet_47)]
def cs_X3_meet : List (Bool × Nat) := [(false, 69), (false, 115), (false, 73)]
theorem ck_X3_meet : pm_ckB yX3_meet.cls cX3_meet 6 cs_X3_meet bl_X3_meet = true := by decide +kernel
def bk_X3_isMet_0 : pm_B := ([(0, .aload_n 0, 1, 0, 0, []), (1, .getfield 18, 3, 3, 3, []), (4, .iload_n 3, 1, 0, 0, []), (5, .saload, 1, 0, 0, []), (6, .iconst 1, 1, 1, 0, []), (7, .isub, 1, 0, 0, []), (8, .istore 4, 2, 0, 0, []), (10, .iconst 0, 1, 0, 0, []), (11, .istore 5, 2, 0, 0, [])], (13, [0, 1, 4, 5]))
def bk_X3_isMet_13 : pm_B := ([(13, .iload 5, 2, 0, 0, []), (15, .aload_n 0, 1, 0, 0, []), (16, .getfield 39, 3, 3, 4, []), (19, .if_icmp .ge 47, 3, 0, 0, [(66, [])]), (22, .iload 4, 2, 0, 0, []), (24, .ifCond .lt 42, 3, 0, 0, [(66, [])]), (27, .aload_n 0, 1, 0, 0, []), (28, .getfield 11, 3, 3, 1, []), (31, .iload 4, 2, 0, 0, []), (33, .laload, 1, 0, 0, []), (34, .lload_n 1, 1, 0, 0, []), (35, .lcmp, 1, 0, 0, []), (36, .ifCond .ne 5, 3, 0, 0, [(41, [0, 1, 4, 5])]), (39, .iconst 1, 1, 1, 0, []), (40, .ireturn, 1, 0, 0, [])], (0, []))
def bk_X3_isMet_41 : pm_B := ([(41, .aload_n 0, 1, 0, 0, []), (42, .getfield 15, 3, 3, 2, []), (45, .iload 4, 2, 0, 0, []), (47, .laload, 1, 0, 0, []), (48, .bipush 27, 2, 27, 0, []), (50, .lushr, 1, 0, 0, []), (51, .l2i, 1, 0, 0, []), (52, .sipush 4095, 3, 4095, 0, []), (55, .iand, 1, 0, 0, []), (56, .iconst 1, 1, 1, 0, []), (57, .isub, 1, 0, 0, []), (58, .istore 4, 2, 0, 0, []), (60, .iinc 5 1, 3, 1, 0, []), (63, .goto (-50), 3, 0, 0, [(13, [0, 1, 4, 5])])], (0, []))
def bk_X3_isMet_66 : pm_B := ([(66, .iconst 0, 1, 0, 0, []), (67, .ireturn, 1, 0, 0, [])], (0, []))
def bl_X3_isMet : List (Nat × pm_B) := [(0, bk_X3_isMet_0), (13, bk_X3_isMet_13), (41, bk_X3_isMet_41), (66, bk_X3_isMet_66)]
def cs_X3_isMet : List (Bool × Nat) := []
theorem ck_X3_isMet : pm_ckB yX3_isMet.cls cX3_isMet 6 cs_X3_isMet bl_X3_isMet = true := by decide +kernel
def bk_X3_writePlan_0 : pm_B := ([(0, .aload_n 1, 1, 0, 0, []), (1, .iload_n 2, 1, 0, 0, []), (2, .putfield 119, 3, 2, 1, []), (5, .aload_n 0, 1, 0, 0, []), (6, .getfield 103, 3, 3, 7, []), (9, .istore_n 3, 1, 0, 0, []), (10, .aload_n 0, 1, 0, 0, []), (11, .getfield 106, 3, 3, 8, []), (14, .istore 4, 2, 0, 0, []), (16, .iload_n 2, 1, 0, 0, []), (17, .iconst 1, 1, 1, 0, []), (18, .isub, 1, 0, 0, []), (19, .istore 5, 2, 0, 0, [])], (21, [0, 1, 3, 4, 5]))
def bk_X3_writePlan_21 : pm_B := ([(21, .iload 5, 2, 0, 0, []), (23, .ifCond .lt 44, 3, 0, 0, [(67, [])]), (26, .aload_n 1, 1, 0, 0, []), (27, .iload 5, 2, 0, 0, []), (29, .iload 4, 2, 0, 0, []), (31, .invokevirtual 124, 3, 0, 0, []), (34, .aload_n 0, 1, 0, 0, []), (35, .getfield 15, 3, 3, 2, []), (38, .iload_n 3, 1, 0, 0, []), (39, .laload, 1, 0, 0, []), (40, .l2i, 1, 0, 0, []), (41, .bipush 63, 2, 63, 0, []), (43, .iand, 1, 0, 0, []), (44, .istore 4, 2, 0, 0, []), (46, .aload_n 0, 1, 0, 0, []), (47, .getfield 15, 3, 3, 2, []), (50, .iload_n 3, 1, 0, 0, []), (51, .laload, 1, 0, 0, []), (52, .bipush 6, 2, 6, 0, []), (54, .lushr, 1, 0, 0, []), (55, .l2i, 1, 0, 0, []), (56, .sipush 4095, 3, 4095, 0, []), (59, .iand, 1, 0, 0, []), (60, .istore_n 3, 1, 0, 0, []), (61, .iinc 5 (-1), 3, 1, 1, []), (64, .goto (-43), 3, 0, 0, [(21, [0, 1, 3, 4, 5])])], (0, []))
def bk_X3_writePlan_67 : pm_B := ([(67, .return_, 1, 0, 0, [])], (0, []))
def bl_X3_writePlan : List (Nat × pm_B) := [(0, bk_X3_writePlan_0), (21, bk_X3_writePlan_21), (67, bk_X3_writePlan_67)]
def cs_X3_writePlan : List (Bool × Nat) := [(false, 124)]
theorem ck_X3_writePlan : pm_ckB yX3_writePlan.cls cX3_writePlan 6 cs_X3_writePlan bl_X3_writePlan = true := by decide +kernel
def bk_X4_clear_0 : pm_B := ([(0, .aload_n 0, 1, 0, 0, []), (1, .iload_n 1, 1, 0, 0, []), (2, .putfield 32, 3, 4, 6, []), (5, .aload_n 0, 1, 0, 0, []), (6, .getfield 11, 3, 4, 1, []), (9, .lconst 0, 1, 0, 0, []), (10, .invokestatic 36, 3, 0, 0, []), (13, .aload_n 0, 1, 0, 0, []), (14, .getfield 15, 3, 4, 2, []), (17, .iconst 0, 1, 0, 0, []), (18, .invokestatic 42, 3, 1, 0, []), (21, .aload_n 0, 1, 0, 0, []), (22, .getfield 19, 3, 4, 3, []), (25, .iconst 0, 1, 0, 0, []), (26, .invokestatic 42, 3, 1, 0, []), (29, .aload_n 0, 1, 0, 0, []), (30, .getfield 22, 3, 4, 4, []), (33, .iconst 0, 1, 0, 0, []), (34, .invokestatic 42, 3, 1, 0, []), (37, .return_, 1, 0, 0, [])], (0, []))
def bl_X4_clear : List (Nat × pm_B) := [(0, bk_X4_clear_0)]
def cs_X4_clear : List (Bool × Nat) := [(true, 36), (true, 42)]
theorem ck_X4_clear : pm_ckB yX4_clear.cls cX4_clear 2 cs_X4_clear bl_X4_clear = true := by decide +kernel
def bk_X4_push_0 : pm_B := ([(0, .aload_n 0, 1, 0, 0, []), (1, .getfield 11, 3, 4, 1, []), (4, .iload_n 1, 1, 0, 0, []), (5, .aload_n 0, 1, 0, 0, []), (6, .getfield 11, 3, 4, 1, []), (9, .iload_n 1, 1, 0, 0, []), (10, .laload, 1, 0, 0, []), (11, .iconst 4, 1, 4, 0, []), (12, .lshl, 1, 0, 0, []), (13, .iload_n 2, 1, 0, 0, []), (14, .i2l, 1, 0, 0, []), (15, .lor, 1, 0, 0, []), (16, .lastore, 1, 0, 0, []), (17, .aload_n 0, 1, 0, 0, []), (18, .getfield 15, 3, 4, 2, []), (21, .iload_n 1, 1, 0, 0, []), (22, .dup2, 1, 0, 0, []), (23, .iaload, 1, 0, 0, []), (24, .iconst 1, 1, 1, 0, []), (25, .iadd, 1, 0, 0, []), (26, .iastore, 1, 0, 0, []), (27, .return_, 1, 0, 0, [])], (0, []))
def bl_X4_push : List (Nat × pm_B) := [(0, bk_X4_push_0)]
def cs_X4_push : List (Bool × Nat) := []
theorem ck_X4_push : pm_ckB yX4_push.cls cX4_push 3 cs_X4_push bl_X4_push = true := by decide +kernel
def bk_X4_pop_0 : pm_B := ([(0, .aload_n 0, 1, 0, 0, []), (1, .getfield 11, 3, 4, 1, []), (4, .iload_n 1, 1, 0, 0, []), (5, .dup2, 1, 0, 0, []), (6, .laload, 1, 0, 0, []), (7, .iconst 4, 1, 4, 0, []), (8, .lushr, 1, 0, 0, []), (9, .lastore, 1, 0, 0, []), (10, .aload_n 0, 1, 0, 0, []), (11, .getfield 15, 3, 4, 2, []), (14, .iload_n 1, 1, 0, 0, []), (15, .dup2, 1, 0, 0, []), (16, .iaload, 1, 0, 0, []), (17, .iconst 1, 1, 1, 0, []), (18, .isub, 1, 0, 0, []), (19, .iastore, 1, 0, 0, []), (20, .return_, 1, 0, 0, [])], (0, []))
def bl_X4_pop : List (Nat × pm_B) := [(0, bk_X4_pop_0)]
def cs_X4_pop : List (Bool × Nat) := []
theorem ck_X4_pop : pm_ckB yX4_pop.cls cX4_pop 2 cs_X4_pop bl_X4_pop = true := by decide +kernel
def bk_X4_lastOf_0 : pm_B := ([(0, .aload_n 0, 1, 0, 0, []), (1, .getfield 11, 3, 4, 1, []), (4, .iload_n 1, 1, 0, 0, []), (5, .laload, 1, 0, 0, []), (6, .l2i, 1, 0, 0, []), (7, .bipush 15, 2, 15, 0, []), (9, .iand, 1, 0, 0, []), (10, .ireturn, 1, 0, 0, [])], (0, []))
def bl_X4_lastOf : List (Nat × pm_B) := [(0, bk_X4_lastOf_0)]
def cs_X4_lastOf : List (Bool × Nat) := []
theorem ck_X4_lastOf : pm_ckB yX4_lastOf.cls cX4_lastOf 2 cs_X4_lastOf bl_X4_lastOf = true := by decide +kernel
def bk_X4_insert_0 : pm_B := ([(0, .iconst 4, 1, 4, 0, []), (1, .iload_n 3, 1, 0, 0, []), (2, .aload_n 0, 1, 0, 0, []), (3, .getfield 15, 3, 4, 2, []), (6, .iload_n 1, 1, 0, 0, []), (7, .iaload, 1, 0, 0, []), (8, .invokestatic 45, 3, 0, 0, []), (11, .imul, 1, 0, 0, []), (12, .istore 4, 2, 0, 0, []), (14, .aload_n 0, 1, 0, 0, []), (15, .getfield 11, 3, 4, 1, []), (18, .iload_n 1, 1, 0, 0, []), (19, .laload, 1, 0, 0, []), (20, .lconst 1, 1, 1, 0, []), (21, .iload 4, 2, 0, 0, []), (23, .lshl, 1, 0, 0, []), (24, .lconst 1, 1, 1, 0, []), (25, .lsub, 1, 0, 0, []), (26, .land, 1, 0, 0, []), (27, .lstore 5, 2, 0, 0, []), (29, .aload_n 0, 1, 0, 0, []), (30, .getfield 11, 3, 4, 1, []), (33, .iload_n 1, 1, 0, 0, []), (34, .aload_n 0, 1, 0, 0, []), (35, .getfield 11, 3, 4, 1, []), (38, .iload_n 1, 1, 0, 0, []), (39, .laload, 1, 0, 0, []), (40, .iload 4, 2, 0, 0, []), (42, .lushr, 1, 0, 0, []), (43, .iconst 4, 1, 4, 0, []), (44, .lshl, 1, 0, 0, []), (45, .iload_n 2, 1, 0, 0, []), (46, .i2l, 1, 0, 0, []), (47, .lor, 1, 0, 0, []), (48, .iload 4, 2, 0, 0, []), (50, .lshl, 1, 0, 0, []), (51, .lload 5, 2, 0, 0, []), (53, .lor, 1, 0, 0, []), (54, .lastore, 1, 0, 0, []), (55, .aload_n 0, 1, 0, 0, []), (56, .getfield 15, 3, 4, 2, []), (59, .iload_n 1, 1, 0, 0, []), (60, .dup2, 1, 0, 0, []), (61, .iaload, 1, 0, 0, []), (62, .iconst 1, 1, 1, 0, []), (63, .iadd, 1, 0, 0, []), (64, .iastore, 1, 0, 0, []), (65, .return_, 1, 0, 0, [])], (0, []))
def bl_X4_insert : List (Nat × pm_B) := [(0, bk_X4_insert_0)]
def cs_X4_insert : List (Bool × Nat) := [(true, 45)]
theorem ck_X4_insert : pm_ckB yX4_insert.cls cX4_insert 7 cs_X4_insert bl_X4_insert = true := by decide +kernel
def bk_X4_cardAt_0 : pm_B := ([(0, .iload_n 2, 1, 0, 0, []), (1, .iconst 0, 1, 0, 0, []), (2, .aload_n 0, 1, 0, 0, []), (3, .getfield 15, 3, 4, 2, []), (6, .iload_n 1, 1, 0, 0, []), (7, .iaload, 1, 0, 0, []), (8, .iconst 1, 1, 1, 0, []), (9, .isub, 1, 0, 0, []), (10, .invokestatic 51, 3, 0, 0, []), (13, .ifCond .ne 5, 3, 0, 0, [(18, [0, 1, 2])]), (16, .iconst 0, 1, 0, 0, []), (17, .ireturn, 1, 0, 0, [])], (0, []))
def bk_X4_cardAt_18 : pm_B := ([(18, .aload_n 0, 1, 0, 0, []), (19, .getfield 11, 3, 4, 1, []), (22, .iload_n 1, 1, 0, 0, []), (23, .laload, 1, 0, 0, []), (24, .iconst 4, 1, 4, 0, []), (25, .aload_n 0, 1, 0, 0, []), (26, .getfield 15, 3, 4, 2, []), (29, .iload_n 1, 1, 0, 0, []), (30, .iaload, 1, 0, 0, []), (31, .iconst 1, 1, 1, 0, []), (32, .isub, 1, 0, 0, []), (33, .iload_n 2, 1, 0, 0, []), (34, .isub, 1, 0, 0, []), (35, .imul, 1, 0, 0, []), (36, .lushr, 1, 0, 0, []), (37, .l2i, 1, 0, 0, []), (38, .bipush 15, 2, 15, 0, []), (40, .iand, 1, 0, 0, []), (41, .ireturn, 1, 0, 0, [])], (0, []))
def bl_X4_cardAt : List (Nat × pm_B) := [(0, bk_X4_cardAt_0), (18, bk_X4_cardAt_18)]
def cs_X4_cardAt : List (Bool × Nat) := [(true, 51)]
theorem ck_X4_cardAt : pm_ckB yX4_cardAt.cls cX4_cardAt 3 cs_X4_cardAt bl_X4_cardAt = true := by decide +kernel
def bk_X4_cardsInHouses_0 : pm_B := ([(0, .aload_n 0, 1, 0, 0, []), (1, .getfield 22, 3, 4, 4, []), (4, .iconst 0, 1, 0, 0, []), (5, .iaload, 1, 0, 0, []), (6, .aload_n 0, 1, 0, 0, []), (7, .getfield 22, 3, 4, 4, []), (10, .iconst 1, 1, 1, 0, []), (11, .iaload, 1, 0, 0, []), (12, .iadd, 1, 0, 0, []), (13, .aload_n 0, 1, 0, 0, []), (14, .getfield 22, 3, 4, 4, []), (17, .iconst 2, 1, 2, 0, []), (18, .iaload, 1, 0, 0, []), (19, .iadd, 1, 0, 0, []), (20, .aload_n 0, 1, 0, 0, []), (21, .getfield 22, 3, 4, 4, []), (24, .iconst 3, 1, 3, 0, []), (25, .iaload, 1, 0, 0, []), (26, .iadd, 1, 0, 0, []), (27, .ireturn, 1, 0, 0, [])], (0, []))
def bl_X4_cardsInHouses : List (Nat × pm_B) := [(0, bk_X4_cardsInHouses_0)]
def cs_X4_cardsInHouses : List (Bool × Nat) := []
theorem ck_X4_cardsInHouses : pm_ckB yX4_cardsInHouses.cls cX4_cardsInHouses 1 cs_X4_cardsInHouses bl_X4_cardsInHouses = true := by decide +kernel
def bk_X4_isDone_0 : pm_B := ([(0, .aload_n 0, 1, 0, 0, []), (1, .invokevirtual 55, 3, 0, 0, []), (4, .aload_n 0, 1, 0, 0, []), (5, .getfield 28, 3, 4, 0, []), (8, .invokevirtual 59, 3, 1, 0, []), (11, .if_icmp .ne 7, 3, 0, 0, [(18, [])]), (14, .iconst 1, 1, 1, 0, []), (15, .goto 4, 3, 0, 0, [(19, [])])], (0, []))
def bk_X4_isDone_18 : pm_B := ([(18, .iconst 0, 1, 0, 0, [])], (19, []))
def bk_X4_isDone_19 : pm_B := ([(19, .ireturn, 1, 0, 0, [])], (0, []))
def bl_X4_isDone : List (Nat × pm_B) := [(0, bk_X4_isDone_0), (18, bk_X4_isDone_18), (19, bk_X4_isDone_19)]
def cs_X4_isDone : List (Bool × Nat) := [(false, 55), (false, 59)]
theorem ck_X4_isDone : pm_ckB yX4_isDone.cls cX4_isDone 1 cs_X4_isDone bl_X4_isDone = true := by decide +kernel
def bk_X4_firstFreeCell_0 : pm_B := ([(0, .iconst 0, 1, 0, 0, []), (1, .istore_n 1, 1, 0, 0, [])], (2, [0, 1]))
def bk_X4_firstFreeCell_2 : pm_B := ([(2, .iload_n 1, 1, 0, 0, []), (3, .aload_n 0, 1, 0, 0, []), (4, .getfield 32, 3, 4, 6, []), (7, .if_icmp .ge 25, 3, 0, 0, [(32, [])]), (10, .iload_n 1, 1, 0, 0, []), (11, .iconst 2, 1, 2, 0, []), (12, .if_icmp .ge 20, 3, 0, 0, [(32, [])]), (15, .aload_n 0, 1, 0, 0, []), (16, .getfield 19, 3, 4, 3, []), (19, .iload_n 1, 1, 0, 0, []), (20, .iaload, 1, 0, 0, []), (21, .ifCond .ne 5, 3, 0, 0, [(26, [0, 1])]), (24, .iload_n 1, 1, 0, 0, []), (25, .ireturn, 1, 0, 0, [])], (0, []))
def bk_X4_firstFreeCell_26 : pm_B := ([(26, .iinc 1 1, 3, 1, 0, []), (29, .goto (-27), 3, 0, 0, [(2, [0, 1])])], (0, []))
def bk_X4_firstFreeCell_32 : pm_B := ([(32, .iconst (-1), 1, 1, 1, []), (33, .ireturn, 1, 0, 0, [])], (0, []))
def bl_X4_firstFreeCell : List (Nat × pm_B) := [(0, bk_X4_firstFreeCell_0), (2, bk_X4_firstFreeCell_2), (26, bk_X4_firstFreeCell_26), (32, bk_X4_firstFreeCell_32)]
def cs_X4_firstFreeCell : List (Bool × Nat) := []
theorem ck_X4_firstFreeCell : pm_ckB yX4_firstFreeCell.cls cX4_firstFreeCell 2 cs_X4_firstFreeCell bl_X4_firstFreeCell = true := by decide +kernel
def bk_X4_freeCells_0 : pm_B := ([(0, .iconst 0, 1, 0, 0, []), (1, .istore_n 1, 1, 0, 0, []), (2, .iconst 0, 1, 0, 0, []), (3, .istore_n 2, 1, 0, 0, [])], (4, [0, 1, 2]))
def bk_X4_freeCells_4 : pm_B := ([(4, .iload_n 2, 1, 0, 0, []), (5, .aload_n 0, 1, 0, 0, []), (6, .getfield 32, 3, 4, 6, []), (9, .if_icmp .ge 31, 3, 0, 0, [(40, [1])]), (12, .iload_n 2, 1, 0, 0, []), (13, .iconst 2, 1, 2, 0, []), (14, .if_icmp .ge 26, 3, 0, 0, [(40, [1])]), (17, .iload_n 1, 1, 0, 0, []), (18, .aload_n 0, 1, 0, 0, []), (19, .getfield 19, 3, 4, 3, []), (22, .iload_n 2, 1, 0, 0, []), (23, .iaload, 1, 0, 0, []), (24, .ifCond .ne 7, 3, 0, 0, [(31, [0, 2])]), (27, .iconst 1, 1, 1, 0, []), (28, .goto 4, 3, 0, 0, [(32, [0, 2])])], (0, []))
def bk_X4_freeCells_31 : pm_B := ([(31, .iconst 0, 1, 0, 0, [])], (32, [0, 2]))
def bk_X4_freeCells_32 : pm_B := ([(32, .iadd, 1, 0, 0, []), (33, .istore_n 1, 1, 0, 0, []), (34, .iinc 2 1, 3, 1, 0, []), (37, .goto (-33), 3, 0, 0, [(4, [0, 1, 2])])], (0, []))
def bk_X4_freeCells_40 : pm_B := ([(40, .iload_n 1, 1, 0, 0, []), (41, .ireturn, 1, 0, 0, [])], (0, []))
def bl_X4_freeCells : List (Nat × pm_B) := [(0, bk_X4_freeCells_0), (4, bk_X4_freeCells_4), (31, bk_X4_freeCells_31), (32, bk_X4_freeCells_32), (40, bk_X4_freeCells_40)]
def cs_X4_freeCells : List (Bool × Nat) := []
theorem ck_X4_freeCells : pm_ckB yX4_freeCells.cls cX4_freeCells 3 cs_X4_freeCells bl_X4_freeCells = true := by decide +kernel
def bk_X4_emptyColumns_0 : pm_B := ([(0, .iconst 0, 1, 0, 0, []), (1, .istore_n 1, 1, 0, 0, []), (2, .iconst 0, 1, 0, 0, []), (3, .istore_n 2, 1, 0, 0, [])], (4, [0, 1, 2]))
def bk_X4_emptyColumns_4 : pm_B := ([(4, .iload_n 2, 1, 0, 0, []), (5, .aload_n 0, 1, 0, 0, []), (6, .getfield 28, 3, 4, 0, []), (9, .getfield 64, 3, 0, 5, []), (12, .if_icmp .ge 26, 3, 0, 0, [(38, [1])]), (15, .iload_n 1, 1, 0, 0, []), (16, .aload_n 0, 1, 0, 0, []), (17, .getfield 15, 3, 4, 2, []), (20, .iload_n 2, 1, 0, 0, []), (21, .iaload, 1, 0, 0, []), (22, .ifCond .ne 7, 3, 0, 0, [(29, [0, 2])]), (25, .iconst 1, 1, 1, 0, []), (26, .goto 4, 3, 0, 0, [(30, [0, 2])])], (0, []))
def bk_X4_emptyColumns_29 : pm_B := ([(29, .iconst 0, 1, 0, 0, [])], (30, [0, 2]))
def bk_X4_emptyColumns_30 : pm_B := ([(30, .iadd, 1, 0, 0, []), (31, .istore_n 1, 1, 0, 0, []), (32, .iinc 2 1, 3, 1, 0, []), (35, .goto (-31), 3, 0, 0, [(4, [0, 1, 2])])], (0, []))
def bk_X4_emptyColumns_38 : pm_B := ([(38, .iload_n 1, 1, 0, 0, []), (39, .ireturn, 1, 0, 0, [])], (0, []))
def bl_X4_emptyColumns : List (Nat × pm_B) := [(0, bk_X4_emptyColumns_0), (4, bk_X4_emptyColumns_4), (29, bk_X4_emptyColumns_29), (30, bk_X4_emptyColumns_30), (38, bk_X4_emptyColumns_38)]
def cs_X4_emptyColumns : List (Bool × Nat) := []
theorem ck_X4_emptyColumns : pm_ckB yX4_emptyColumns.cls cX4_emptyColumns 3 cs_X4_emptyColumns bl_X4_emptyColumns = true := by decide +kernel
def bk_X4_buriedCards_0 : pm_B := ([(0, .iconst 0, 1, 0, 0, []), (1, .istore_n 1, 1, 0, 0, []), (2, .iconst 0, 1, 0, 0, []), (3, .istore_n 2, 1, 0, 0, [])], (4, [0, 1, 2]))
def bk_X4_buriedCards_4 : pm_B := ([(4, .iload_n 2, 1, 0, 0, []), (5, .aload_n 0, 1, 0, 0, []), (6, .getfield 28, 3, 4, 0, []), (9, .getfield 64, 3, 0, 5, []), (12, .if_icmp .ge 44, 3, 0, 0, [(56, [1])]), (15, .iconst 1, 1, 1, 0, []), (16, .istore_n 3, 1, 0, 0, [])], (17, [0, 1, 2, 3]))
def bk_X4_buriedCards_17 : pm_B := ([(17, .iload_n 3, 1, 0, 0, []), (18, .aload_n 0, 1, 0, 0, []), (19, .getfield 15, 3, 4, 2, []), (22, .iload_n 2, 1, 0, 0, []), (23, .iaload, 1, 0, 0, []), (24, .if_icmp .ge 26, 3, 0, 0, [(50, [0, 1, 2])]), (27, .iload_n 1, 1, 0, 0, []), (28, .aload_n 0, 1, 0, 0, []), (29, .iload_n 2, 1, 0, 0, []), (30, .iload_n 3, 1, 0, 0, []), (31, .invokevirtual 66, 3, 0, 0, []), (34, .ifCond .eq 7, 3, 0, 0, [(41, [0, 2, 3])]), (37, .iconst 1, 1, 1, 0, []), (38, .goto 4, 3, 0, 0, [(42, [0, 2, 3])])], (0, []))
def bk_X4_buriedCards_41 : pm_B := ([(41, .iconst 0, 1, 0, 0, [])], (42, [0, 2, 3]))
def bk_X4_buriedCards_42 : pm_B := ([(42, .iadd, 1, 0, 0, []), (43, .istore_n 1, 1, 0, 0, []), (44, .iinc 3 1, 3, 1, 0, []), (47, .goto (-30), 3, 0, 0, [(17, [0, 1, 2, 3])])], (0, []))
def bk_X4_buriedCards_50 : pm_B := ([(50, .iinc 2 1, 3, 1, 0, []), (53, .goto (-49), 3, 0, 0, [(4, [0, 1, 2])])], (0, []))
def bk_X4_buriedCards_56 : pm_B := ([(56, .iload_n 1, 1, 0, 0, []), (57, .ireturn, 1, 0, 0, [])], (0, []))
def bl_X4_buriedCards : List (Nat × pm_B) := [(0, bk_X4_buriedCards_0), (4, bk_X4_buriedCards_4), (17, bk_X4_buriedCards_17), (41, bk_X4_buriedCards_41), (42, bk_X4_buriedCards_42), (50, bk_X4_buriedCards_50), (56, bk_X4_buriedCards_56)]
def cs_X4_buriedCards : List (Bool × Nat) := [(false, 66)]
theorem ck_X4_buriedCards : pm_ckB yX4_buriedCards.cls cX4_buriedCards 4 cs_X4_buriedCards bl_X4_buriedCards = true := by decide +kernel
def bk_X4_isBuried_0 : pm_B := ([(0, .aload_n 0, 1, 0, 0, []), (1, .iload_n 1, 1, 0, 0, []), (2, .iload_n 2, 1, 0, 0, []), (3, .invokevirtual 70, 3, 0, 0, []), (6, .istore_n 3, 1, 0, 0, []), (7, .iconst 0, 1, 0, 0, []), (8, .istore 4, 2, 0, 0, [])], (10, [0, 1, 2, 3, 4]))
def bk_X4_isBuried_10 : pm_B := ([(10, .iload 4, 2, 0, 0, []), (12, .iload_n 2, 1, 0, 0, []), (13, .if_icmp .ge 64, 3, 0, 0, [(77, [])]), (16, .aload_n 0, 1, 0, 0, []), (17, .iload_n 1, 1, 0, 0, []), (18, .iload 4, 2, 0, 0, []), (20, .invokevirtual 70, 3, 0, 0, []), (23, .istore 5, 2, 0, 0, []), (25, .aload_n 0, 1, 0, 0, []), (26, .getfield 28, 3, 4, 0, []), (29, .getfield 73, 3, 0, 0, []), (32, .iload 5, 2, 0, 0, []), (34, .iaload, 1, 0, 0, []), (35, .aload_n 0, 1, 0, 0, []), (36, .getfield 28, 3, 4, 0, []), (39, .getfield 73, 3, 0, 0, []), (42, .iload_n 3, 1, 0, 0, []), (43, .iaload, 1, 0, 0, []), (44, .if_icmp .ne 27, 3, 0, 0, [(71, [0, 1, 2, 3, 4])]), (47, .aload_n 0, 1, 0, 0, []), (48, .getfield 28, 3, 4, 0, []), (51, .getfield 76, 3, 0, 1, []), (54, .iload 5, 2, 0, 0, []), (56, .iaload, 1, 0, 0, []), (57, .aload_n 0, 1, 0, 0, []), (58, .getfield 28, 3, 4, 0, []), (61, .getfield 76, 3, 0, 1, []), (64, .iload_n 3, 1, 0, 0, []), (65, .iaload, 1, 0, 0, []), (66, .if_icmp .ge 5, 3, 0, 0, [(71, [0, 1, 2, 3, 4])]), (69, .iconst 1, 1, 1, 0, []), (70, .ireturn, 1, 0, 0, [])], (0, []))
def bk_X4_isBuried_71 : pm_B := ([(71, .iinc 4 1, 3, 1, 0, []), (74, .goto (-64), 3, 0, 0, [(10, [0, 1, 2, 3, 4])])], (0, []))
def bk_X4_isBuried_77 : pm_B := ([(77, .iconst 0, 1, 0, 0, []), (78, .ireturn, 1, 0, 0, [])], (0, []))
def bl_X4_isBuried : List (Nat × pm_B) := [(0, bk_X4_isBuried_0), (10, bk_X4_isBuried_10), (71, bk_X4_isBuried_71), (77, bk_X4_isBuried_77)]
def cs_X4_isBuried : List (Bool × Nat) := [(false, 70)]
theorem ck_X4_isBuried : pm_ckB yX4_isBuried.cls cX4_isBuried 6 cs_X4_isBuried bl_X4_isBuried = true := by decide +kernel
def bk_X4_isNamed_0 : pm_B := ([(0, .iload_n 1, 1, 0, 0, []), (1, .iconst 0, 1, 0, 0, []), (2, .aload_n 0, 1, 0, 0, []), (3, .getfield 28, 3, 4, 0, []), (6, .getfield 64, 3, 0, 5, []), (9, .iconst 1, 1, 1, 0, []), (10, .isub, 1, 0, 0, []), (11, .invokestatic 51, 3, 0, 0, []), (14, .istore_n 3, 1, 0, 0, []), (15, .iload_n 1, 1, 0, 0, []), (16, .iconst 4, 1, 4, 0, []), (17, .iconst 4, 1, 4, 0, []), (18, .aload_n 0, 1, 0, 0, []), (19, .getfield 32, 3, 4, 6, []), (22, .iadd, 1, 0, 0, []), (23, .iconst 1, 1, 1, 0, []), (24, .isub, 1, 0, 0, []), (25, .invokestatic 51, 3, 0, 0, []), (28, .istore 4, 2, 0, 0, []), (30, .iload_n 2, 1, 0, 0, []), (31, .iconst 4, 1, 4, 0, []), (32, .if_icmp .ne 5, 3, 0, 0, [(37, [0, 1, 2, 3, 4])]), (35, .iload_n 3, 1, 0, 0, []), (36, .ireturn, 1, 0, 0, [])], (0, []))
def bk_X4_isNamed_37 : pm_B := ([(37, .iload_n 2, 1, 0, 0, []), (38, .iconst 0, 1, 0, 0, []), (39, .aload_n 0, 1, 0, 0, []), (40, .getfield 28, 3, 4, 0, []), (43, .getfield 64, 3, 0, 5, []), (46, .iconst 1, 1, 1, 0, []), (47, .isub, 1, 0, 0, []), (48, .invokestatic 51, 3, 0, 0, []), (51, .ifCond .eq 12, 3, 0, 0, [(63, [2, 3, 4])]), (54, .iload_n 2, 1, 0, 0, []), (55, .iload_n 1, 1, 0, 0, []), (56, .if_icmp .eq 7, 3, 0, 0, [(63, [2, 3, 4])]), (59, .iconst 1, 1, 1, 0, []), (60, .goto 4, 3, 0, 0, [(64, [2, 3, 4])])], (0, []))
def bk_X4_isNamed_63 : pm_B := ([(63, .iconst 0, 1, 0, 0, [])], (64, [2, 3, 4]))
def bk_X4_isNamed_64 : pm_B := ([(64, .istore 5, 2, 0, 0, []), (66, .iload_n 3, 1, 0, 0, []), (67, .ifCond .ne 8, 3, 0, 0, [(75, [2, 5])]), (70, .iload 4, 2, 0, 0, []), (72, .ifCond .eq 17, 3, 0, 0, [(89, [])])], (75, [2, 5]))
def bk_X4_isNamed_75 : pm_B := ([(75, .iload 5, 2, 0, 0, []), (77, .ifCond .ne 8, 3, 0, 0, [(85, [])]), (80, .iload_n 2, 1, 0, 0, []), (81, .iconst 5, 1, 5, 0, []), (82, .if_icmp .ne 7, 3, 0, 0, [(89, [])])], (85, []))
def bk_X4_isNamed_85 : pm_B := ([(85, .iconst 1, 1, 1, 0, []), (86, .goto 4, 3, 0, 0, [(90, [])])], (0, []))
def bk_X4_isNamed_89 : pm_B := ([(89, .iconst 0, 1, 0, 0, [])], (90, []))
def bk_X4_isNamed_90 : pm_B := ([(90, .ireturn, 1, 0, 0, [])], (0, []))
def bl_X4_isNamed : List (Nat × pm_B) := [(0, bk_X4_isNamed_0), (37, bk_X4_isNamed_37), (63, bk_X4_isNamed_63), (64, bk_X4_isNamed_64), (75, bk_X4_isNamed_75), (85, bk_X4_isNamed_85), (89, bk_X4_isNamed_89), (90, bk_X4_isNamed_90)]
def cs_X4_isNamed : List (Bool × Nat) := [(true, 51)]
theorem ck_X4_isNamed : pm_ckB yX4_isNamed.cls cX4_isNamed 6 cs_X4_isNamed bl_X4_isNamed = true := by decide +kernel
def bk_X4_cardFrom_0 : pm_B := ([(0, .iload_n 1, 1, 0, 0, []), (1, .iconst 4, 1, 4, 0, []), (2, .if_icmp .ge 11, 3, 0, 0, [(13, [0, 1])]), (5, .aload_n 0, 1, 0, 0, []), (6, .iload_n 1, 1, 0, 0, []), (7, .invokevirtual 79, 3, 0, 0, []), (10, .goto 11, 3, 0, 0, [(21, [])])], (0, []))
def bk_X4_cardFrom_13 : pm_B := ([(13, .aload_n 0, 1, 0, 0, []), (14, .getfield 19, 3, 4, 3, []), (17, .iload_n 1, 1, 0, 0, []), (18, .iconst 4, 1, 4, 0, []), (19, .isub, 1, 0, 0, []), (20, .iaload, 1, 0, 0, [])], (21, []))
def bk_X4_cardFrom_21 : pm_B := ([(21, .ireturn, 1, 0, 0, [])], (0, []))
def bl_X4_cardFrom : List (Nat × pm_B) := [(0, bk_X4_cardFrom_0), (13, bk_X4_cardFrom_13), (21, bk_X4_cardFrom_21)]
def cs_X4_cardFrom : List (Bool × Nat) := [(false, 79)]
theorem ck_X4_cardFrom : pm_ckB yX4_cardFrom.cls cX4_cardFrom 2 cs_X4_cardFrom bl_X4_cardFrom = true := by decide +kernel
def bk_X4_whyNot_0 : pm_B := ([(0, .aload_n 0, 1, 0, 0, []), (1, .iload_n 1, 1, 0, 0, []), (2, .invokevirtual 83, 3, 0, 0, []), (5, .istore_n 3, 1, 0, 0, []), (6, .iload_n 3, 1, 0, 0, []), (7, .ifCond .ne 5, 3, 0, 0, [(12, [0, 2, 3])]), (10, .iconst 1, 1, 1, 0, []), (11, .ireturn, 1, 0, 0, [])], (0, []))
def bk_X4_whyNot_12 : pm_B := ([(12, .iload_n 2, 1, 0, 0, []), (13, .iconst 4, 1, 4, 0, []), (14, .if_icmp .ne 17, 3, 0, 0, [(31, [0, 2, 3])]), (17, .aload_n 0, 1, 0, 0, []), (18, .invokevirtual 86, 3, 1, 0, []), (21, .iconst (-1), 1, 1, 1, []), (22, .if_icmp .ne 7, 3, 0, 0, [(29, [])]), (25, .iconst 2, 1, 2, 0, []), (26, .goto 4, 3, 0, 0, [(30, [])])], (0, []))
def bk_X4_whyNot_29 : pm_B := ([(29, .iconst 0, 1, 0, 0, [])], (30, []))
def bk_X4_whyNot_30 : pm_B := ([(30, .ireturn, 1, 0, 0, [])], (0, []))
def bk_X4_whyNot_31 : pm_B := ([(31, .iload_n 2, 1, 0, 0, []), (32, .iconst 5, 1, 5, 0, []), (33, .if_icmp .ne 17, 3, 0, 0, [(50, [0, 2, 3])]), (36, .aload_n 0, 1, 0, 0, []), (37, .iload_n 3, 1, 0, 0, []), (38, .invokevirtual 89, 3, 2, 0, []), (41, .ifCond .eq 7, 3, 0, 0, [(48, [])]), (44, .iconst 0, 1, 0, 0, []), (45, .goto 4, 3, 0, 0, [(49, [])])], (0, []))
def bk_X4_whyNot_48 : pm_B := ([(48, .iconst 3, 1, 3, 0, [])], (49, []))
def bk_X4_whyNot_49 : pm_B := ([(49, .ireturn, 1, 0, 0, [])], (0, []))
def bk_X4_whyNot_50 : pm_B := ([(50, .aload_n 0, 1, 0, 0, []), (51, .getfield 28, 3, 4, 0, []), (54, .iload_n 3, 1, 0, 0, []), (55, .aload_n 0, 1, 0, 0, []), (56, .iload_n 2, 1, 0, 0, []), (57, .invokevirtual 79, 3, 3, 0, []), (60, .invokevirtual 93, 3, 4, 0, []), (63, .ifCond .eq 5, 3, 0, 0, [(68, [0, 2])]), (66, .iconst 0, 1, 0, 0, []), (67, .ireturn, 1, 0, 0, [])], (0, []))
def bk_X4_whyNot_68 : pm_B := ([(68, .aload_n 0, 1, 0, 0, []), (69, .getfield 15, 3, 4, 2, []), (72, .iload_n 2, 1, 0, 0, []), (73, .iaload, 1, 0, 0, []), (74, .ifCond .ne 7, 3, 0, 0, [(81, [])]), (77, .iconst 5, 1, 5, 0, []), (78, .goto 4, 3, 0, 0, [(82, [])])], (0, []))
def bk_X4_whyNot_81 : pm_B := ([(81, .iconst 4, 1, 4, 0, [])], (82, []))
def bk_X4_whyNot_82 : pm_B := ([(82, .ireturn, 1, 0, 0, [])], (0, []))
def bl_X4_whyNot : List (Nat × pm_B) := [(0, bk_X4_whyNot_0), (12, bk_X4_whyNot_12), (29, bk_X4_whyNot_29), (30, bk_X4_whyNot_30), (31, bk_X4_whyNot_31), (48, bk_X4_whyNot_48), (49, bk_X4_whyNot_49), (50, bk_X4_whyNot_50), (68, bk_X4_whyNot_68), (81, bk_X4_whyNot_81), (82, bk_X4_whyNot_82)]
def cs_X4_whyNot : List (Bool × Nat) := [(false, 83), (false, 86), (false, 89), (false, 79), (false, 93)]
theorem ck_X4_whyNot : pm_ckB yX4_whyNot.cls cX4_whyNot 4 cs_X4_whyNot bl_X4_whyNot = true := by decide +kernel
def bk_X4_isNextInHouse_0 : pm_B := ([(0, .aload_n 0, 1, 0, 0, []), (1, .getfield 22, 3, 4, 4, []), (4, .aload_n 0, 1, 0, 0, []), (5, .getfield 28, 3, 4, 0, []), (8, .getfield 73, 3, 0, 0, []), (11, .iload_n 1, 1, 0, 0, []), (12, .iaload, 1, 0, 0, []), (13, .iaload, 1, 0, 0, []), (14, .aload_n 0, 1, 0, 0, []), (15, .getfield 28, 3, 4, 0, []), (18, .getfield 76, 3, 0, 1, []), (21, .iload_n 1, 1, 0, 0, []), (22, .iaload, 1, 0, 0, []), (23, .iconst 1, 1, 1, 0, []), (24, .isub, 1, 0, 0, []), (25, .if_icmp .ne 7, 3, 0, 0, [(32, [])]), (28, .iconst 1, 1, 1, 0, []), (29, .goto 4, 3, 0, 0, [(33, [])])], (0, []))
def bk_X4_isNextInHouse_32 : pm_B := ([(32, .iconst 0, 1, 0, 0, [])], (33, []))
def bk_X4_isNextInHouse_33 : pm_B := ([(33, .ireturn, 1, 0, 0, [])], (0, []))
def bl_X4_isNextInHouse : List (Nat × pm_B) := [(0, bk_X4_isNextInHouse_0), (32, bk_X4_isNextInHouse_32), (33, bk_X4_isNextInHouse_33)]
def cs_X4_isNextInHouse : List (Bool × Nat) := []
theorem ck_X4_isNextInHouse : pm_ckB yX4_isNextInHouse.cls cX4_isNextInHouse 2 cs_X4_isNextInHouse bl_X4_isNextInHouse = true := by decide +kernel
def bk_X4_possibleMoves_0 : pm_B := ([(0, .iconst 0, 1, 0, 0, []), (1, .istore_n 1, 1, 0, 0, []), (2, .iconst 0, 1, 0, 0, []), (3, .istore_n 2, 1, 0, 0, [])], (4, [0, 1, 2]))
def bk_X4_possibleMoves_4 : pm_B := ([(4, .iload_n 2, 1, 0, 0, []), (5, .bipush 6, 2, 6, 0, []), (7, .if_icmp .ge 49, 3, 0, 0, [(56, [1])]), (10, .iconst 0, 1, 0, 0, []), (11, .istore_n 3, 1, 0, 0, [])], (12, [0, 1, 2, 3]))
def bk_X4_possibleMoves_12 : pm_B := ([(12, .iload_n 3, 1, 0, 0, []), (13, .bipush 6, 2, 6, 0, []), (15, .if_icmp .ge 35, 3, 0, 0, [(50, [0, 1, 2])]), (18, .iload_n 1, 1, 0, 0, []), (19, .aload_n 0, 1, 0, 0, []), (20, .iload_n 2, 1, 0, 0, []), (21, .iload_n 3, 1, 0, 0, []), (22, .invokevirtual 96, 3, 0, 0, []), (25, .ifCond .eq 16, 3, 0, 0, [(41, [0, 2, 3])]), (28, .aload_n 0, 1, 0, 0, []), (29, .iload_n 2, 1, 0, 0, []), (30, .iload_n 3, 1, 0, 0, []), (31, .invokevirtual 99, 3, 1, 0, []), (34, .ifCond .ne 7, 3, 0, 0, [(41, [0, 2, 3])]), (37, .iconst 1, 1, 1, 0, []), (38, .goto 4, 3, 0, 0, [(42, [0, 2, 3])])], (0, []))
def bk_X4_possibleMoves_41 : pm_B := ([(41, .iconst 0, 1, 0, 0, [])], (42, [0, 2, 3]))
def bk_X4_possibleMoves_42 : pm_B := ([(42, .iadd, 1, 0, 0, []), (43, .istore_n 1, 1, 0, 0, []), (44, .iinc 3 1, 3, 1, 0, []), (47, .goto (-35), 3, 0, 0, [(12, [0, 1, 2, 3])])], (0, []))
def bk_X4_possibleMoves_50 : pm_B := ([(50, .iinc 2 1, 3, 1, 0, []), (53, .goto (-49), 3, 0, 0, [(4, [0, 1, 2])])], (0, []))
def bk_X4_possibleMoves_56 : pm_B := ([(56, .iload_n 1, 1, 0, 0, []), (57, .ireturn, 1, 0, 0, [])], (0, []))
def bl_X4_possibleMoves : List (Nat × pm_B) := [(0, bk_X4_possibleMoves_0), (4, bk_X4_possibleMoves_4), (12, bk_X4_possibleMoves_12), (41, bk_X4_possibleMoves_41), (42, bk_X4_possibleMoves_42), (50, bk_X4_possibleMoves_50), (56, bk_X4_possibleMoves_56)]
def cs_X4_possibleMoves : List (Bool × Nat) := [(false, 96), (false, 99)]
theorem ck_X4_possibleMoves : pm_ckB yX4_possibleMoves.cls cX4_possibleMoves 4 cs_X4_possibleMoves bl_X4_possibleMoves = true := by decide +kernel
def bk_X4_shift_0 : pm_B := ([(0, .aload_n 0, 1, 0, 0, []), (1, .iload_n 1, 1, 0, 0, []), (2, .invokevirtual 83, 3, 0, 0, []), (5, .istore_n 3, 1, 0, 0, []), (6, .iload_n 1, 1, 0, 0, []), (7, .iconst 4, 1, 4, 0, []), (8, .if_icmp .ge 11, 3, 0, 0, [(19, [0, 1, 2, 3])]), (11, .aload_n 0, 1, 0, 0, []), (12, .iload_n 1, 1, 0, 0, []), (13, .invokevirtual 102, 3, 1, 0, []), (16, .goto 12, 3, 0, 0, [(28, [0, 2, 3])])], (0, []))
def bk_X4_shift_19 : pm_B := ([(19, .aload_n 0, 1, 0, 0, []), (20, .getfield 19, 3, 4, 3, []), (23, .iload_n 1, 1, 0, 0, []), (24, .iconst 4, 1, 4, 0, []), (25, .isub, 1, 0, 0, []), (26, .iconst 0, 1, 0, 0, []), (27, .iastore, 1, 0, 0, [])], (28, [0, 2, 3]))
def bk_X4_shift_28 : pm_B := ([(28, .iload_n 2, 1, 0, 0, []), (29, .iconst 5, 1, 5, 0, []), (30, .if_icmp .ne 24, 3, 0, 0, [(54, [0, 2, 3])]), (33, .aload_n 0, 1, 0, 0, []), (34, .getfield 22, 3, 4, 4, []), (37, .aload_n 0, 1, 0, 0, []), (38, .getfield 28, 3, 4, 0, []), (41, .getfield 73, 3, 0, 0, []), (44, .iload_n 3, 1, 0, 0, []), (45, .iaload, 1, 0, 0, []), (46, .dup2, 1, 0, 0, []), (47, .iaload, 1, 0, 0, []), (48, .iconst 1, 1, 1, 0, []), (49, .iadd, 1, 0, 0, []), (50, .iastore, 1, 0, 0, []), (51, .goto 22, 3, 0, 0, [(73, [3])])], (0, []))
def bk_X4_shift_54 : pm_B := ([(54, .iload_n 2, 1, 0, 0, []), (55, .iconst 4, 1, 4, 0, []), (56, .if_icmp .ne 11, 3, 0, 0, [(67, [0, 2, 3])]), (59, .aload_n 0, 1, 0, 0, []), (60, .iload_n 3, 1, 0, 0, []), (61, .invokevirtual 106, 3, 2, 0, []), (64, .goto 9, 3, 0, 0, [(73, [3])])], (0, []))
def bk_X4_shift_67 : pm_B := ([(67, .aload_n 0, 1, 0, 0, []), (68, .iload_n 2, 1, 0, 0, []), (69, .iload_n 3, 1, 0, 0, []), (70, .invokevirtual 109, 3, 3, 0, [])], (73, [3]))
def bk_X4_shift_73 : pm_B := ([(73, .iload_n 3, 1, 0, 0, []), (74, .ireturn, 1, 0, 0, [])], (0, []))
def bl_X4_shift : List (Nat × pm_B) := [(0, bk_X4_shift_0), (19, bk_X4_shift_19), (28, bk_X4_shift_28), (54, bk_X4_shift_54), (67, bk_X4_shift_67), (73, bk_X4_shift_73)]
def cs_X4_shift : List (Bool × Nat) := [(false, 83), (false, 102), (false, 106), (false, 109)]
theorem ck_X4_shift : pm_ckB yX4_shift.cls cX4_shift 4 cs_X4_shift bl_X4_shift = true := by decide +kernel
def bk_X4_shiftBack_0 : pm_B := ([(0, .iload_n 3, 1, 0, 0, []), (1, .iconst 5, 1, 5, 0, []), (2, .if_icmp .ne 24, 3, 0, 0, [(26, [0, 1, 2, 3])]), (5, .aload_n 0, 1, 0, 0, []), (6, .getfield 22, 3, 4, 4, []), (9, .aload_n 0, 1, 0, 0, []), (10, .getfield 28, 3, 4, 0, []), (13, .getfield 73, 3, 0, 0, []), (16, .iload_n 1, 1, 0, 0, []), (17, .iaload, 1, 0, 0, []), (18, .dup2, 1, 0, 0, []), (19, .iaload, 1, 0, 0, []), (20, .iconst 1, 1, 1, 0, []), (21, .isub, 1, 0, 0, []), (22, .iastore, 1, 0, 0, []), (23, .goto 21, 3, 0, 0, [(44, [0, 1, 2])])], (0, []))
def bk_X4_shiftBack_26 : pm_B := ([(26, .iload_n 3, 1, 0, 0, []), (27, .iconst 4, 1, 4, 0, []), (28, .if_icmp .ne 11, 3, 0, 0, [(39, [0, 1, 2, 3])]), (31, .aload_n 0, 1, 0, 0, []), (32, .iload_n 1, 1, 0, 0, []), (33, .invokevirtual 113, 3, 0, 0, []), (36, .goto 8, 3, 0, 0, [(44, [0, 1, 2])])], (0, []))
def bk_X4_shiftBack_39 : pm_B := ([(39, .aload_n 0, 1, 0, 0, []), (40, .iload_n 3, 1, 0, 0, []), (41, .invokevirtual 102, 3, 1, 0, [])], (44, [0, 1, 2]))
def bk_X4_shiftBack_44 : pm_B := ([(44, .iload_n 2, 1, 0, 0, []), (45, .iconst 4, 1, 4, 0, []), (46, .if_icmp .ge 12, 3, 0, 0, [(58, [0, 1, 2])]), (49, .aload_n 0, 1, 0, 0, []), (50, .iload_n 2, 1, 0, 0, []), (51, .iload_n 1, 1, 0, 0, []), (52, .invokevirtual 109, 3, 2, 0, []), (55, .goto 12, 3, 0, 0, [(67, [])])], (0, []))
def bk_X4_shiftBack_58 : pm_B := ([(58, .aload_n 0, 1, 0, 0, []), (59, .getfield 19, 3, 4, 3, []), (62, .iload_n 2, 1, 0, 0, []), (63, .iconst 4, 1, 4, 0, []), (64, .isub, 1, 0, 0, []), (65, .iload_n 1, 1, 0, 0, []), (66, .iastore, 1, 0, 0, [])], (67, []))
def bk_X4_shiftBack_67 : pm_B := ([(67, .return_, 1, 0, 0, [])], (0, []))
def bl_X4_shiftBack : List (Nat × pm_B) := [(0, bk_X4_shiftBack_0), (26, bk_X4_shiftBack_26), (39, bk_X4_shiftBack_39), (44, bk_X4_shiftBack_44), (58, bk_X4_shiftBack_58), (67, bk_X4_shiftBack_67)]
def cs_X4_shiftBack : List (Bool × Nat) := [(false, 113), (false, 102), (false, 109)]
theorem ck_X4_shiftBack : pm_ckB yX4_shiftBack.cls cX4_shiftBack 4 cs_X4_shiftBack bl_X4_shiftBack = true := by decide +kernel
def bk_X4_fillFreeCell_0 : pm_B := ([(0, .aload_n 0, 1, 0, 0, []), (1, .invokevirtual 86, 3, 0, 0, []), (4, .istore_n 2, 1, 0, 0, []), (5, .iload_n 2, 1, 0, 0, []), (6, .iconst (-1), 1, 1, 1, []), (7, .if_icmp .eq 10, 3, 0, 0, [(17, [])]), (10, .aload_n 0, 1, 0, 0, []), (11, .getfield 19, 3, 4, 3, []), (14, .iload_n 2, 1, 0, 0, []), (15, .iload_n 1, 1, 0, 0, []), (16, .iastore, 1, 0, 0, [])], (17, []))
def bk_X4_fillFreeCell_17 : pm_B := ([(17, .return_, 1, 0, 0, [])], (0, []))
def bl_X4_fillFreeCell : List (Nat × pm_B) := [(0, bk_X4_fillFreeCell_0), (17, bk_X4_fillFreeCell_17)]
def cs_X4_fillFreeCell : List (Bool × Nat) := [(false, 86)]
theorem ck_X4_fillFreeCell : pm_ckB yX4_fillFreeCell.cls cX4_fillFreeCell 3 cs_X4_fillFreeCell bl_X4_fillFreeCell = true := by decide +kernel
def bk_X4_emptyCellOf_0 : pm_B := ([(0, .iconst 0, 1, 0, 0, []), (1, .istore_n 2, 1, 0, 0, [])], (2, [0, 1, 2]))
def bk_X4_emptyCellOf_2 : pm_B := ([(2, .iload_n 2, 1, 0, 0, []), (3, .iconst 2, 1, 2, 0, []), (4, .if_icmp .ge 26, 3, 0, 0, [(30, [])]), (7, .aload_n 0, 1, 0, 0, []), (8, .getfield 19, 3, 4, 3, []), (11, .iload_n 2, 1, 0, 0, []), (12, .iaload, 1, 0, 0, []), (13, .iload_n 1, 1, 0, 0, []), (14, .if_icmp .ne 10, 3, 0, 0, [(24, [0, 1, 2])]), (17, .aload_n 0, 1, 0, 0, []), (18, .getfield 19, 3, 4, 3, []), (21, .iload_n 2, 1, 0, 0, []), (22, .iconst 0, 1, 0, 0, []), (23, .iastore, 1, 0, 0, [])], (24, [0, 1, 2]))
def bk_X4_emptyCellOf_24 : pm_B := ([(24, .iinc 2 1, 3, 1, 0, []), (27, .goto (-25), 3, 0, 0, [(2, [0, 1, 2])])], (0, []))
def bk_X4_emptyCellOf_30 : pm_B := ([(30, .return_, 1, 0, 0, [])], (0, []))
def bl_X4_emptyCellOf : List (Nat × pm_B) := [(0, bk_X4_emptyCellOf_0), (2, bk_X4_emptyCellOf_2), (24, bk_X4_emptyCellOf_24), (30, bk_X4_emptyCellOf_30)]
def cs_X4_emptyCellOf : List (Bool × Nat) := []
theorem ck_X4_emptyCellOf : pm_ckB yX4_emptyCellOf.cls cX4_emptyCellOf 3 cs_X4_emptyCellOf bl_X4_emptyCellOf = true := by decide +kernel
def bk_X4_canShiftRow_0 : pm_B := ([(0, .aload_n 0, 1, 0, 0, []), (1, .getfield 15, 3, 4, 2, []), (4, .iload_n 1, 1, 0, 0, []), (5, .iaload, 1, 0, 0, []), (6, .iload_n 3, 1, 0, 0, []), (7, .isub, 1, 0, 0, []), (8, .istore 4, 2, 0, 0, []), (10, .iload 4, 2, 0, 0, []), (12, .ifCond .lt 13, 3, 0, 0, [(25, [])]), (15, .iload_n 3, 1, 0, 0, []), (16, .aload_n 0, 1, 0, 0, []), (17, .iload_n 1, 1, 0, 0, []), (18, .iload_n 2, 1, 0, 0, []), (19, .invokevirtual 116, 3, 0, 0, []), (22, .if_icmp .le 5, 3, 0, 0, [(27, [0, 1, 2, 4])])], (25, []))
def bk_X4_canShiftRow_25 : pm_B := ([(25, .iconst 0, 1, 0, 0, []), (26, .ireturn, 1, 0, 0, [])], (0, []))
def bk_X4_canShiftRow_27 : pm_B := ([(27, .iload 4, 2, 0, 0, []), (29, .iconst 1, 1, 1, 0, []), (30, .iadd, 1, 0, 0, []), (31, .istore 5, 2, 0, 0, [])], (33, [0, 1, 2, 4, 5]))
def bk_X4_canShiftRow_33 : pm_B := ([(33, .iload 5, 2, 0, 0, []), (35, .aload_n 0, 1, 0, 0, []), (36, .getfield 15, 3, 4, 2, []), (39, .iload_n 1, 1, 0, 0, []), (40, .iaload, 1, 0, 0, []), (41, .if_icmp .ge 37, 3, 0, 0, [(78, [0, 1, 2, 4])]), (44, .aload_n 0, 1, 0, 0, []), (45, .getfield 28, 3, 4, 0, []), (48, .aload_n 0, 1, 0, 0, []), (49, .iload_n 1, 1, 0, 0, []), (50, .iload 5, 2, 0, 0, []), (52, .invokevirtual 70, 3, 1, 0, []), (55, .aload_n 0, 1, 0, 0, []), (56, .iload_n 1, 1, 0, 0, []), (57, .iload 5, 2, 0, 0, []), (59, .iconst 1, 1, 1, 0, []), (60, .isub, 1, 0, 0, []), (61, .invokevirtual 70, 3, 1, 0, []), (64, .invokevirtual 93, 3, 2, 0, []), (67, .ifCond .ne 5, 3, 0, 0, [(72, [0, 1, 2, 4, 5])]), (70, .iconst 0, 1, 0, 0, []), (71, .ireturn, 1, 0, 0, [])], (0, []))
def bk_X4_canShiftRow_72 : pm_B := ([(72, .iinc 5 1, 3, 1, 0, []), (75, .goto (-42), 3, 0, 0, [(33, [0, 1, 2, 4, 5])])], (0, []))
def bk_X4_canShiftRow_78 : pm_B := ([(78, .aload_n 0, 1, 0, 0, []), (79, .getfield 28, 3, 4, 0, []), (82, .aload_n 0, 1, 0, 0, []), (83, .iload_n 1, 1, 0, 0, []), (84, .iload 4, 2, 0, 0, []), (86, .invokevirtual 70, 3, 1, 0, []), (89, .aload_n 0, 1, 0, 0, []), (90, .iload_n 2, 1, 0, 0, []), (91, .invokevirtual 79, 3, 3, 0, []), (94, .invokevirtual 93, 3, 2, 0, []), (97, .ireturn, 1, 0, 0, [])], (0, []))
def bl_X4_canShiftRow : List (Nat × pm_B) := [(0, bk_X4_canShiftRow_0), (25, bk_X4_canShiftRow_25), (27, bk_X4_canShiftRow_27), (33, bk_X4_canShiftRow_33), (72, bk_X4_canShiftRow_72), (78, bk_X4_canShiftRow_78)]
def cs_X4_canShiftRow : List (Bool × Nat) := [(false, 116), (false, 70), (false, 93), (false, 79)]
theorem ck_X4_canShiftRow : pm_ckB yX4_canShiftRow.cls cX4_canShiftRow 6 cs_X4_canShiftRow bl_X4_canShiftRow = true := by decide +kernel
def bk_X4_longestRow_0 : pm_B := ([(0, .aload_n 0, 1, 0, 0, []), (1, .invokevirtual 119, 3, 0, 0, []), (4, .iconst 1, 1, 1, 0, []), (5, .iadd, 1, 0, 0, []), (6, .istore_n 3, 1, 0, 0, []), (7, .iconst 0, 1, 0, 0, []), (8, .istore 4, 2, 0, 0, [])], (10, [0, 1, 2, 3, 4]))
def bk_X4_longestRow_10 : pm_B := ([(10, .iload 4, 2, 0, 0, []), (12, .aload_n 0, 1, 0, 0, []), (13, .getfield 28, 3, 4, 0, []), (16, .getfield 64, 3, 0, 5, []), (19, .if_icmp .ge 58, 3, 0, 0, [(77, [3])]), (22, .iload 4, 2, 0, 0, []), (24, .iload_n 1, 1, 0, 0, []), (25, .if_icmp .eq 23, 3, 0, 0, [(48, [0, 1, 2, 3, 4])]), (28, .iload 4, 2, 0, 0, []), (30, .iload_n 2, 1, 0, 0, []), (31, .if_icmp .eq 17, 3, 0, 0, [(48, [0, 1, 2, 3, 4])]), (34, .aload_n 0, 1, 0, 0, []), (35, .getfield 15, 3, 4, 2, []), (38, .iload 4, 2, 0, 0, []), (40, .iaload, 1, 0, 0, []), (41, .ifCond .ne 7, 3, 0, 0, [(48, [0, 1, 2, 3, 4])]), (44, .iconst 1, 1, 1, 0, []), (45, .goto 4, 3, 0, 0, [(49, [0, 1, 2, 3, 4])])], (0, []))
def bk_X4_longestRow_48 : pm_B := ([(48, .iconst 0, 1, 0, 0, [])], (49, [0, 1, 2, 3, 4]))
def bk_X4_longestRow_49 : pm_B := ([(49, .istore 5, 2, 0, 0, []), (51, .iload 5, 2, 0, 0, []), (53, .ifCond .eq 18, 3, 0, 0, [(71, [0, 1, 2, 3, 4])]), (56, .aload_n 0, 1, 0, 0, []), (57, .getfield 28, 3, 4, 0, []), (60, .getfield 122, 3, 0, 7, []), (63, .iconst 4, 1, 4, 0, []), (64, .if_icmp .eq 7, 3, 0, 0, [(71, [0, 1, 2, 3, 4])]), (67, .iload_n 3, 1, 0, 0, []), (68, .iconst 2, 1, 2, 0, []), (69, .imul, 1, 0, 0, []), (70, .istore_n 3, 1, 0, 0, [])], (71, [0, 1, 2, 3, 4]))
def bk_X4_longestRow_71 : pm_B := ([(71, .iinc 4 1, 3, 1, 0, []), (74, .goto (-64), 3, 0, 0, [(10, [0, 1, 2, 3, 4])])], (0, []))
def bk_X4_longestRow_77 : pm_B := ([(77, .iload_n 3, 1, 0, 0, []), (78, .ireturn, 1, 0, 0, [])], (0, []))
def bl_X4_longestRow : List (Nat × pm_B) := [(0, bk_X4_longestRow_0), (10, bk_X4_longestRow_10), (48, bk_X4_longestRow_48), (49, bk_X4_longestRow_49), (71, bk_X4_longestRow_71), (77, bk_X4_longestRow_77)]
def cs_X4_longestRow : List (Bool × Nat) := [(false, 119)]
theorem ck_X4_longestRow : pm_ckB yX4_longestRow.cls cX4_longestRow 6 cs_X4_longestRow bl_X4_longestRow = true := by decide +kernel
def bk_X4_shiftRow_0 : pm_B := ([(0, .iconst 4, 1, 4, 0, []), (1, .iload_n 3, 1, 0, 0, []), (2, .imul, 1, 0, 0, []), (3, .istore 4, 2, 0, 0, []), (5, .aload_n 0, 1, 0, 0, []), (6, .getfield 11, 3, 4, 1, []), (9, .iload_n 1, 1, 0, 0, []), (10, .laload, 1, 0, 0, []), (11, .lconst 1, 1, 1, 0, []), (12, .iload 4, 2, 0, 0, []), (14, .lshl, 1, 0, 0, []), (15, .lconst 1, 1, 1, 0, []), (16, .lsub, 1, 0, 0, []), (17, .land, 1, 0, 0, []), (18, .lstore 5, 2, 0, 0, []), (20, .aload_n 0, 1, 0, 0, []), (21, .getfield 11, 3, 4, 1, []), (24, .iload_n 1, 1, 0, 0, []), (25, .dup2, 1, 0, 0, []), (26, .laload, 1, 0, 0, []), (27, .iload 4, 2, 0, 0, []), (29, .lushr, 1, 0, 0, []), (30, .lastore, 1, 0, 0, []), (31, .aload_n 0, 1, 0, 0, []), (32, .getfield 15, 3, 4, 2, []), (35, .iload_n 1, 1, 0, 0, []), (36, .dup2, 1, 0, 0, []), (37, .iaload, 1, 0, 0, []), (38, .iload_n 3, 1, 0, 0, []), (39, .isub, 1, 0, 0, []), (40, .iastore, 1, 0, 0, []), (41, .aload_n 0, 1, 0, 0, []), (42, .getfield 11, 3, 4, 1, []), (45, .iload_n 2, 1, 0, 0, []), (46, .aload_n 0, 1, 0, 0, []), (47, .getfield 11, 3, 4, 1, []), (50, .iload_n 2, 1, 0, 0, []), (51, .laload, 1, 0, 0, []), (52, .iload 4, 2, 0, 0, []), (54, .lshl, 1, 0, 0, []), (55, .lload 5, 2, 0, 0, []), (57, .lor, 1, 0, 0, []), (58, .lastore, 1, 0, 0, []), (59, .aload_n 0, 1, 0, 0, []), (60, .getfield 15, 3, 4, 2, []), (63, .iload_n 2, 1, 0, 0, []), (64, .dup2, 1, 0, 0, []), (65, .iaload, 1, 0, 0, []), (66, .iload_n 3, 1, 0, 0, []), (67, .iadd, 1, 0, 0, []), (68, .iastore, 1, 0, 0, []), (69, .return_, 1, 0, 0, [])], (0, []))
def bl_X4_shiftRow : List (Nat × pm_B) := [(0, bk_X4_shiftRow_0)]
def cs_X4_shiftRow : List (Bool × Nat) := []
theorem ck_X4_shiftRow : pm_ckB yX4_shiftRow.cls cX4_shiftRow 7 cs_X4_shiftRow bl_X4_shiftRow = true := by decide +kernel
def bk_X4_sendSafeCard_0 : pm_B := ([(0, .iconst 0, 1, 0, 0, []), (1, .istore_n 1, 1, 0, 0, [])], (2, [0, 1]))
def bk_X4_sendSafeCard_2 : pm_B := ([(2, .iload_n 1, 1, 0, 0, []), (3, .bipush 6, 2, 6, 0, []), (5, .if_icmp .ge 58, 3, 0, 0, [(63, [])]), (8, .aload_n 0, 1, 0, 0, []), (9, .iload_n 1, 1, 0, 0, []), (10, .iconst 5, 1, 5, 0, []), (11, .invokevirtual 96, 3, 0, 0, []), (14, .ifCond .eq 16, 3, 0, 0, [(30, [0, 1])]), (17, .aload_n 0, 1, 0, 0, []), (18, .iload_n 1, 1, 0, 0, []), (19, .iconst 5, 1, 5, 0, []), (20, .invokevirtual 99, 3, 1, 0, []), (23, .ifCond .ne 7, 3, 0, 0, [(30, [0, 1])]), (26, .iconst 1, 1, 1, 0, []), (27, .goto 4, 3, 0, 0, [(31, [0, 1])])], (0, []))
def bk_X4_sendSafeCard_30 : pm_B := ([(30, .iconst 0, 1, 0, 0, [])], (31, [0, 1]))
def bk_X4_sendSafeCard_31 : pm_B := ([(31, .istore_n 2, 1, 0, 0, []), (32, .iload_n 2, 1, 0, 0, []), (33, .ifCond .eq 24, 3, 0, 0, [(57, [0, 1])]), (36, .aload_n 0, 1, 0, 0, []), (37, .aload_n 0, 1, 0, 0, []), (38, .iload_n 1, 1, 0, 0, []), (39, .invokevirtual 83, 3, 2, 0, []), (42, .invokevirtual 125, 3, 3, 0, []), (45, .ifCond .eq 12, 3, 0, 0, [(57, [0, 1])]), (48, .aload_n 0, 1, 0, 0, []), (49, .iload_n 1, 1, 0, 0, []), (50, .iconst 5, 1, 5, 0, []), (51, .invokevirtual 128, 3, 4, 0, []), (54, .pop, 1, 0, 0, []), (55, .iconst 1, 1, 1, 0, []), (56, .ireturn, 1, 0, 0, [])], (0, []))
def bk_X4_sendSafeCard_57 : pm_B := ([(57, .iinc 1 1, 3, 1, 0, []), (60, .goto (-58), 3, 0, 0, [(2, [0, 1])])], (0, []))
def bk_X4_sendSafeCard_63 : pm_B := ([(63, .iconst 0, 1, 0, 0, []), (64, .ireturn, 1, 0, 0, [])], (0, []))
def bl_X4_sendSafeCard : List (Nat × pm_B) := [(0, bk_X4_sendSafeCard_0), (2, bk_X4_sendSafeCard_2), (30, bk_X4_sendSafeCard_30), (31, bk_X4_sendSafeCard_31), (57, bk_X4_sendSafeCard_57), (63, bk_X4_sendSafeCard_63)]
def cs_X4_sendSafeCard : List (Bool × Nat) := [(false, 96), (false, 99), (false, 83), (false, 125), (false, 128)]
theorem ck_X4_sendSafeCard : pm_ckB yX4_sendSafeCard.cls cX4_sendSafeCard 3 cs_X4_sendSafeCard bl_X4_sendSafeCard = true := by decide +kernel
def bk_X4_isSafe_0 : pm_B := ([(0, .aload_n 0, 1, 0, 0, []), (1, .getfield 28, 3, 4, 0, []), (4, .getfield 122, 3, 0, 7, []), (7, .iconst 1, 1, 1, 0, []), (8, .if_icmp .ne 5, 3, 0, 0, [(13, [0, 1])]), (11, .iconst 1, 1, 1, 0, []), (12, .ireturn, 1, 0, 0, [])], (0, []))
def bk_X4_isSafe_13 : pm_B := ([(13, .aload_n 0, 1, 0, 0, []), (14, .getfield 28, 3, 4, 0, []), (17, .getfield 122, 3, 0, 7, []), (20, .ifCond .eq 16, 3, 0, 0, [(36, [0, 1])]), (23, .aload_n 0, 1, 0, 0, []), (24, .getfield 28, 3, 4, 0, []), (27, .getfield 122, 3, 0, 7, []), (30, .iconst 2, 1, 2, 0, []), (31, .if_icmp .eq 5, 3, 0, 0, [(36, [0, 1])]), (34, .iconst 0, 1, 0, 0, []), (35, .ireturn, 1, 0, 0, [])], (0, []))
def bk_X4_isSafe_36 : pm_B := ([(36, .iconst 0, 1, 0, 0, []), (37, .istore_n 2, 1, 0, 0, [])], (38, [0, 1, 2]))
def bk_X4_isSafe_38 : pm_B := ([(38, .iload_n 2, 1, 0, 0, []), (39, .aload_n 0, 1, 0, 0, []), (40, .getfield 28, 3, 4, 0, []), (43, .getfield 131, 3, 0, 3, []), (46, .if_icmp .ge 71, 3, 0, 0, [(117, [])]), (49, .aload_n 0, 1, 0, 0, []), (50, .getfield 28, 3, 4, 0, []), (53, .getfield 122, 3, 0, 7, []), (56, .ifCond .eq 23, 3, 0, 0, [(79, [0, 1, 2])]), (59, .aload_n 0, 1, 0, 0, []), (60, .getfield 28, 3, 4, 0, []), (63, .iload_n 2, 1, 0, 0, []), (64, .aload_n 0, 1, 0, 0, []), (65, .getfield 28, 3, 4, 0, []), (68, .getfield 73, 3, 0, 0, []), (71, .iload_n 1, 1, 0, 0, []), (72, .iaload, 1, 0, 0, []), (73, .invokevirtual 134, 3, 0, 0, []), (76, .ifCond .eq 7, 3, 0, 0, [(83, [0, 1, 2])])], (79, [0, 1, 2]))
def bk_X4_isSafe_79 : pm_B := ([(79, .iconst 1, 1, 1, 0, []), (80, .goto 4, 3, 0, 0, [(84, [0, 1, 2])])], (0, []))
def bk_X4_isSafe_83 : pm_B := ([(83, .iconst 0, 1, 0, 0, [])], (84, [0, 1, 2]))
def bk_X4_isSafe_84 : pm_B := ([(84, .istore_n 3, 1, 0, 0, []), (85, .iload_n 3, 1, 0, 0, []), (86, .ifCond .eq 25, 3, 0, 0, [(111, [0, 1, 2])]), (89, .aload_n 0, 1, 0, 0, []), (90, .getfield 22, 3, 4, 4, []), (93, .iload_n 2, 1, 0, 0, []), (94, .iaload, 1, 0, 0, []), (95, .aload_n 0, 1, 0, 0, []), (96, .getfield 28, 3, 4, 0, []), (99, .getfield 76, 3, 0, 1, []), (102, .iload_n 1, 1, 0, 0, []), (103, .iaload, 1, 0, 0, []), (104, .iconst 1, 1, 1, 0, []), (105, .isub, 1, 0, 0, []), (106, .if_icmp .ge 5, 3, 0, 0, [(111, [0, 1, 2])]), (109, .iconst 0, 1, 0, 0, []), (110, .ireturn, 1, 0, 0, [])], (0, []))
def bk_X4_isSafe_111 : pm_B := ([(111, .iinc 2 1, 3, 1, 0, []), (114, .goto (-76), 3, 0, 0, [(38, [0, 1, 2])])], (0, []))
def bk_X4_isSafe_117 : pm_B := ([(117, .iconst 1, 1, 1, 0, []), (118, .ireturn, 1, 0, 0, [])], (0, []))
def bl_X4_isSafe : List (Nat × pm_B) := [(0, bk_X4_isSafe_0), (13, bk_X4_isSafe_13), (36, bk_X4_isSafe_36), (38, bk_X4_isSafe_38), (79, bk_X4_isSafe_79), (83, bk_X4_isSafe_83), (84, bk_X4_isSafe_84), (111, bk_X4_isSafe_111), (117, bk_X4_isSafe_117)]
def cs_X4_isSafe : List (Bool × Nat) := [(false, 134)]
theorem ck_X4_isSafe : pm_ckB yX4_isSafe.cls cX4_isSafe 4 cs_X4_isSafe bl_X4_isSafe = true := by decide +kernel
def bk_X4_writeColumn_0 : pm_B := ([(0, .iconst 0, 1, 0, 0, []), (1, .istore 4, 2, 0, 0, [])], (3, [0, 1, 2, 3, 4]))
def bk_X4_writeColumn_3 : pm_B := ([(3, .iload 4, 2, 0, 0, []), (5, .aload_n 0, 1, 0, 0, []), (6, .getfield 15, 3, 4, 2, []), (9, .iload_n 1, 1, 0, 0, []), (10, .iaload, 1, 0, 0, []), (11, .if_icmp .ge 39, 3, 0, 0, [(50, [0, 1, 3])]), (14, .iload_n 3, 1, 0, 0, []), (15, .iload 4, 2, 0, 0, []), (17, .iadd, 1, 0, 0, []), (18, .aload_n 2, 1, 0, 0, []), (19, .arraylength, 1, 0, 0, []), (20, .if_icmp .ge 30, 3, 0, 0, [(50, [0, 1, 3])]), (23, .aload_n 2, 1, 0, 0, []), (24, .iload_n 3, 1, 0, 0, []), (25, .iload 4, 2, 0, 0, []), (27, .iadd, 1, 0, 0, []), (28, .aload_n 0, 1, 0, 0, []), (29, .getfield 28, 3, 4, 0, []), (32, .aload_n 0, 1, 0, 0, []), (33, .iload_n 1, 1, 0, 0, []), (34, .iload 4, 2, 0, 0, []), (36, .invokevirtual 70, 3, 0, 0, []), (39, .invokevirtual 137, 3, 1, 0, []), (42, .i2s, 1, 0, 0, []), (43, .sastore, 1, 0, 0, []), (44, .iinc 4 1, 3, 1, 0, []), (47, .goto (-44), 3, 0, 0, [(3, [0, 1, 2, 3, 4])])], (0, []))
def bk_X4_writeColumn_50 : pm_B := ([(50, .iload_n 3, 1, 0, 0, []), (51, .aload_n 0, 1, 0, 0, []), (52, .getfield 15, 3, 4, 2, []), (55, .iload_n 1, 1, 0, 0, []), (56, .iaload, 1, 0, 0, []), (57, .iadd, 1, 0, 0, []), (58, .ireturn, 1, 0, 0, [])], (0, []))
def bl_X4_writeColumn : List (Nat × pm_B) := [(0, bk_X4_writeColumn_0), (3, bk_X4_writeColumn_3), (50, bk_X4_writeColumn_50)]
def cs_X4_writeColumn : List (Bool × Nat) := [(false, 70), (false, 137)]
theorem ck_X4_writeColumn : pm_ckB yX4_writeColumn.cls cX4_writeColumn 5 cs_X4_writeColumn bl_X4_writeColumn = true := by decide +kernel
def bk_X4_writeHoused_0 : pm_B := ([(0, .aload_n 1, 1, 0, 0, []), (1, .iconst 0, 1, 0, 0, []), (2, .invokestatic 140, 3, 0, 0, []), (5, .iconst 0, 1, 0, 0, []), (6, .istore_n 2, 1, 0, 0, [])], (7, [0, 1, 2]))
def bk_X4_writeHoused_7 : pm_B := ([(7, .iload_n 2, 1, 0, 0, []), (8, .aload_n 0, 1, 0, 0, []), (9, .getfield 28, 3, 4, 0, []), (12, .getfield 131, 3, 0, 3, []), (15, .if_icmp .ge 42, 3, 0, 0, [(57, [])]), (18, .iconst 1, 1, 1, 0, []), (19, .istore_n 3, 1, 0, 0, [])], (20, [0, 1, 2, 3]))
def bk_X4_writeHoused_20 : pm_B := ([(20, .iload_n 3, 1, 0, 0, []), (21, .aload_n 0, 1, 0, 0, []), (22, .getfield 22, 3, 4, 4, []), (25, .iload_n 2, 1, 0, 0, []), (26, .iaload, 1, 0, 0, []), (27, .if_icmp .gt 24, 3, 0, 0, [(51, [0, 1, 2])]), (30, .iload_n 3, 1, 0, 0, []), (31, .bipush 6, 2, 6, 0, []), (33, .if_icmp .gt 18, 3, 0, 0, [(51, [0, 1, 2])]), (36, .aload_n 1, 1, 0, 0, []), (37, .bipush 8, 2, 8, 0, []), (39, .iload_n 2, 1, 0, 0, []), (40, .imul, 1, 0, 0, []), (41, .iload_n 3, 1, 0, 0, []), (42, .iadd, 1, 0, 0, []), (43, .iconst 1, 1, 1, 0, []), (44, .sastore, 1, 0, 0, []), (45, .iinc 3 1, 3, 1, 0, []), (48, .goto (-28), 3, 0, 0, [(20, [0, 1, 2, 3])])], (0, []))
def bk_X4_writeHoused_51 : pm_B := ([(51, .iinc 2 1, 3, 1, 0, []), (54, .goto (-47), 3, 0, 0, [(7, [0, 1, 2])])], (0, []))
def bk_X4_writeHoused_57 : pm_B := ([(57, .bipush 32, 2, 32, 0, []), (59, .ireturn, 1, 0, 0, [])], (0, []))
def bl_X4_writeHoused : List (Nat × pm_B) := [(0, bk_X4_writeHoused_0), (7, bk_X4_writeHoused_7), (20, bk_X4_writeHoused_20), (51, bk_X4_writeHoused_51), (57, bk_X4_writeHoused_57)]
def cs_X4_writeHoused : List (Bool × Nat) := [(true, 140)]
theorem ck_X4_writeHoused : pm_ckB yX4_writeHoused.cls cX4_writeHoused 4 cs_X4_writeHoused bl_X4_writeHoused = true := by decide +kernel
def bk_X4_writeForm_0 : pm_B := ([(0, .aload_n 0, 1, 0, 0, []), (1, .invokevirtual 143, 3, 0, 0, []), (4, .iconst 0, 1, 0, 0, []), (5, .istore_n 2, 1, 0, 0, []), (6, .iconst 0, 1, 0, 0, []), (7, .istore_n 3, 1, 0, 0, [])], (8, [0, 1, 2, 3]))
def bk_X4_writeForm_8 : pm_B := ([(8, .iload_n 3, 1, 0, 0, []), (9, .iconst 4, 1, 4, 0, []), (10, .if_icmp .ge 50, 3, 0, 0, [(60, [0, 1, 2])]), (13, .aload_n 0, 1, 0, 0, []), (14, .iload_n 3, 1, 0, 0, []), (15, .invokevirtual 146, 3, 1, 0, []), (18, .istore 4, 2, 0, 0, []), (20, .iload 4, 2, 0, 0, []), (22, .aload_n 0, 1, 0, 0, []), (23, .getfield 28, 3, 4, 0, []), (26, .getfield 64, 3, 0, 5, []), (29, .if_icmp .ge 25, 3, 0, 0, [(54, [0, 1, 2, 3])]), (32, .aload_n 1, 1, 0, 0, []), (33, .iload_n 2, 1, 0, 0, []), (34, .aload_n 0, 1, 0, 0, []), (35, .getfield 15, 3, 4, 2, []), (38, .iload 4, 2, 0, 0, []), (40, .iaload, 1, 0, 0, []), (41, .i2s, 1, 0, 0, []), (42, .sastore, 1, 0, 0, []), (43, .aload_n 0, 1, 0, 0, []), (44, .iload 4, 2, 0, 0, []), (46, .aload_n 1, 1, 0, 0, []), (47, .iload_n 2, 1, 0, 0, []), (48, .iconst 1, 1, 1, 0, []), (49, .iadd, 1, 0, 0, []), (50, .invokevirtual 149, 3, 2, 0, []), (53, .istore_n 2, 1, 0, 0, [])], (54, [0, 1, 2, 3]))
def bk_X4_writeForm_54 : pm_B := ([(54, .iinc 3 1, 3, 1, 0, []), (57, .goto (-49), 3, 0, 0, [(8, [0, 1, 2, 3])])], (0, []))
def bk_X4_writeForm_60 : pm_B := ([(60, .aload_n 0, 1, 0, 0, []), (61, .getfield 32, 3, 4, 6, []), (64, .iconst 2, 1, 2, 0, []), (65, .if_icmp .ne 32, 3, 0, 0, [(97, [0, 1, 2])]), (68, .aload_n 1, 1, 0, 0, []), (69, .iload_n 2, 1, 0, 0, []), (70, .iinc 2 1, 3, 1, 0, []), (73, .aload_n 0, 1, 0, 0, []), (74, .getfield 28, 3, 4, 0, []), (77, .aload_n 0, 1, 0, 0, []), (78, .getfield 19, 3, 4, 3, []), (81, .iconst 0, 1, 0, 0, []), (82, .iaload, 1, 0, 0, []), (83, .aload_n 0, 1, 0, 0, []), (84, .getfield 19, 3, 4, 3, []), (87, .iconst 1, 1, 1, 0, []), (88, .iaload, 1, 0, 0, []), (89, .invokestatic 45, 3, 3, 0, []), (92, .invokevirtual 137, 3, 4, 0, []), (95, .i2s, 1, 0, 0, []), (96, .sastore, 1, 0, 0, [])], (97, [0, 1, 2]))
def bk_X4_writeForm_97 : pm_B := ([(97, .aload_n 0, 1, 0, 0, []), (98, .getfield 32, 3, 4, 6, []), (101, .ifCond .le 32, 3, 0, 0, [(133, [2])]), (104, .aload_n 1, 1, 0, 0, []), (105, .iload_n 2, 1, 0, 0, []), (106, .iinc 2 1, 3, 1, 0, []), (109, .aload_n 0, 1, 0, 0, []), (110, .getfield 28, 3, 4, 0, []), (113, .aload_n 0, 1, 0, 0, []), (114, .getfield 19, 3, 4, 3, []), (117, .iconst 0, 1, 0, 0, []), (118, .iaload, 1, 0, 0, []), (119, .aload_n 0, 1, 0, 0, []), (120, .getfield 19, 3, 4, 3, []), (123, .iconst 1, 1, 1, 0, []), (124, .iaload, 1, 0, 0, []), (125, .invokestatic 153, 3, 5, 0, []), (128, .invokevirtual 137, 3, 4, 0, []), (131, .i2s, 1, 0, 0, []), (132, .sastore, 1, 0, 0, [])], (133, [2]))
def bk_X4_writeForm_133 : pm_B := ([(133, .iload_n 2, 1, 0, 0, []), (134, .ireturn, 1, 0, 0, [])], (0, []))
def bl_X4_writeForm : List (Nat × pm_B) := [(0, bk_X4_writeForm_0), (8, bk_X4_writeForm_8), (54, bk_X4_writeForm_54), (60, bk_X4_writeForm_60), (97, bk_X4_writeForm_97), (133, bk_X4_writeForm_133)]
def cs_X4_writeForm : List (Bool × Nat) := [(false, 143), (false, 146), (false, 149), (true, 45), (false, 137), (true, 153)]
theorem ck_X4_writeForm : pm_ckB yX4_writeForm.cls cX4_writeForm 5 cs_X4_writeForm bl_X4_writeForm = true := by decide +kernel
def bk_X4_sortColumns_0 : pm_B := ([(0, .iconst 0, 1, 0, 0, []), (1, .istore_n 1, 1, 0, 0, [])], (2, [0, 1]))
def bk_X4_sortColumns_2 : pm_B := ([(2, .iload_n 1, 1, 0, 0, []), (3, .iconst 4, 1, 4, 0, []), (4, .if_icmp .ge 90, 3, 0, 0, [(94, [])]), (7, .aload_n 0, 1, 0, 0, []), (8, .getfield 11, 3, 4, 1, []), (11, .iload_n 1, 1, 0, 0, []), (12, .laload, 1, 0, 0, []), (13, .iconst 4, 1, 4, 0, []), (14, .bipush 12, 2, 12, 0, []), (16, .aload_n 0, 1, 0, 0, []), (17, .getfield 15, 3, 4, 2, []), (20, .iload_n 1, 1, 0, 0, []), (21, .iaload, 1, 0, 0, []), (22, .isub, 1, 0, 0, []), (23, .imul, 1, 0, 0, []), (24, .lshl, 1, 0, 0, []), (25, .lstore_n 2, 1, 0, 0, []), (26, .lload_n 2, 1, 0, 0, []), (27, .iconst 2, 1, 2, 0, []), (28, .lshl, 1, 0, 0, []), (29, .iload_n 1, 1, 0, 0, []), (30, .i2l, 1, 0, 0, []), (31, .lor, 1, 0, 0, []), (32, .lstore 4, 2, 0, 0, []), (34, .iload_n 1, 1, 0, 0, []), (35, .istore 6, 2, 0, 0, [])], (37, [0, 1, 4, 6]))
def bk_X4_sortColumns_37 : pm_B := ([(37, .iload 6, 2, 0, 0, []), (39, .ifCond .le 40, 3, 0, 0, [(79, [0, 1, 4, 6])]), (42, .aload_n 0, 1, 0, 0, []), (43, .getfield 25, 3, 4, 5, []), (46, .iload 6, 2, 0, 0, []), (48, .iconst 1, 1, 1, 0, []), (49, .isub, 1, 0, 0, []), (50, .laload, 1, 0, 0, []), (51, .lload 4, 2, 0, 0, []), (53, .lcmp, 1, 0, 0, []), (54, .ifCond .le 25, 3, 0, 0, [(79, [0, 1, 4, 6])]), (57, .aload_n 0, 1, 0, 0, []), (58, .getfield 25, 3, 4, 5, []), (61, .iload 6, 2, 0, 0, []), (63, .aload_n 0, 1, 0, 0, []), (64, .getfield 25, 3, 4, 5, []), (67, .iload 6, 2, 0, 0, []), (69, .iconst 1, 1, 1, 0, []), (70, .isub, 1, 0, 0, []), (71, .laload, 1, 0, 0, []), (72, .lastore, 1, 0, 0, []), (73, .iinc 6 (-1), 3, 1, 1, []), (76, .goto (-39), 3, 0, 0, [(37, [0, 1, 4, 6])])], (0, []))
def bk_X4_sortColumns_79 : pm_B := ([(79, .aload_n 0, 1, 0, 0, []), (80, .getfield 25, 3, 4, 5, []), (83, .iload 6, 2, 0, 0, []), (85, .lload 4, 2, 0, 0, []), (87, .lastore, 1, 0, 0, []), (88, .iinc 1 1, 3, 1, 0, []), (91, .goto (-89), 3, 0, 0, [(2, [0, 1])])], (0, []))
def bk_X4_sortColumns_94 : pm_B := ([(94, .return_, 1, 0, 0, [])], (0, []))
def bl_X4_sortColumns : List (Nat × pm_B) := [(0, bk_X4_sortColumns_0), (2, bk_X4_sortColumns_2), (37, bk_X4_sortColumns_37), (79, bk_X4_sortColumns_79), (94, bk_X4_sortColumns_94)]
def cs_X4_sortColumns : List (Bool × Nat) := []
theorem ck_X4_sortColumns : pm_ckB yX4_sortColumns.cls cX4_sortColumns 7 cs_X4_sortColumns bl_X4_sortColumns = true := by decide +kernel
def bk_X4_inOrder_0 : pm_B := ([(0, .aload_n 0, 1, 0, 0, []), (1, .getfield 25, 3, 4, 5, []), (4, .iload_n 1, 1, 0, 0, []), (5, .laload, 1, 0, 0, []), (6, .l2i, 1, 0, 0, []), (7, .iconst 3, 1, 3, 0, []), (8, .iand, 1, 0, 0, []), (9, .ireturn, 1, 0, 0, [])], (0, []))
def bl_X4_inOrder : List (Nat × pm_B) := [(0, bk_X4_inOrder_0)]
def cs_X4_inOrder : List (Bool × Nat) := []
theorem ck_X4_inOrder : pm_ckB yX4_inOrder.cls cX4_inOrder 2 cs_X4_inOrder bl_X4_inOrder = true := by decide +kernel
def bk_X4_formKey_0 : pm_B := ([(0, .aload_n 0, 1, 0, 0, []), (1, .invokevirtual 143, 3, 0, 0, []), (4, .lconst 0, 1, 0, 0, []), (5, .lstore_n 1, 1, 0, 0, []), (6, .iconst 0, 1, 0, 0, []), (7, .istore_n 3, 1, 0, 0, []), (8, .iconst 0, 1, 0, 0, []), (9, .istore 4, 2, 0, 0, [])], (11, [0, 1, 3, 4]))
def bk_X4_formKey_11 : pm_B := ([(11, .iload 4, 2, 0, 0, []), (13, .iconst 4, 1, 4, 0, []), (14, .if_icmp .ge 43, 3, 0, 0, [(57, [0, 1, 3])]), (17, .aload_n 0, 1, 0, 0, []), (18, .iload 4, 2, 0, 0, []), (20, .invokevirtual 146, 3, 1, 0, []), (23, .istore 5, 2, 0, 0, []), (25, .lload_n 1, 1, 0, 0, []), (26, .aload_n 0, 1, 0, 0, []), (27, .getfield 11, 3, 4, 1, []), (30, .iload 5, 2, 0, 0, []), (32, .laload, 1, 0, 0, []), (33, .iload_n 3, 1, 0, 0, []), (34, .lshl, 1, 0, 0, []), (35, .lor, 1, 0, 0, []), (36, .lstore_n 1, 1, 0, 0, []), (37, .iload_n 3, 1, 0, 0, []), (38, .iconst 4, 1, 4, 0, []), (39, .aload_n 0, 1, 0, 0, []), (40, .getfield 15, 3, 4, 2, []), (43, .iload 5, 2, 0, 0, []), (45, .iaload, 1, 0, 0, []), (46, .iconst 1, 1, 1, 0, []), (47, .iadd, 1, 0, 0, []), (48, .imul, 1, 0, 0, []), (49, .iadd, 1, 0, 0, []), (50, .istore_n 3, 1, 0, 0, []), (51, .iinc 4 1, 3, 1, 0, []), (54, .goto (-43), 3, 0, 0, [(11, [0, 1, 3, 4])])], (0, []))
def bk_X4_formKey_57 : pm_B := ([(57, .aload_n 0, 1, 0, 0, []), (58, .getfield 19, 3, 4, 3, []), (61, .iconst 0, 1, 0, 0, []), (62, .iaload, 1, 0, 0, []), (63, .aload_n 0, 1, 0, 0, []), (64, .getfield 19, 3, 4, 3, []), (67, .iconst 1, 1, 1, 0, []), (68, .iaload, 1, 0, 0, []), (69, .invokestatic 153, 3, 2, 0, []), (72, .i2l, 1, 0, 0, []), (73, .lstore 4, 2, 0, 0, []), (75, .aload_n 0, 1, 0, 0, []), (76, .getfield 19, 3, 4, 3, []), (79, .iconst 0, 1, 0, 0, []), (80, .iaload, 1, 0, 0, []), (81, .aload_n 0, 1, 0, 0, []), (82, .getfield 19, 3, 4, 3, []), (85, .iconst 1, 1, 1, 0, []), (86, .iaload, 1, 0, 0, []), (87, .invokestatic 45, 3, 3, 0, []), (90, .i2l, 1, 0, 0, []), (91, .lstore 6, 2, 0, 0, []), (93, .lload_n 1, 1, 0, 0, []), (94, .lload 6, 2, 0, 0, []), (96, .iconst 4, 1, 4, 0, []), (97, .lshl, 1, 0, 0, []), (98, .lload 4, 2, 0, 0, []), (100, .lor, 1, 0, 0, []), (101, .iload_n 3, 1, 0, 0, []), (102, .lshl, 1, 0, 0, []), (103, .lor, 1, 0, 0, []), (104, .lreturn, 1, 0, 0, [])], (0, []))
def bl_X4_formKey : List (Nat × pm_B) := [(0, bk_X4_formKey_0), (11, bk_X4_formKey_11), (57, bk_X4_formKey_57)]
def cs_X4_formKey : List (Bool × Nat) := [(false, 143), (false, 146), (true, 153), (true, 45)]
theorem ck_X4_formKey : pm_ckB yX4_formKey.cls cX4_formKey 8 cs_X4_formKey bl_X4_formKey = true := by decide +kernel
def bk_X4_arrangement_0 : pm_B := ([(0, .aload_n 0, 1, 0, 0, []), (1, .invokevirtual 143, 3, 0, 0, []), (4, .iconst 0, 1, 0, 0, []), (5, .istore_n 1, 1, 0, 0, []), (6, .iconst 0, 1, 0, 0, []), (7, .istore_n 2, 1, 0, 0, [])], (8, [0, 1, 2]))
def bk_X4_arrangement_8 : pm_B := ([(8, .iload_n 2, 1, 0, 0, []), (9, .iconst 4, 1, 4, 0, []), (10, .if_icmp .ge 21, 3, 0, 0, [(31, [0, 1])]), (13, .iload_n 1, 1, 0, 0, []), (14, .aload_n 0, 1, 0, 0, []), (15, .iload_n 2, 1, 0, 0, []), (16, .invokevirtual 146, 3, 1, 0, []), (19, .iconst 2, 1, 2, 0, []), (20, .iload_n 2, 1, 0, 0, []), (21, .imul, 1, 0, 0, []), (22, .ishl, 1, 0, 0, []), (23, .ior, 1, 0, 0, []), (24, .istore_n 1, 1, 0, 0, []), (25, .iinc 2 1, 3, 1, 0, []), (28, .goto (-20), 3, 0, 0, [(8, [0, 1, 2])])], (0, []))
def bk_X4_arrangement_31 : pm_B := ([(31, .aload_n 0, 1, 0, 0, []), (32, .getfield 19, 3, 4, 3, []), (35, .iconst 0, 1, 0, 0, []), (36, .iaload, 1, 0, 0, []), (37, .aload_n 0, 1, 0, 0, []), (38, .getfield 19, 3, 4, 3, []), (41, .iconst 1, 1, 1, 0, []), (42, .iaload, 1, 0, 0, []), (43, .if_icmp .ge 7, 3, 0, 0, [(50, [1])]), (46, .iconst 1, 1, 1, 0, []), (47, .goto 4, 3, 0, 0, [(51, [1])])], (0, []))
def bk_X4_arrangement_50 : pm_B := ([(50, .iconst 0, 1, 0, 0, [])], (51, [1]))
def bk_X4_arrangement_51 : pm_B := ([(51, .istore_n 2, 1, 0, 0, []), (52, .iload_n 2, 1, 0, 0, []), (53, .bipush 8, 2, 8, 0, []), (55, .ishl, 1, 0, 0, []), (56, .iload_n 1, 1, 0, 0, []), (57, .ior, 1, 0, 0, []), (58, .ireturn, 1, 0, 0, [])], (0, []))
def bl_X4_arrangement : List (Nat × pm_B) := [(0, bk_X4_arrangement_0), (8, bk_X4_arrangement_8), (31, bk_X4_arrangement_31), (50, bk_X4_arrangement_50), (51, bk_X4_arrangement_51)]
def cs_X4_arrangement : List (Bool × Nat) := [(false, 143), (false, 146)]
theorem ck_X4_arrangement : pm_ckB yX4_arrangement.cls cX4_arrangement 3 cs_X4_arrangement bl_X4_arrangement = true := by decide +kernel
def bk_X4_unpack_0 : pm_B := ([(0, .iconst 0, 1, 0, 0, []), (1, .istore 4, 2, 0, 0, [])], (3, [0, 1, 3, 4]))
def bk_X4_unpack_3 : pm_B := ([(3, .iload 4, 2, 0, 0, []), (5, .iconst 4, 1, 4, 0, []), (6, .if_icmp .ge 39, 3, 0, 0, [(45, [0, 1, 3])]), (9, .aload_n 0, 1, 0, 0, []), (10, .getfield 22, 3, 4, 4, []), (13, .iload 4, 2, 0, 0, []), (15, .iload 4, 2, 0, 0, []), (17, .aload_n 0, 1, 0, 0, []), (18, .getfield 28, 3, 4, 0, []), (21, .getfield 131, 3, 0, 3, []), (24, .if_icmp .ge 13, 3, 0, 0, [(37, [0, 1, 3, 4])]), (27, .aload_n 0, 1, 0, 0, []), (28, .getfield 28, 3, 4, 0, []), (31, .getfield 156, 3, 0, 4, []), (34, .goto 4, 3, 0, 0, [(38, [0, 1, 3, 4])])], (0, []))
def bk_X4_unpack_37 : pm_B := ([(37, .iconst 0, 1, 0, 0, [])], (38, [0, 1, 3, 4]))
def bk_X4_unpack_38 : pm_B := ([(38, .iastore, 1, 0, 0, []), (39, .iinc 4 1, 3, 1, 0, []), (42, .goto (-39), 3, 0, 0, [(3, [0, 1, 3, 4])])], (0, []))
def bk_X4_unpack_45 : pm_B := ([(45, .lload_n 1, 1, 0, 0, []), (46, .lstore 4, 2, 0, 0, []), (48, .iconst 0, 1, 0, 0, []), (49, .istore 6, 2, 0, 0, [])], (51, [0, 3, 4, 6]))
def bk_X4_unpack_51 : pm_B := ([(51, .iload 6, 2, 0, 0, []), (53, .iconst 4, 1, 4, 0, []), (54, .if_icmp .ge 98, 3, 0, 0, [(152, [0, 3, 4])]), (57, .iload_n 3, 1, 0, 0, []), (58, .iconst 2, 1, 2, 0, []), (59, .iload 6, 2, 0, 0, []), (61, .imul, 1, 0, 0, []), (62, .iushr, 1, 0, 0, []), (63, .iconst 3, 1, 3, 0, []), (64, .iand, 1, 0, 0, []), (65, .istore 7, 2, 0, 0, []), (67, .iconst 0, 1, 0, 0, []), (68, .istore 8, 2, 0, 0, [])], (70, [0, 3, 4, 6, 7, 8]))
def bk_X4_unpack_70 : pm_B := ([(70, .iload 8, 2, 0, 0, []), (72, .bipush 48, 2, 48, 0, []), (74, .if_icmp .ge 36, 3, 0, 0, [(110, [0, 3, 4, 6, 7, 8])]), (77, .lload 4, 2, 0, 0, []), (79, .iload 8, 2, 0, 0, []), (81, .lushr, 1, 0, 0, []), (82, .ldc2_w 159, 3, 15, 0, []), (85, .land, 1, 0, 0, []), (86, .lconst 0, 1, 0, 0, []), (87, .lcmp, 1, 0, 0, []), (88, .ifCond .eq 22, 3, 0, 0, [(110, [0, 3, 4, 6, 7, 8])]), (91, .aload_n 0, 1, 0, 0, []), (92, .lload 4, 2, 0, 0, []), (94, .iload 8, 2, 0, 0, []), (96, .lushr, 1, 0, 0, []), (97, .l2i, 1, 0, 0, []), (98, .bipush 15, 2, 15, 0, []), (100, .iand, 1, 0, 0, []), (101, .invokevirtual 161, 3, 0, 0, []), (104, .iinc 8 4, 3, 4, 0, []), (107, .goto (-37), 3, 0, 0, [(70, [0, 3, 4, 6, 7, 8])])], (0, []))
def bk_X4_unpack_110 : pm_B := ([(110, .aload_n 0, 1, 0, 0, []), (111, .getfield 11, 3, 4, 1, []), (114, .iload 7, 2, 0, 0, []), (116, .lload 4, 2, 0, 0, []), (118, .lconst 1, 1, 1, 0, []), (119, .iload 8, 2, 0, 0, []), (121, .lshl, 1, 0, 0, []), (122, .lconst 1, 1, 1, 0, []), (123, .lsub, 1, 0, 0, []), (124, .land, 1, 0, 0, []), (125, .lastore, 1, 0, 0, []), (126, .aload_n 0, 1, 0, 0, []), (127, .getfield 15, 3, 4, 2, []), (130, .iload 7, 2, 0, 0, []), (132, .iload 8, 2, 0, 0, []), (134, .iconst 4, 1, 4, 0, []), (135, .idiv, 1, 0, 0, []), (136, .iastore, 1, 0, 0, []), (137, .lload 4, 2, 0, 0, []), (139, .iload 8, 2, 0, 0, []), (141, .iconst 4, 1, 4, 0, []), (142, .iadd, 1, 0, 0, []), (143, .lushr, 1, 0, 0, []), (144, .lstore 4, 2, 0, 0, []), (146, .iinc 6 1, 3, 1, 0, []), (149, .goto (-98), 3, 0, 0, [(51, [0, 3, 4, 6])])], (0, []))
def bk_X4_unpack_152 : pm_B := ([(152, .iload_n 3, 1, 0, 0, []), (153, .bipush 8, 2, 8, 0, []), (155, .iushr, 1, 0, 0, []), (156, .iconst 1, 1, 1, 0, []), (157, .iand, 1, 0, 0, []), (158, .istore 6, 2, 0, 0, []), (160, .aload_n 0, 1, 0, 0, []), (161, .getfield 19, 3, 4, 3, []), (164, .iload 6, 2, 0, 0, []), (166, .lload 4, 2, 0, 0, []), (168, .l2i, 1, 0, 0, []), (169, .bipush 15, 2, 15, 0, []), (171, .iand, 1, 0, 0, []), (172, .iastore, 1, 0, 0, []), (173, .aload_n 0, 1, 0, 0, []), (174, .getfield 19, 3, 4, 3, []), (177, .iconst 1, 1, 1, 0, []), (178, .iload 6, 2, 0, 0, []), (180, .isub, 1, 0, 0, []), (181, .lload 4, 2, 0, 0, []), (183, .iconst 4, 1, 4, 0, []), (184, .lushr, 1, 0, 0, []), (185, .l2i, 1, 0, 0, []), (186, .bipush 15, 2, 15, 0, []), (188, .iand, 1, 0, 0, []), (189, .iastore, 1, 0, 0, []), (190, .aload_n 0, 1, 0, 0, []), (191, .aload_n 0, 1, 0, 0, []), (192, .getfield 19, 3, 4, 3, []), (195, .iconst 0, 1, 0, 0, []), (196, .iaload, 1, 0, 0, []), (197, .invokevirtual 161, 3, 0, 0, []), (200, .aload_n 0, 1, 0, 0, []), (201, .aload_n 0, 1, 0, 0, []), (202, .getfield 19, 3, 4, 3, []), (205, .iconst 1, 1, 1, 0, []), (206, .iaload, 1, 0, 0, []), (207, .invokevirtual 161, 3, 0, 0, []), (210, .return_, 1, 0, 0, [])], (0, []))
def bl_X4_unpack : List (Nat × pm_B) := [(0, bk_X4_unpack_0), (3, bk_X4_unpack_3), (37, bk_X4_unpack_37), (38, bk_X4_unpack_38), (45, bk_X4_unpack_45), (51, bk_X4_unpack_51), (70, bk_X4_unpack_70), (110, bk_X4_unpack_110), (152, bk_X4_unpack_152)]
def cs_X4_unpack : List (Bool × Nat) := [(false, 161)]
theorem ck_X4_unpack : pm_ckB yX4_unpack.cls cX4_unpack 9 cs_X4_unpack bl_X4_unpack = true := by decide +kernel
def bk_X4_takeFromHouse_0 : pm_B := ([(0, .iload_n 1, 1, 0, 0, []), (1, .ifCond .eq 21, 3, 0, 0, [(22, [])]), (4, .aload_n 0, 1, 0, 0, []), (5, .getfield 22, 3, 4, 4, []), (8, .aload_n 0, 1, 0, 0, []), (9, .getfield 28, 3, 4, 0, []), (12, .getfield 73, 3, 0, 0, []), (15, .iload_n 1, 1, 0, 0, []), (16, .iaload, 1, 0, 0, []), (17, .dup2, 1, 0, 0, []), (18, .iaload, 1, 0, 0, []), (19, .iconst 1, 1, 1, 0, []), (20, .isub, 1, 0, 0, []), (21, .iastore, 1, 0, 0, [])], (22, []))
def bk_X4_takeFromHouse_22 : pm_B := ([(22, .return_, 1, 0, 0, [])], (0, []))
def bl_X4_takeFromHouse : List (Nat × pm_B) := [(0, bk_X4_takeFromHouse_0), (22, bk_X4_takeFromHouse_22)]
def cs_X4_takeFromHouse : List (Bool × Nat) := []
theorem ck_X4_takeFromHouse : pm_ckB yX4_takeFromHouse.cls cX4_takeFromHouse 2 cs_X4_takeFromHouse bl_X4_takeFromHouse = true := by decide +kernel
def bk_X6_begin_0 : pm_B := ([(0, .iload_n 1, 1, 0, 0, []), (1, .iconst 1, 1, 1, 0, []), (2, .iconst 4, 1, 4, 0, []), (3, .invokestatic 64, 3, 0, 0, []), (6, .ifCond .eq 25, 3, 0, 0, [(31, [0, 1, 2, 3, 4, 5])]), (9, .iload_n 2, 1, 0, 0, []), (10, .iconst 1, 1, 1, 0, []), (11, .bipush 6, 2, 6, 0, []), (13, .invokestatic 64, 3, 0, 0, []), (16, .ifCond .eq 15, 3, 0, 0, [(31, [0, 1, 2, 3, 4, 5])]), (19, .iload_n 1, 1, 0, 0, []), (20, .iload_n 2, 1, 0, 0, []), (21, .imul, 1, 0, 0, []), (22, .bipush 12, 2, 12, 0, []), (24, .if_icmp .gt 7, 3, 0, 0, [(31, [0, 1, 2, 3, 4, 5])]), (27, .iconst 1, 1, 1, 0, []), (28, .goto 4, 3, 0, 0, [(32, [0, 1, 2, 3, 4, 5])])], (0, []))
def bk_X6_begin_31 : pm_B := ([(31, .iconst 0, 1, 0, 0, [])], (32, [0, 1, 2, 3, 4, 5]))
def bk_X6_begin_32 : pm_B := ([(32, .istore 6, 2, 0, 0, []), (34, .iload_n 3, 1, 0, 0, []), (35, .iconst 1, 1, 1, 0, []), (36, .iconst 4, 1, 4, 0, []), (37, .invokestatic 64, 3, 0, 0, []), (40, .ifCond .eq 17, 3, 0, 0, [(57, [0, 1, 2, 3, 4, 5, 6])]), (43, .iload 4, 2, 0, 0, []), (45, .iconst 0, 1, 0, 0, []), (46, .iconst 2, 1, 2, 0, []), (47, .invokestatic 64, 3, 0, 0, []), (50, .ifCond .eq 7, 3, 0, 0, [(57, [0, 1, 2, 3, 4, 5, 6])]), (53, .iconst 1, 1, 1, 0, []), (54, .goto 4, 3, 0, 0, [(58, [0, 1, 2, 3, 4, 5, 6])])], (0, []))
def bk_X6_begin_57 : pm_B := ([(57, .iconst 0, 1, 0, 0, [])], (58, [0, 1, 2, 3, 4, 5, 6]))
def bk_X6_begin_58 : pm_B := ([(58, .istore 7, 2, 0, 0, []), (60, .iload 6, 2, 0, 0, []), (62, .ifCond .eq 18, 3, 0, 0, [(80, [])]), (65, .iload 7, 2, 0, 0, []), (67, .ifCond .eq 13, 3, 0, 0, [(80, [])]), (70, .iload 5, 2, 0, 0, []), (72, .iconst 0, 1, 0, 0, []), (73, .iconst 4, 1, 4, 0, []), (74, .invokestatic 64, 3, 0, 0, []), (77, .ifCond .ne 6, 3, 0, 0, [(83, [0, 1, 2, 3, 4, 5])])], (80, []))
def bk_X6_begin_80 : pm_B := ([(80, .bipush (-2), 2, 2, 1, []), (82, .ireturn, 1, 0, 0, [])], (0, []))
def bk_X6_begin_83 : pm_B := ([(83, .aload_n 0, 1, 0, 0, []), (84, .getfield 10, 3, 6, 0, []), (87, .iload_n 1, 1, 0, 0, []), (88, .iload_n 2, 1, 0, 0, []), (89, .iload_n 3, 1, 0, 0, []), (90, .iload 4, 2, 0, 0, []), (92, .iload 5, 2, 0, 0, []), (94, .invokevirtual 57, 3, 1, 0, []), (97, .aload_n 0, 1, 0, 0, []), (98, .invokevirtual 61, 3, 2, 0, []), (101, .aload_n 0, 1, 0, 0, []), (102, .getfield 10, 3, 6, 0, []), (105, .invokevirtual 68, 3, 3, 0, []), (108, .ireturn, 1, 0, 0, [])], (0, []))
def bl_X6_begin : List (Nat × pm_B) := [(0, bk_X6_begin_0), (31, bk_X6_begin_31), (32, bk_X6_begin_32), (57, bk_X6_begin_57), (58, bk_X6_begin_58), (80, bk_X6_begin_80), (83, bk_X6_begin_83)]
def cs_X6_begin : List (Bool × Nat) := [(true, 64), (false, 57), (false, 61), (false, 68)]
theorem ck_X6_begin : pm_ckB yX6_begin.cls cX6_begin 8 cs_X6_begin bl_X6_begin = true := by decide +kernel
def bk_X6_lay_0 : pm_B := ([(0, .aload_n 0, 1, 0, 0, []), (1, .iload_n 1, 1, 0, 0, []), (2, .invokevirtual 72, 3, 0, 0, []), (5, .ifCond .eq 15, 3, 0, 0, [(20, [])]), (8, .aload_n 0, 1, 0, 0, []), (9, .getfield 10, 3, 6, 0, []), (12, .iload_n 2, 1, 0, 0, []), (13, .iload_n 3, 1, 0, 0, []), (14, .invokevirtual 76, 3, 1, 0, []), (17, .ifCond .ne 6, 3, 0, 0, [(23, [0, 1, 2, 3])])], (20, []))
def bk_X6_lay_20 : pm_B := ([(20, .bipush (-2), 2, 2, 1, []), (22, .ireturn, 1, 0, 0, [])], (0, []))
def bk_X6_lay_23 : pm_B := ([(23, .aload_n 0, 1, 0, 0, []), (24, .getfield 10, 3, 6, 0, []), (27, .iload_n 2, 1, 0, 0, []), (28, .iload_n 3, 1, 0, 0, []), (29, .invokevirtual 80, 3, 2, 0, []), (32, .istore 4, 2, 0, 0, []), (34, .aload_n 0, 1, 0, 0, []), (35, .getfield 84, 3, 6, 7, []), (38, .iconst 1, 1, 1, 0, []), (39, .iload 4, 2, 0, 0, []), (41, .ishl, 1, 0, 0, []), (42, .iand, 1, 0, 0, []), (43, .ifCond .eq 6, 3, 0, 0, [(49, [0, 1, 4])]), (46, .bipush (-3), 2, 3, 1, []), (48, .ireturn, 1, 0, 0, [])], (0, []))
def bk_X6_lay_49 : pm_B := ([(49, .aload_n 0, 1, 0, 0, []), (50, .getfield 21, 3, 6, 1, []), (53, .iload_n 1, 1, 0, 0, []), (54, .iload 4, 2, 0, 0, []), (56, .invokevirtual 88, 3, 3, 0, []), (59, .aload_n 0, 1, 0, 0, []), (60, .dup, 1, 0, 0, []), (61, .getfield 84, 3, 6, 7, []), (64, .iconst 1, 1, 1, 0, []), (65, .iload 4, 2, 0, 0, []), (67, .ishl, 1, 0, 0, []), (68, .ior, 1, 0, 0, []), (69, .putfield 84, 3, 6, 7, []), (72, .aload_n 0, 1, 0, 0, []), (73, .getfield 28, 3, 6, 2, []), (76, .aload_n 0, 1, 0, 0, []), (77, .getfield 21, 3, 6, 1, []), (80, .invokevirtual 92, 3, 4, 0, []), (83, .aload_n 0, 1, 0, 0, []), (84, .getfield 84, 3, 6, 7, []), (87, .invokestatic 96, 3, 5, 0, []), (90, .ireturn, 1, 0, 0, [])], (0, []))
def bl_X6_lay : List (Nat × pm_B) := [(0, bk_X6_lay_0), (20, bk_X6_lay_20), (23, bk_X6_lay_23), (49, bk_X6_lay_49)]
def cs_X6_lay : List (Bool × Nat) := [(false, 72), (false, 76), (false, 80), (false, 88), (false, 92), (true, 96)]
theorem ck_X6_lay : pm_ckB yX6_lay.cls cX6_lay 5 cs_X6_lay bl_X6_lay = true := by decide +kernel
def bk_X6_make_0 : pm_B := ([(0, .aload_n 0, 1, 0, 0, []), (1, .invokevirtual 61, 3, 0, 0, []), (4, .iload_n 1, 1, 0, 0, []), (5, .istore_n 2, 1, 0, 0, []), (6, .iconst 1, 1, 1, 0, []), (7, .istore_n 3, 1, 0, 0, [])], (8, [0, 2, 3]))
def bk_X6_make_8 : pm_B := ([(8, .iload_n 3, 1, 0, 0, []), (9, .aload_n 0, 1, 0, 0, []), (10, .getfield 10, 3, 6, 0, []), (13, .getfield 102, 3, 0, 4, []), (16, .if_icmp .gt 91, 3, 0, 0, [(107, [0])]), (19, .iconst 0, 1, 0, 0, []), (20, .istore 4, 2, 0, 0, [])], (22, [0, 2, 3, 4]))
def bk_X6_make_22 : pm_B := ([(22, .iload 4, 2, 0, 0, []), (24, .aload_n 0, 1, 0, 0, []), (25, .getfield 10, 3, 6, 0, []), (28, .getfield 105, 3, 0, 3, []), (31, .if_icmp .ge 70, 3, 0, 0, [(101, [0, 2, 3])]), (34, .iload_n 2, 1, 0, 0, []), (35, .ldc 108, 2, 1103515245, 0, []), (37, .imul, 1, 0, 0, []), (38, .sipush 12345, 3, 12345, 0, []), (41, .iadd, 1, 0, 0, []), (42, .istore_n 2, 1, 0, 0, []), (43, .aload_n 0, 1, 0, 0, []), (44, .getfield 10, 3, 6, 0, []), (47, .iload 4, 2, 0, 0, []), (49, .iload_n 3, 1, 0, 0, []), (50, .invokevirtual 80, 3, 1, 0, []), (53, .istore 5, 2, 0, 0, []), (55, .aload_n 0, 1, 0, 0, []), (56, .getfield 21, 3, 6, 1, []), (59, .iload_n 2, 1, 0, 0, []), (60, .bipush 16, 2, 16, 0, []), (62, .iushr, 1, 0, 0, []), (63, .aload_n 0, 1, 0, 0, []), (64, .getfield 10, 3, 6, 0, []), (67, .getfield 109, 3, 0, 5, []), (70, .irem, 1, 0, 0, []), (71, .iload 5, 2, 0, 0, []), (73, .iload_n 2, 1, 0, 0, []), (74, .bipush 8, 2, 8, 0, []), (76, .iushr, 1, 0, 0, []), (77, .iconst 3, 1, 3, 0, []), (78, .iand, 1, 0, 0, []), (79, .invokevirtual 112, 3, 2, 0, []), (82, .aload_n 0, 1, 0, 0, []), (83, .dup, 1, 0, 0, []), (84, .getfield 84, 3, 6, 7, []), (87, .iconst 1, 1, 1, 0, []), (88, .iload 5, 2, 0, 0, []), (90, .ishl, 1, 0, 0, []), (91, .ior, 1, 0, 0, []), (92, .putfield 84, 3, 6, 7, []), (95, .iinc 4 1, 3, 1, 0, []), (98, .goto (-76), 3, 0, 0, [(22, [0, 2, 3, 4])])], (0, []))
def bk_X6_make_101 : pm_B := ([(101, .iinc 3 1, 3, 1, 0, []), (104, .goto (-96), 3, 0, 0, [(8, [0, 2, 3])])], (0, []))
def bk_X6_make_107 : pm_B := ([(107, .aload_n 0, 1, 0, 0, []), (108, .getfield 28, 3, 6, 2, []), (111, .aload_n 0, 1, 0, 0, []), (112, .getfield 21, 3, 6, 1, []), (115, .invokevirtual 92, 3, 3, 0, []), (118, .aload_n 0, 1, 0, 0, []), (119, .getfield 10, 3, 6, 0, []), (122, .invokevirtual 68, 3, 4, 0, []), (125, .ireturn, 1, 0, 0, [])], (0, []))
def bl_X6_make : List (Nat × pm_B) := [(0, bk_X6_make_0), (8, bk_X6_make_8), (22, bk_X6_make_22), (101, bk_X6_make_101), (107, bk_X6_make_107)]
def cs_X6_make : List (Bool × Nat) := [(false, 61), (false, 80), (false, 112), (false, 92), (false, 68)]
theorem ck_X6_make : pm_ckB yX6_make.cls cX6_make 6 cs_X6_make bl_X6_make = true := by decide +kernel
def bk_X6_move_0 : pm_B := ([(0, .aload_n 0, 1, 0, 0, []), (1, .getfield 21, 3, 6, 1, []), (4, .iload_n 1, 1, 0, 0, []), (5, .iload_n 2, 1, 0, 0, []), (6, .invokevirtual 116, 3, 0, 0, []), (9, .ifCond .ne 6, 3, 0, 0, [(15, [0, 1, 2])]), (12, .bipush (-2), 2, 2, 1, []), (14, .ireturn, 1, 0, 0, [])], (0, []))
def bk_X6_move_15 : pm_B := ([(15, .aload_n 0, 1, 0, 0, []), (16, .invokevirtual 119, 3, 1, 0, []), (19, .ifCond .ne 6, 3, 0, 0, [(25, [0, 1, 2])]), (22, .bipush (-3), 2, 3, 1, []), (24, .ireturn, 1, 0, 0, [])], (0, []))
def bk_X6_move_25 : pm_B := ([(25, .aload_n 0, 1, 0, 0, []), (26, .aload_n 0, 1, 0, 0, []), (27, .getfield 21, 3, 6, 1, []), (30, .iload_n 1, 1, 0, 0, []), (31, .iload_n 2, 1, 0, 0, []), (32, .invokevirtual 123, 3, 2, 0, []), (35, .putfield 126, 3, 6, 8, []), (38, .aload_n 0, 1, 0, 0, []), (39, .getfield 126, 3, 6, 8, []), (42, .ifCond .eq 5, 3, 0, 0, [(47, [0, 1, 2])]), (45, .iconst 0, 1, 0, 0, []), (46, .ireturn, 1, 0, 0, [])], (0, []))
def bk_X6_move_47 : pm_B := ([(47, .aload_n 0, 1, 0, 0, []), (48, .getfield 21, 3, 6, 1, []), (51, .iload_n 1, 1, 0, 0, []), (52, .iload_n 2, 1, 0, 0, []), (53, .invokevirtual 129, 3, 3, 0, []), (56, .pop, 1, 0, 0, []), (57, .aload_n 0, 1, 0, 0, []), (58, .getfield 28, 3, 6, 2, []), (61, .aload_n 0, 1, 0, 0, []), (62, .getfield 21, 3, 6, 1, []), (65, .invokevirtual 132, 3, 4, 0, []), (68, .iconst 1, 1, 1, 0, []), (69, .ireturn, 1, 0, 0, [])], (0, []))
def bl_X6_move : List (Nat × pm_B) := [(0, bk_X6_move_0), (15, bk_X6_move_15), (25, bk_X6_move_25), (47, bk_X6_move_47)]
def cs_X6_move : List (Bool × Nat) := [(false, 116), (false, 119), (false, 123), (false, 129), (false, 132)]
theorem ck_X6_move : pm_ckB yX6_move.cls cX6_move 3 cs_X6_move bl_X6_move = true := by decide +kernel
def bk_X6_why_0 : pm_B := ([(0, .aload_n 0, 1, 0, 0, []), (1, .getfield 126, 3, 6, 8, []), (4, .ireturn, 1, 0, 0, [])], (0, []))
def bl_X6_why : List (Nat × pm_B) := [(0, bk_X6_why_0)]
def cs_X6_why : List (Bool × Nat) := []
theorem ck_X6_why : pm_ckB yX6_why.cls cX6_why 1 cs_X6_why bl_X6_why = true := by decide +kernel
def bk_X6_carry_0 : pm_B := ([(0, .aload_n 0, 1, 0, 0, []), (1, .iload_n 1, 1, 0, 0, []), (2, .invokevirtual 72, 3, 0, 0, []), (5, .ifCond .eq 21, 3, 0, 0, [(26, [])]), (8, .aload_n 0, 1, 0, 0, []), (9, .iload_n 2, 1, 0, 0, []), (10, .invokevirtual 72, 3, 0, 0, []), (13, .ifCond .eq 13, 3, 0, 0, [(26, [])]), (16, .iload_n 1, 1, 0, 0, []), (17, .iload_n 2, 1, 0, 0, []), (18, .if_icmp .eq 8, 3, 0, 0, [(26, [])]), (21, .iload_n 3, 1, 0, 0, []), (22, .iconst 1, 1, 1, 0, []), (23, .if_icmp .ge 6, 3, 0, 0, [(29, [0, 1, 2, 3])])], (26, []))
def bk_X6_carry_26 : pm_B := ([(26, .bipush (-2), 2, 2, 1, []), (28, .ireturn, 1, 0, 0, [])], (0, []))
def bk_X6_carry_29 : pm_B := ([(29, .aload_n 0, 1, 0, 0, []), (30, .invokevirtual 119, 3, 1, 0, []), (33, .ifCond .ne 6, 3, 0, 0, [(39, [0, 1, 2, 3])]), (36, .bipush (-3), 2, 3, 1, []), (38, .ireturn, 1, 0, 0, [])], (0, []))
def bk_X6_carry_39 : pm_B := ([(39, .aload_n 0, 1, 0, 0, []), (40, .getfield 21, 3, 6, 1, []), (43, .iload_n 1, 1, 0, 0, []), (44, .iload_n 2, 1, 0, 0, []), (45, .iload_n 3, 1, 0, 0, []), (46, .invokevirtual 135, 3, 2, 0, []), (49, .ifCond .ne 5, 3, 0, 0, [(54, [0, 1, 2, 3])]), (52, .iconst 0, 1, 0, 0, []), (53, .ireturn, 1, 0, 0, [])], (0, []))
def bk_X6_carry_54 : pm_B := ([(54, .aload_n 0, 1, 0, 0, []), (55, .getfield 21, 3, 6, 1, []), (58, .iload_n 1, 1, 0, 0, []), (59, .iload_n 2, 1, 0, 0, []), (60, .iload_n 3, 1, 0, 0, []), (61, .invokevirtual 138, 3, 3, 0, []), (64, .aload_n 0, 1, 0, 0, []), (65, .getfield 28, 3, 6, 2, []), (68, .aload_n 0, 1, 0, 0, []), (69, .getfield 21, 3, 6, 1, []), (72, .invokevirtual 132, 3, 4, 0, []), (75, .iconst 1, 1, 1, 0, []), (76, .ireturn, 1, 0, 0, [])], (0, []))
def bl_X6_carry : List (Nat × pm_B) := [(0, bk_X6_carry_0), (26, bk_X6_carry_26), (29, bk_X6_carry_29), (39, bk_X6_carry_39), (54, bk_X6_carry_54)]
def cs_X6_carry : List (Bool × Nat) := [(false, 72), (false, 119), (false, 135), (false, 138), (false, 132)]
theorem ck_X6_carry : pm_ckB yX6_carry.cls cX6_carry 4 cs_X6_carry bl_X6_carry = true := by decide +kernel
def bk_X6_auto_0 : pm_B := ([(0, .aload_n 0, 1, 0, 0, []), (1, .invokevirtual 119, 3, 0, 0, []), (4, .ifCond .ne 6, 3, 0, 0, [(10, [0])]), (7, .bipush (-3), 2, 3, 1, []), (9, .ireturn, 1, 0, 0, [])], (0, []))
def bk_X6_auto_10 : pm_B := ([(10, .iconst 0, 1, 0, 0, []), (11, .istore_n 1, 1, 0, 0, [])], (12, [0, 1]))
def bk_X6_auto_12 : pm_B := ([(12, .iload_n 1, 1, 0, 0, []), (13, .bipush 12, 2, 12, 0, []), (15, .if_icmp .ge 19, 3, 0, 0, [(34, [0, 1])]), (18, .aload_n 0, 1, 0, 0, []), (19, .getfield 21, 3, 6, 1, []), (22, .invokevirtual 141, 3, 1, 0, []), (25, .ifCond .eq 9, 3, 0, 0, [(34, [0, 1])]), (28, .iinc 1 1, 3, 1, 0, []), (31, .goto (-19), 3, 0, 0, [(12, [0, 1])])], (0, []))
def bk_X6_auto_34 : pm_B := ([(34, .iload_n 1, 1, 0, 0, []), (35, .ifCond .le 14, 3, 0, 0, [(49, [1])]), (38, .aload_n 0, 1, 0, 0, []), (39, .getfield 28, 3, 6, 2, []), (42, .aload_n 0, 1, 0, 0, []), (43, .getfield 21, 3, 6, 1, []), (46, .invokevirtual 132, 3, 2, 0, [])], (49, [1]))
def bk_X6_auto_49 : pm_B := ([(49, .iload_n 1, 1, 0, 0, []), (50, .ireturn, 1, 0, 0, [])], (0, []))
def bl_X6_auto : List (Nat × pm_B) := [(0, bk_X6_auto_0), (10, bk_X6_auto_10), (12, bk_X6_auto_12), (34, bk_X6_auto_34), (49, bk_X6_auto_49)]
def cs_X6_auto : List (Bool × Nat) := [(false, 119), (false, 141), (false, 132)]
theorem ck_X6_auto : pm_ckB yX6_auto.cls cX6_auto 2 cs_X6_auto bl_X6_auto = true := by decide +kernel
def bk_X6_undo_0 : pm_B := ([(0, .aload_n 0, 1, 0, 0, []), (1, .getfield 28, 3, 6, 2, []), (4, .aload_n 0, 1, 0, 0, []), (5, .getfield 21, 3, 6, 1, []), (8, .invokevirtual 144, 3, 0, 0, []), (11, .ifCond .eq 7, 3, 0, 0, [(18, [])]), (14, .iconst 1, 1, 1, 0, []), (15, .goto 4, 3, 0, 0, [(19, [])])], (0, []))
def bk_X6_undo_18 : pm_B := ([(18, .iconst (-1), 1, 1, 1, [])], (19, []))
def bk_X6_undo_19 : pm_B := ([(19, .ireturn, 1, 0, 0, [])], (0, []))
def bl_X6_undo : List (Nat × pm_B) := [(0, bk_X6_undo_0), (18, bk_X6_undo_18), (19, bk_X6_undo_19)]
def cs_X6_undo : List (Bool × Nat) := [(false, 144)]
theorem ck_X6_undo : pm_ckB yX6_undo.cls cX6_undo 1 cs_X6_undo bl_X6_undo = true := by decide +kernel
def bk_X6_redo_0 : pm_B := ([(0, .aload_n 0, 1, 0, 0, []), (1, .getfield 28, 3, 6, 2, []), (4, .aload_n 0, 1, 0, 0, []), (5, .getfield 21, 3, 6, 1, []), (8, .invokevirtual 148, 3, 0, 0, []), (11, .ifCond .eq 7, 3, 0, 0, [(18, [])]), (14, .iconst 1, 1, 1, 0, []), (15, .goto 4, 3, 0, 0, [(19, [])])], (0, []))
def bk_X6_redo_18 : pm_B := ([(18, .iconst (-1), 1, 1, 1, [])], (19, []))
def bk_X6_redo_19 : pm_B := ([(19, .ireturn, 1, 0, 0, [])], (0, []))
def bl_X6_redo : List (Nat × pm_B) := [(0, bk_X6_redo_0), (18, bk_X6_redo_18), (19, bk_X6_redo_19)]
def cs_X6_redo : List (Bool × Nat) := [(false, 148)]
theorem ck_X6_redo : pm_ckB yX6_redo.cls cX6_redo 1 cs_X6_redo bl_X6_redo = true := by decide +kernel
def bk_X6_count_0 : pm_B := ([(0, .iload_n 1, 1, 0, 0, []), (1, .tableswitch 202 0 13 #[71, 79, 87, 95, 103, 111, 119, 138, 146, 162, 170, 178, 186, 194], 71, 0, 0, [(203, []), (72, [0]), (80, [0]), (88, [0]), (96, [0]), (104, [0]), (112, [0]), (120, [0]), (139, [0]), (147, [0]), (163, [0]), (171, [0]), (179, [0]), (187, [0]), (195, [0])])], (0, []))
def bk_X6_count_72 : pm_B := ([(72, .aload_n 0, 1, 0, 0, []), (73, .getfield 10, 3, 6, 0, []), (76, .invokevirtual 68, 3, 0, 0, []), (79, .ireturn, 1, 0, 0, [])], (0, []))
def bk_X6_count_80 : pm_B := ([(80, .aload_n 0, 1, 0, 0, []), (81, .getfield 84, 3, 6, 7, []), (84, .invokestatic 96, 3, 1, 0, []), (87, .ireturn, 1, 0, 0, [])], (0, []))
def bk_X6_count_88 : pm_B := ([(88, .aload_n 0, 1, 0, 0, []), (89, .getfield 21, 3, 6, 1, []), (92, .invokevirtual 151, 3, 2, 0, []), (95, .ireturn, 1, 0, 0, [])], (0, []))
def bk_X6_count_96 : pm_B := ([(96, .aload_n 0, 1, 0, 0, []), (97, .getfield 21, 3, 6, 1, []), (100, .invokevirtual 154, 3, 3, 0, []), (103, .ireturn, 1, 0, 0, [])], (0, []))
def bk_X6_count_104 : pm_B := ([(104, .aload_n 0, 1, 0, 0, []), (105, .getfield 21, 3, 6, 1, []), (108, .invokevirtual 157, 3, 4, 0, []), (111, .ireturn, 1, 0, 0, [])], (0, []))
def bk_X6_count_112 : pm_B := ([(112, .aload_n 0, 1, 0, 0, []), (113, .getfield 21, 3, 6, 1, []), (116, .invokevirtual 160, 3, 5, 0, []), (119, .ireturn, 1, 0, 0, [])], (0, []))
def bk_X6_count_120 : pm_B := ([(120, .aload_n 0, 1, 0, 0, []), (121, .invokevirtual 119, 3, 6, 0, []), (124, .ifCond .eq 13, 3, 0, 0, [(137, [])]), (127, .aload_n 0, 1, 0, 0, []), (128, .getfield 21, 3, 6, 1, []), (131, .invokevirtual 163, 3, 7, 0, []), (134, .goto 4, 3, 0, 0, [(138, [])])], (0, []))
def bk_X6_count_137 : pm_B := ([(137, .iconst 0, 1, 0, 0, [])], (138, []))
def bk_X6_count_138 : pm_B := ([(138, .ireturn, 1, 0, 0, [])], (0, []))
def bk_X6_count_139 : pm_B := ([(139, .aload_n 0, 1, 0, 0, []), (140, .getfield 28, 3, 6, 2, []), (143, .invokevirtual 166, 3, 8, 0, []), (146, .ireturn, 1, 0, 0, [])], (0, []))
def bk_X6_count_147 : pm_B := ([(147, .aload_n 0, 1, 0, 0, []), (148, .getfield 21, 3, 6, 1, []), (151, .invokevirtual 169, 3, 9, 0, []), (154, .ifCond .eq 7, 3, 0, 0, [(161, [])]), (157, .iconst 1, 1, 1, 0, []), (158, .goto 4, 3, 0, 0, [(162, [])])], (0, []))
def bk_X6_count_161 : pm_B := ([(161, .iconst 0, 1, 0, 0, [])], (162, []))
def bk_X6_count_162 : pm_B := ([(162, .ireturn, 1, 0, 0, [])], (0, []))
def bk_X6_count_163 : pm_B := ([(163, .aload_n 0, 1, 0, 0, []), (164, .getfield 10, 3, 6, 0, []), (167, .getfield 105, 3, 0, 3, []), (170, .ireturn, 1, 0, 0, [])], (0, []))
def bk_X6_count_171 : pm_B := ([(171, .aload_n 0, 1, 0, 0, []), (172, .getfield 10, 3, 6, 0, []), (175, .getfield 102, 3, 0, 4, []), (178, .ireturn, 1, 0, 0, [])], (0, []))
def bk_X6_count_179 : pm_B := ([(179, .aload_n 0, 1, 0, 0, []), (180, .getfield 10, 3, 6, 0, []), (183, .getfield 109, 3, 0, 5, []), (186, .ireturn, 1, 0, 0, [])], (0, []))
def bk_X6_count_187 : pm_B := ([(187, .aload_n 0, 1, 0, 0, []), (188, .getfield 10, 3, 6, 0, []), (191, .getfield 172, 3, 0, 6, []), (194, .ireturn, 1, 0, 0, [])], (0, []))
def bk_X6_count_195 : pm_B := ([(195, .aload_n 0, 1, 0, 0, []), (196, .getfield 10, 3, 6, 0, []), (199, .getfield 175, 3, 0, 7, []), (202, .ireturn, 1, 0, 0, [])], (0, []))
def bk_X6_count_203 : pm_B := ([(203, .bipush (-2), 2, 2, 1, []), (205, .ireturn, 1, 0, 0, [])], (0, []))
def bl_X6_count : List (Nat × pm_B) := [(0, bk_X6_count_0), (72, bk_X6_count_72), (80, bk_X6_count_80), (88, bk_X6_count_88), (96, bk_X6_count_96), (104, bk_X6_count_104), (112, bk_X6_count_112), (120, bk_X6_count_120), (137, bk_X6_count_137), (138, bk_X6_count_138), (139, bk_X6_count_139), (147, bk_X6_count_147), (161, bk_X6_count_161), (162, bk_X6_count_162), (163, bk_X6_count_163), (171, bk_X6_count_171), (179, bk_X6_count_179), (187, bk_X6_count_187), (195, bk_X6_count_195), (203, bk_X6_count_203)]
def cs_X6_count : List (Bool × Nat) := [(false, 68), (true, 96), (false, 151), (false, 154), (false, 157), (false, 160), (false, 119), (false, 163), (false, 166), (false, 169)]
theorem ck_X6_count : pm_ckB yX6_count.cls cX6_count 2 cs_X6_count bl_X6_count = true := by decide +kernel
def bk_X6_card_0 : pm_B := ([(0, .aload_n 0, 1, 0, 0, []), (1, .iload_n 1, 1, 0, 0, []), (2, .invokevirtual 72, 3, 0, 0, []), (5, .ifCond .ne 6, 3, 0, 0, [(11, [0, 1, 2])]), (8, .bipush (-2), 2, 2, 1, []), (10, .ireturn, 1, 0, 0, [])], (0, []))
def bk_X6_card_11 : pm_B := ([(11, .aload_n 0, 1, 0, 0, []), (12, .getfield 10, 3, 6, 0, []), (15, .aload_n 0, 1, 0, 0, []), (16, .getfield 21, 3, 6, 1, []), (19, .iload_n 1, 1, 0, 0, []), (20, .iload_n 2, 1, 0, 0, []), (21, .invokevirtual 178, 3, 1, 0, []), (24, .invokevirtual 181, 3, 2, 0, []), (27, .ireturn, 1, 0, 0, [])], (0, []))
def bl_X6_card : List (Nat × pm_B) := [(0, bk_X6_card_0), (11, bk_X6_card_11)]
def cs_X6_card : List (Bool × Nat) := [(false, 72), (false, 178), (false, 181)]
theorem ck_X6_card : pm_ckB yX6_card.cls cX6_card 3 cs_X6_card bl_X6_card = true := by decide +kernel
def bk_X6_cell_0 : pm_B := ([(0, .iload_n 1, 1, 0, 0, []), (1, .iconst 0, 1, 0, 0, []), (2, .aload_n 0, 1, 0, 0, []), (3, .getfield 10, 3, 6, 0, []), (6, .getfield 172, 3, 0, 6, []), (9, .iconst 1, 1, 1, 0, []), (10, .isub, 1, 0, 0, []), (11, .invokestatic 64, 3, 0, 0, []), (14, .ifCond .ne 6, 3, 0, 0, [(20, [0, 1])]), (17, .bipush (-2), 2, 2, 1, []), (19, .ireturn, 1, 0, 0, [])], (0, []))
def bk_X6_cell_20 : pm_B := ([(20, .aload_n 0, 1, 0, 0, []), (21, .getfield 10, 3, 6, 0, []), (24, .aload_n 0, 1, 0, 0, []), (25, .getfield 21, 3, 6, 1, []), (28, .getfield 184, 3, 4, 3, []), (31, .iload_n 1, 1, 0, 0, []), (32, .iaload, 1, 0, 0, []), (33, .invokevirtual 181, 3, 1, 0, []), (36, .ireturn, 1, 0, 0, [])], (0, []))
def bl_X6_cell : List (Nat × pm_B) := [(0, bk_X6_cell_0), (20, bk_X6_cell_20)]
def cs_X6_cell : List (Bool × Nat) := [(true, 64), (false, 181)]
theorem ck_X6_cell : pm_ckB yX6_cell.cls cX6_cell 2 cs_X6_cell bl_X6_cell = true := by decide +kernel
def bk_X6_house_0 : pm_B := ([(0, .iload_n 1, 1, 0, 0, []), (1, .iconst 0, 1, 0, 0, []), (2, .aload_n 0, 1, 0, 0, []), (3, .getfield 10, 3, 6, 0, []), (6, .getfield 105, 3, 0, 3, []), (9, .iconst 1, 1, 1, 0, []), (10, .isub, 1, 0, 0, []), (11, .invokestatic 64, 3, 0, 0, []), (14, .ifCond .ne 6, 3, 0, 0, [(20, [0, 1])]), (17, .bipush (-2), 2, 2, 1, []), (19, .ireturn, 1, 0, 0, [])], (0, []))
def bk_X6_house_20 : pm_B := ([(20, .aload_n 0, 1, 0, 0, []), (21, .getfield 21, 3, 6, 1, []), (24, .getfield 187, 3, 4, 4, []), (27, .iload_n 1, 1, 0, 0, []), (28, .iaload, 1, 0, 0, []), (29, .ireturn, 1, 0, 0, [])], (0, []))
def bl_X6_house : List (Nat × pm_B) := [(0, bk_X6_house_0), (20, bk_X6_house_20)]
def cs_X6_house : List (Bool × Nat) := [(true, 64)]
theorem ck_X6_house : pm_ckB yX6_house.cls cX6_house 2 cs_X6_house bl_X6_house = true := by decide +kernel
def bk_X6_lets_0 : pm_B := ([(0, .aload_n 0, 1, 0, 0, []), (1, .getfield 10, 3, 6, 0, []), (4, .iload_n 1, 1, 0, 0, []), (5, .invokevirtual 190, 3, 0, 0, []), (8, .ifCond .eq 18, 3, 0, 0, [(26, [])]), (11, .iload_n 2, 1, 0, 0, []), (12, .ifCond .eq 17, 3, 0, 0, [(29, [0, 1, 2])]), (15, .aload_n 0, 1, 0, 0, []), (16, .getfield 10, 3, 6, 0, []), (19, .iload_n 2, 1, 0, 0, []), (20, .invokevirtual 190, 3, 0, 0, []), (23, .ifCond .ne 6, 3, 0, 0, [(29, [0, 1, 2])])], (26, []))
def bk_X6_lets_26 : pm_B := ([(26, .bipush (-2), 2, 2, 1, []), (28, .ireturn, 1, 0, 0, [])], (0, []))
def bk_X6_lets_29 : pm_B := ([(29, .iload_n 2, 1, 0, 0, []), (30, .ifCond .ne 7, 3, 0, 0, [(37, [0, 1, 2])]), (33, .iconst 0, 1, 0, 0, []), (34, .goto 11, 3, 0, 0, [(45, [0, 1])])], (0, []))
def bk_X6_lets_37 : pm_B := ([(37, .aload_n 0, 1, 0, 0, []), (38, .getfield 10, 3, 6, 0, []), (41, .iload_n 2, 1, 0, 0, []), (42, .invokevirtual 193, 3, 1, 0, [])], (45, [0, 1]))
def bk_X6_lets_45 : pm_B := ([(45, .istore_n 3, 1, 0, 0, []), (46, .aload_n 0, 1, 0, 0, []), (47, .getfield 10, 3, 6, 0, []), (50, .aload_n 0, 1, 0, 0, []), (51, .getfield 10, 3, 6, 0, []), (54, .iload_n 1, 1, 0, 0, []), (55, .invokevirtual 193, 3, 1, 0, []), (58, .iload_n 3, 1, 0, 0, []), (59, .invokevirtual 196, 3, 2, 0, []), (62, .ifCond .eq 7, 3, 0, 0, [(69, [])]), (65, .iconst 1, 1, 1, 0, []), (66, .goto 4, 3, 0, 0, [(70, [])])], (0, []))
def bk_X6_lets_69 : pm_B := ([(69, .iconst 0, 1, 0, 0, [])], (70, []))
def bk_X6_lets_70 : pm_B := ([(70, .ireturn, 1, 0, 0, [])], (0, []))
def bl_X6_lets : List (Nat × pm_B) := [(0, bk_X6_lets_0), (26, bk_X6_lets_26), (29, bk_X6_lets_29), (37, bk_X6_lets_37), (45, bk_X6_lets_45), (69, bk_X6_lets_69), (70, bk_X6_lets_70)]
def cs_X6_lets : List (Bool × Nat) := [(false, 190), (false, 193), (false, 196)]
theorem ck_X6_lets : pm_ckB yX6_lets.cls cX6_lets 4 cs_X6_lets bl_X6_lets = true := by decide +kernel
def bk_X6_solve_0 : pm_B := ([(0, .iload_n 1, 1, 0, 0, []), (1, .iconst 1, 1, 1, 0, []), (2, .sipush 4000, 3, 4000, 0, []), (5, .invokestatic 64, 3, 0, 0, []), (8, .ifCond .ne 6, 3, 0, 0, [(14, [0, 1])]), (11, .bipush (-2), 2, 2, 1, []), (13, .ireturn, 1, 0, 0, [])], (0, []))
def bk_X6_solve_14 : pm_B := ([(14, .aload_n 0, 1, 0, 0, []), (15, .invokevirtual 119, 3, 1, 0, []), (18, .ifCond .ne 6, 3, 0, 0, [(24, [0, 1])]), (21, .bipush (-4), 2, 4, 1, []), (23, .ireturn, 1, 0, 0, [])], (0, []))
def bk_X6_solve_24 : pm_B := ([(24, .aload_n 0, 1, 0, 0, []), (25, .getfield 45, 3, 6, 5, []), (28, .aload_n 0, 1, 0, 0, []), (29, .getfield 21, 3, 6, 1, []), (32, .aload_n 0, 1, 0, 0, []), (33, .getfield 10, 3, 6, 0, []), (36, .getfield 172, 3, 0, 6, []), (39, .iload_n 1, 1, 0, 0, []), (40, .invokevirtual 199, 3, 2, 0, []), (43, .istore_n 2, 1, 0, 0, []), (44, .iload_n 2, 1, 0, 0, []), (45, .ifCond .lt 15, 3, 0, 0, [(60, [2])]), (48, .aload_n 0, 1, 0, 0, []), (49, .getfield 45, 3, 6, 5, []), (52, .aload_n 0, 1, 0, 0, []), (53, .getfield 52, 3, 6, 6, []), (56, .iload_n 2, 1, 0, 0, []), (57, .invokevirtual 203, 3, 3, 0, [])], (60, [2]))
def bk_X6_solve_60 : pm_B := ([(60, .iload_n 2, 1, 0, 0, []), (61, .ireturn, 1, 0, 0, [])], (0, []))
def bl_X6_solve : List (Nat × pm_B) := [(0, bk_X6_solve_0), (14, bk_X6_solve_14), (24, bk_X6_solve_24), (60, bk_X6_solve_60)]
def cs_X6_solve : List (Bool × Nat) := [(true, 64), (false, 119), (false, 199), (false, 203)]
theorem ck_X6_solve : pm_ckB yX6_solve.cls cX6_solve 3 cs_X6_solve bl_X6_solve = true := by decide +kernel
def bk_X6_plan_0 : pm_B := ([(0, .iload_n 2, 1, 0, 0, []), (1, .iconst 0, 1, 0, 0, []), (2, .iconst 1, 1, 1, 0, []), (3, .invokestatic 64, 3, 0, 0, []), (6, .ifCond .ne 6, 3, 0, 0, [(12, [0, 1, 2])]), (9, .bipush (-2), 2, 2, 1, []), (11, .ireturn, 1, 0, 0, [])], (0, []))
def bk_X6_plan_12 : pm_B := ([(12, .iload_n 1, 1, 0, 0, []), (13, .iconst 0, 1, 0, 0, []), (14, .aload_n 0, 1, 0, 0, []), (15, .getfield 52, 3, 6, 6, []), (18, .getfield 207, 3, 2, 1, []), (21, .iconst 1, 1, 1, 0, []), (22, .isub, 1, 0, 0, []), (23, .invokestatic 64, 3, 0, 0, []), (26, .ifCond .ne 5, 3, 0, 0, [(31, [0, 1, 2])]), (29, .iconst (-1), 1, 1, 1, []), (30, .ireturn, 1, 0, 0, [])], (0, []))
def bk_X6_plan_31 : pm_B := ([(31, .iload_n 2, 1, 0, 0, []), (32, .ifCond .ne 14, 3, 0, 0, [(46, [0, 1])]), (35, .aload_n 0, 1, 0, 0, []), (36, .getfield 52, 3, 6, 6, []), (39, .iload_n 1, 1, 0, 0, []), (40, .invokevirtual 209, 3, 1, 0, []), (43, .goto 11, 3, 0, 0, [(54, [])])], (0, []))
def bk_X6_plan_46 : pm_B := ([(46, .aload_n 0, 1, 0, 0, []), (47, .getfield 52, 3, 6, 6, []), (50, .iload_n 1, 1, 0, 0, []), (51, .invokevirtual 212, 3, 2, 0, [])], (54, []))
def bk_X6_plan_54 : pm_B := ([(54, .ireturn, 1, 0, 0, [])], (0, []))
def bl_X6_plan : List (Nat × pm_B) := [(0, bk_X6_plan_0), (12, bk_X6_plan_12), (31, bk_X6_plan_31), (46, bk_X6_plan_46), (54, bk_X6_plan_54)]
def cs_X6_plan : List (Bool × Nat) := [(true, 64), (false, 209), (false, 212)]
theorem ck_X6_plan : pm_ckB yX6_plan.cls cX6_plan 3 cs_X6_plan bl_X6_plan = true := by decide +kernel
def bk_X6_needs_0 : pm_B := ([(0, .iload_n 1, 1, 0, 0, []), (1, .iconst 1, 1, 1, 0, []), (2, .sipush 4000, 3, 4000, 0, []), (5, .invokestatic 64, 3, 0, 0, []), (8, .ifCond .ne 6, 3, 0, 0, [(14, [0, 1])]), (11, .bipush (-2), 2, 2, 1, []), (13, .ireturn, 1, 0, 0, [])], (0, []))
def bk_X6_needs_14 : pm_B := ([(14, .aload_n 0, 1, 0, 0, []), (15, .invokevirtual 119, 3, 1, 0, []), (18, .ifCond .eq 20, 3, 0, 0, [(38, [])]), (21, .aload_n 0, 1, 0, 0, []), (22, .getfield 21, 3, 6, 1, []), (25, .invokevirtual 154, 3, 2, 0, []), (28, .aload_n 0, 1, 0, 0, []), (29, .getfield 10, 3, 6, 0, []), (32, .getfield 172, 3, 0, 6, []), (35, .if_icmp .ge 6, 3, 0, 0, [(41, [0, 1])])], (38, []))
def bk_X6_needs_38 : pm_B := ([(38, .bipush (-4), 2, 4, 1, []), (40, .ireturn, 1, 0, 0, [])], (0, []))
def bk_X6_needs_41 : pm_B := ([(41, .iconst 0, 1, 0, 0, []), (42, .istore_n 2, 1, 0, 0, [])], (43, [0, 1, 2]))
def bk_X6_needs_43 : pm_B := ([(43, .iload_n 2, 1, 0, 0, []), (44, .iconst 2, 1, 2, 0, []), (45, .if_icmp .gt 41, 3, 0, 0, [(86, [])]), (48, .aload_n 0, 1, 0, 0, []), (49, .getfield 45, 3, 6, 5, []), (52, .aload_n 0, 1, 0, 0, []), (53, .getfield 21, 3, 6, 1, []), (56, .iload_n 2, 1, 0, 0, []), (57, .iload_n 1, 1, 0, 0, []), (58, .invokevirtual 199, 3, 3, 0, []), (61, .istore_n 3, 1, 0, 0, []), (62, .iload_n 3, 1, 0, 0, []), (63, .iconst (-1), 1, 1, 1, []), (64, .if_icmp .eq 16, 3, 0, 0, [(80, [0, 1, 2])]), (67, .iload_n 3, 1, 0, 0, []), (68, .bipush (-3), 2, 3, 1, []), (70, .if_icmp .ne 8, 3, 0, 0, [(78, [2])]), (73, .bipush (-3), 2, 3, 1, []), (75, .goto 4, 3, 0, 0, [(79, [])])], (0, []))
def bk_X6_needs_78 : pm_B := ([(78, .iload_n 2, 1, 0, 0, [])], (79, []))
def bk_X6_needs_79 : pm_B := ([(79, .ireturn, 1, 0, 0, [])], (0, []))
def bk_X6_needs_80 : pm_B := ([(80, .iinc 2 1, 3, 1, 0, []), (83, .goto (-40), 3, 0, 0, [(43, [0, 1, 2])])], (0, []))
def bk_X6_needs_86 : pm_B := ([(86, .iconst (-1), 1, 1, 1, []), (87, .ireturn, 1, 0, 0, [])], (0, []))
def bl_X6_needs : List (Nat × pm_B) := [(0, bk_X6_needs_0), (14, bk_X6_needs_14), (38, bk_X6_needs_38), (41, bk_X6_needs_41), (43, bk_X6_needs_43), (78, bk_X6_needs_78), (79, bk_X6_needs_79), (80, bk_X6_needs_80), (86, bk_X6_needs_86)]
def cs_X6_needs : List (Bool × Nat) := [(true, 64), (false, 119), (false, 154), (false, 199)]
theorem ck_X6_needs : pm_ckB yX6_needs.cls cX6_needs 4 cs_X6_needs bl_X6_needs = true := by decide +kernel
def bk_X6_form_0 : pm_B := ([(0, .aload_n 0, 1, 0, 0, []), (1, .getfield 21, 3, 6, 1, []), (4, .aload_n 0, 1, 0, 0, []), (5, .getfield 38, 3, 6, 4, []), (8, .invokevirtual 215, 3, 0, 0, []), (11, .istore_n 2, 1, 0, 0, []), (12, .iload_n 1, 1, 0, 0, []), (13, .iconst 0, 1, 0, 0, []), (14, .iload_n 2, 1, 0, 0, []), (15, .iconst 1, 1, 1, 0, []), (16, .isub, 1, 0, 0, []), (17, .invokestatic 64, 3, 1, 0, []), (20, .ifCond .eq 12, 3, 0, 0, [(32, [])]), (23, .aload_n 0, 1, 0, 0, []), (24, .getfield 38, 3, 6, 4, []), (27, .iload_n 1, 1, 0, 0, []), (28, .saload, 1, 0, 0, []), (29, .goto 4, 3, 0, 0, [(33, [])])], (0, []))
def bk_X6_form_32 : pm_B := ([(32, .iconst (-1), 1, 1, 1, [])], (33, []))
def bk_X6_form_33 : pm_B := ([(33, .ireturn, 1, 0, 0, [])], (0, []))
def bl_X6_form : List (Nat × pm_B) := [(0, bk_X6_form_0), (32, bk_X6_form_32), (33, bk_X6_form_33)]
def cs_X6_form : List (Bool × Nat) := [(false, 215), (true, 64)]
theorem ck_X6_form : pm_ckB yX6_form.cls cX6_form 3 cs_X6_form bl_X6_form = true := by decide +kernel
def bk_X6_put_0 : pm_B := ([(0, .iload_n 1, 1, 0, 0, []), (1, .iconst 0, 1, 0, 0, []), (2, .iconst 5, 1, 5, 0, []), (3, .invokestatic 64, 3, 0, 0, []), (6, .ifCond .eq 29, 3, 0, 0, [(35, [0, 1, 2, 3])]), (9, .iload_n 2, 1, 0, 0, []), (10, .iconst 0, 1, 0, 0, []), (11, .iconst 4, 1, 4, 0, []), (12, .invokestatic 64, 3, 0, 0, []), (15, .ifCond .eq 20, 3, 0, 0, [(35, [0, 1, 2, 3])]), (18, .iload_n 2, 1, 0, 0, []), (19, .iconst 2, 1, 2, 0, []), (20, .if_icmp .ne 11, 3, 0, 0, [(31, [0, 1, 2, 3])]), (23, .aload_n 0, 1, 0, 0, []), (24, .iload_n 3, 1, 0, 0, []), (25, .invokevirtual 72, 3, 1, 0, []), (28, .ifCond .eq 7, 3, 0, 0, [(35, [0, 1, 2, 3])])], (31, [0, 1, 2, 3]))
def bk_X6_put_31 : pm_B := ([(31, .iconst 1, 1, 1, 0, []), (32, .goto 4, 3, 0, 0, [(36, [0, 1, 2, 3])])], (0, []))
def bk_X6_put_35 : pm_B := ([(35, .iconst 0, 1, 0, 0, [])], (36, [0, 1, 2, 3]))
def bk_X6_put_36 : pm_B := ([(36, .istore 4, 2, 0, 0, []), (38, .iload 4, 2, 0, 0, []), (40, .ifCond .ne 9, 3, 0, 0, [(49, [0, 1, 2, 3])]), (43, .aload_n 0, 1, 0, 0, []), (44, .iconst 1, 1, 1, 0, []), (45, .invokevirtual 219, 3, 2, 0, []), (48, .ireturn, 1, 0, 0, [])], (0, []))
def bk_X6_put_49 : pm_B := ([(49, .aload_n 0, 1, 0, 0, []), (50, .aload_n 0, 1, 0, 0, []), (51, .getfield 34, 3, 6, 3, []), (54, .iload_n 1, 1, 0, 0, []), (55, .aaload, 1, 0, 0, []), (56, .iload_n 2, 1, 0, 0, []), (57, .iload_n 3, 1, 0, 0, []), (58, .invokevirtual 222, 3, 3, 0, []), (61, .aload_n 0, 1, 0, 0, []), (62, .iconst 0, 1, 0, 0, []), (63, .putfield 226, 3, 6, 9, []), (66, .iconst 1, 1, 1, 0, []), (67, .ireturn, 1, 0, 0, [])], (0, []))
def bl_X6_put : List (Nat × pm_B) := [(0, bk_X6_put_0), (31, bk_X6_put_31), (35, bk_X6_put_35), (36, bk_X6_put_36), (49, bk_X6_put_49)]
def cs_X6_put : List (Bool × Nat) := [(true, 64), (false, 72), (false, 219), (false, 222)]
theorem ck_X6_put : pm_ckB yX6_put.cls cX6_put 5 cs_X6_put bl_X6_put = true := by decide +kernel
def bk_X6_forge_0 : pm_B := ([(0, .iload_n 1, 1, 0, 0, []), (1, .iconst 0, 1, 0, 0, []), (2, .iconst 5, 1, 5, 0, []), (3, .invokestatic 64, 3, 0, 0, []), (6, .ifCond .eq 14, 3, 0, 0, [(20, [0])]), (9, .iload_n 3, 1, 0, 0, []), (10, .bipush (-100), 2, 100, 1, []), (12, .bipush 100, 2, 100, 0, []), (14, .invokestatic 64, 3, 0, 0, []), (17, .ifCond .ne 9, 3, 0, 0, [(26, [0, 1, 2, 3])])], (20, [0]))
def bk_X6_forge_20 : pm_B := ([(20, .aload_n 0, 1, 0, 0, []), (21, .iconst 1, 1, 1, 0, []), (22, .invokevirtual 219, 3, 1, 0, []), (25, .ireturn, 1, 0, 0, [])], (0, []))
def bk_X6_forge_26 : pm_B := ([(26, .aload_n 0, 1, 0, 0, []), (27, .getfield 34, 3, 6, 3, []), (30, .iload_n 1, 1, 0, 0, []), (31, .aaload, 1, 0, 0, []), (32, .astore 4, 2, 0, 0, []), (34, .aload_n 0, 1, 0, 0, []), (35, .iconst 0, 1, 0, 0, []), (36, .putfield 226, 3, 6, 9, []), (39, .iload_n 2, 1, 0, 0, []), (40, .tableswitch 147 0 8 #[52, 64, 73, 82, 91, 106, 114, 121, 140], 52, 0, 0, [(187, [0]), (92, [0, 3, 4]), (104, [0, 3, 4]), (113, [0, 3, 4]), (122, [0, 3, 4]), (131, [0, 3]), (146, [0, 3, 4]), (154, [0, 4]), (161, [0, 3]), (180, [0])])], (0, []))
def bk_X6_forge_92 : pm_B := ([(92, .aload_n 0, 1, 0, 0, []), (93, .aload 4, 2, 0, 0, []), (95, .iload_n 3, 1, 0, 0, []), (96, .iconst 5, 1, 5, 0, []), (97, .invokestatic 229, 3, 2, 0, []), (100, .invokevirtual 234, 3, 3, 0, []), (103, .ireturn, 1, 0, 0, [])], (0, []))
def bk_X6_forge_104 : pm_B := ([(104, .aload_n 0, 1, 0, 0, []), (105, .aload 4, 2, 0, 0, []), (107, .iconst 2, 1, 2, 0, []), (108, .iload_n 3, 1, 0, 0, []), (109, .invokevirtual 238, 3, 4, 0, []), (112, .ireturn, 1, 0, 0, [])], (0, []))
def bk_X6_forge_113 : pm_B := ([(113, .aload_n 0, 1, 0, 0, []), (114, .aload 4, 2, 0, 0, []), (116, .iconst 3, 1, 3, 0, []), (117, .iload_n 3, 1, 0, 0, []), (118, .invokevirtual 238, 3, 4, 0, []), (121, .ireturn, 1, 0, 0, [])], (0, []))
def bk_X6_forge_122 : pm_B := ([(122, .aload_n 0, 1, 0, 0, []), (123, .aload 4, 2, 0, 0, []), (125, .iconst 4, 1, 4, 0, []), (126, .iload_n 3, 1, 0, 0, []), (127, .invokevirtual 238, 3, 4, 0, []), (130, .ireturn, 1, 0, 0, [])], (0, []))
def bk_X6_forge_131 : pm_B := ([(131, .iload_n 3, 1, 0, 0, []), (132, .ifCond .ge 12, 3, 0, 0, [(144, [3])]), (135, .aload_n 0, 1, 0, 0, []), (136, .bipush 13, 2, 13, 0, []), (138, .invokevirtual 219, 3, 1, 0, []), (141, .goto 4, 3, 0, 0, [(145, [])])], (0, []))
def bk_X6_forge_144 : pm_B := ([(144, .iload_n 3, 1, 0, 0, [])], (145, []))
def bk_X6_forge_145 : pm_B := ([(145, .ireturn, 1, 0, 0, [])], (0, []))
def bk_X6_forge_146 : pm_B := ([(146, .aload_n 0, 1, 0, 0, []), (147, .aload 4, 2, 0, 0, []), (149, .iload_n 3, 1, 0, 0, []), (150, .invokevirtual 242, 3, 5, 0, []), (153, .ireturn, 1, 0, 0, [])], (0, []))
def bk_X6_forge_154 : pm_B := ([(154, .aload_n 0, 1, 0, 0, []), (155, .aload 4, 2, 0, 0, []), (157, .invokevirtual 245, 3, 6, 0, []), (160, .ireturn, 1, 0, 0, [])], (0, []))
def bk_X6_forge_161 : pm_B := ([(161, .iload_n 3, 1, 0, 0, []), (162, .ifCond .ne 12, 3, 0, 0, [(174, [3])]), (165, .aload_n 0, 1, 0, 0, []), (166, .bipush 15, 2, 15, 0, []), (168, .invokevirtual 219, 3, 1, 0, []), (171, .goto 8, 3, 0, 0, [(179, [])])], (0, []))
def bk_X6_forge_174 : pm_B := ([(174, .sipush 1000, 3, 1000, 0, []), (177, .iload_n 3, 1, 0, 0, []), (178, .idiv, 1, 0, 0, [])], (179, []))
def bk_X6_forge_179 : pm_B := ([(179, .ireturn, 1, 0, 0, [])], (0, []))
def bk_X6_forge_180 : pm_B := ([(180, .aload_n 0, 1, 0, 0, []), (181, .bipush 10, 2, 10, 0, []), (183, .invokevirtual 219, 3, 1, 0, []), (186, .ireturn, 1, 0, 0, [])], (0, []))
def bk_X6_forge_187 : pm_B := ([(187, .aload_n 0, 1, 0, 0, []), (188, .iconst 1, 1, 1, 0, []), (189, .invokevirtual 219, 3, 1, 0, []), (192, .ireturn, 1, 0, 0, [])], (0, []))
def bl_X6_forge : List (Nat × pm_B) := [(0, bk_X6_forge_0), (20, bk_X6_forge_20), (26, bk_X6_forge_26), (92, bk_X6_forge_92), (104, bk_X6_forge_104), (113, bk_X6_forge_113), (122, bk_X6_forge_122), (131, bk_X6_forge_131), (144, bk_X6_forge_144), (145, bk_X6_forge_145), (146, bk_X6_forge_146), (154, bk_X6_forge_154), (161, bk_X6_forge_161), (174, bk_X6_forge_174), (179, bk_X6_forge_179), (180, bk_X6_forge_180), (187, bk_X6_forge_187)]
def cs_X6_forge : List (Bool × Nat) := [(true, 64), (false, 219), (true, 229), (false, 234), (false, 238), (false, 242), (false, 245)]
theorem ck_X6_forge : pm_ckB yX6_forge.cls cX6_forge 5 cs_X6_forge bl_X6_forge = true := by decide +kernel
def bk_X6_status_0 : pm_B := ([(0, .aload_n 0, 1, 0, 0, []), (1, .getfield 226, 3, 6, 9, []), (4, .ireturn, 1, 0, 0, [])], (0, []))
def bl_X6_status : List (Nat × pm_B) := [(0, bk_X6_status_0)]
def cs_X6_status : List (Bool × Nat) := []
theorem ck_X6_status : pm_ckB yX6_status.cls cX6_status 1 cs_X6_status bl_X6_status = true := by decide +kernel
def bk_X6_isWithin_0 : pm_B := ([(0, .iload_n 0, 1, 0, 0, []), (1, .iload_n 1, 1, 0, 0, []), (2, .if_icmp .lt 12, 3, 0, 0, [(14, [])]), (5, .iload_n 0, 1, 0, 0, []), (6, .iload_n 2, 1, 0, 0, []), (7, .if_icmp .gt 7, 3, 0, 0, [(14, [])]), (10, .iconst 1, 1, 1, 0, []), (11, .goto 4, 3, 0, 0, [(15, [])])], (0, []))
def bk_X6_isWithin_14 : pm_B := ([(14, .iconst 0, 1, 0, 0, [])], (15, []))
def bk_X6_isWithin_15 : pm_B := ([(15, .ireturn, 1, 0, 0, [])], (0, []))
def bl_X6_isWithin : List (Nat × pm_B) := [(0, bk_X6_isWithin_0), (14, bk_X6_isWithin_14), (15, bk_X6_isWithin_15)]
def cs_X6_isWithin : List (Bool × Nat) := []
theorem ck_X6_isWithin : pm_ckB yX6_isWithin.cls cX6_isWithin 3 cs_X6_isWithin bl_X6_isWithin = true := by decide +kernel
def bk_X6_isColumn_0 : pm_B := ([(0, .iload_n 1, 1, 0, 0, []), (1, .iconst 0, 1, 0, 0, []), (2, .aload_n 0, 1, 0, 0, []), (3, .getfield 10, 3, 6, 0, []), (6, .getfield 109, 3, 0, 5, []), (9, .iconst 1, 1, 1, 0, []), (10, .isub, 1, 0, 0, []), (11, .invokestatic 64, 3, 0, 0, []), (14, .ireturn, 1, 0, 0, [])], (0, []))
def bl_X6_isColumn : List (Nat × pm_B) := [(0, bk_X6_isColumn_0)]
def cs_X6_isColumn : List (Bool × Nat) := [(true, 64)]
theorem ck_X6_isColumn : pm_ckB yX6_isColumn.cls cX6_isColumn 2 cs_X6_isColumn bl_X6_isColumn = true := by decide +kernel
def bk_X6_allLaid_0 : pm_B := ([(0, .aload_n 0, 1, 0, 0, []), (1, .getfield 84, 3, 6, 7, []), (4, .invokestatic 96, 3, 0, 0, []), (7, .aload_n 0, 1, 0, 0, []), (8, .getfield 10, 3, 6, 0, []), (11, .invokevirtual 68, 3, 1, 0, []), (14, .if_icmp .ne 7, 3, 0, 0, [(21, [])]), (17, .iconst 1, 1, 1, 0, []), (18, .goto 4, 3, 0, 0, [(22, [])])], (0, []))
def bk_X6_allLaid_21 : pm_B := ([(21, .iconst 0, 1, 0, 0, [])], (22, []))
def bk_X6_allLaid_22 : pm_B := ([(22, .ireturn, 1, 0, 0, [])], (0, []))
def bl_X6_allLaid : List (Nat × pm_B) := [(0, bk_X6_allLaid_0), (21, bk_X6_allLaid_21), (22, bk_X6_allLaid_22)]
def cs_X6_allLaid : List (Bool × Nat) := [(true, 96), (false, 68)]
theorem ck_X6_allLaid : pm_ckB yX6_allLaid.cls cX6_allLaid 1 cs_X6_allLaid bl_X6_allLaid = true := by decide +kernel
def bk_X6_emptyTable_0 : pm_B := ([(0, .aload_n 0, 1, 0, 0, []), (1, .getfield 21, 3, 6, 1, []), (4, .aload_n 0, 1, 0, 0, []), (5, .getfield 10, 3, 6, 0, []), (8, .getfield 172, 3, 0, 6, []), (11, .invokevirtual 249, 3, 0, 0, []), (14, .aload_n 0, 1, 0, 0, []), (15, .getfield 28, 3, 6, 2, []), (18, .aload_n 0, 1, 0, 0, []), (19, .getfield 21, 3, 6, 1, []), (22, .invokevirtual 92, 3, 1, 0, []), (25, .aload_n 0, 1, 0, 0, []), (26, .iconst 0, 1, 0, 0, []), (27, .putfield 84, 3, 6, 7, []), (30, .aload_n 0, 1, 0, 0, []), (31, .iconst 0, 1, 0, 0, []), (32, .putfield 126, 3, 6, 8, []), (35, .aload_n 0, 1, 0, 0, []), (36, .getfield 52, 3, 6, 6, []), (39, .iconst 0, 1, 0, 0, []), (40, .putfield 207, 3, 2, 1, []), (43, .return_, 1, 0, 0, [])], (0, []))
def bl_X6_emptyTable : List (Nat × pm_B) := [(0, bk_X6_emptyTable_0)]
def cs_X6_emptyTable : List (Bool × Nat) := [(false, 249), (false, 92)]
theorem ck_X6_emptyTable : pm_ckB yX6_emptyTable.cls cX6_emptyTable 1 cs_X6_emptyTable bl_X6_emptyTable = true := by decide +kernel
def bk_X6_fill_0 : pm_B := ([(0, .aload_n 1, 1, 0, 0, []), (1, .iload_n 2, 1, 0, 0, []), (2, .putfield 253, 3, 5, 1, []), (5, .aload_n 1, 1, 0, 0, []), (6, .iconst 0, 1, 0, 0, []), (7, .putfield 256, 3, 5, 3, []), (10, .iload_n 2, 1, 0, 0, []), (11, .tableswitch 99 1 4 #[29, 43, 63, 81], 29, 0, 0, [(110, []), (40, [0, 1]), (54, [0, 1, 3]), (74, [0, 1]), (92, [0, 1])])], (0, []))
def bk_X6_fill_40 : pm_B := ([(40, .aload_n 1, 1, 0, 0, []), (41, .aload_n 0, 1, 0, 0, []), (42, .getfield 10, 3, 6, 0, []), (45, .getfield 175, 3, 0, 7, []), (48, .putfield 257, 3, 5, 2, []), (51, .goto 59, 3, 0, 0, [(110, [])])], (0, []))
def bk_X6_fill_54 : pm_B := ([(54, .aload_n 1, 1, 0, 0, []), (55, .aload_n 0, 1, 0, 0, []), (56, .getfield 21, 3, 6, 1, []), (59, .iload_n 3, 1, 0, 0, []), (60, .aload_n 1, 1, 0, 0, []), (61, .getfield 258, 3, 5, 0, []), (64, .iconst 0, 1, 0, 0, []), (65, .invokevirtual 261, 3, 0, 0, []), (68, .putfield 256, 3, 5, 3, []), (71, .goto 39, 3, 0, 0, [(110, [])])], (0, []))
def bk_X6_fill_74 : pm_B := ([(74, .aload_n 1, 1, 0, 0, []), (75, .aload_n 0, 1, 0, 0, []), (76, .getfield 21, 3, 6, 1, []), (79, .aload_n 1, 1, 0, 0, []), (80, .getfield 258, 3, 5, 0, []), (83, .invokevirtual 215, 3, 1, 0, []), (86, .putfield 256, 3, 5, 3, []), (89, .goto 21, 3, 0, 0, [(110, [])])], (0, []))
def bk_X6_fill_92 : pm_B := ([(92, .aload_n 1, 1, 0, 0, []), (93, .aload_n 0, 1, 0, 0, []), (94, .getfield 21, 3, 6, 1, []), (97, .aload_n 1, 1, 0, 0, []), (98, .getfield 258, 3, 5, 0, []), (101, .invokevirtual 265, 3, 2, 0, []), (104, .putfield 256, 3, 5, 3, []), (107, .goto 3, 3, 0, 0, [(110, [])])], (0, []))
def bk_X6_fill_110 : pm_B := ([(110, .return_, 1, 0, 0, [])], (0, []))
def bl_X6_fill : List (Nat × pm_B) := [(0, bk_X6_fill_0), (40, bk_X6_fill_40), (54, bk_X6_fill_54), (74, bk_X6_fill_74), (92, bk_X6_fill_92), (110, bk_X6_fill_110)]
def cs_X6_fill : List (Bool × Nat) := [(false, 261), (false, 215), (false, 265)]
theorem ck_X6_fill : pm_ckB yX6_fill.cls cX6_fill 4 cs_X6_fill bl_X6_fill = true := by decide +kernel
def bk_X6_refuse_0 : pm_B := ([(0, .aload_n 0, 1, 0, 0, []), (1, .iload_n 1, 1, 0, 0, []), (2, .putfield 226, 3, 6, 9, []), (5, .iconst (-1), 1, 1, 1, []), (6, .ireturn, 1, 0, 0, [])], (0, []))
def bl_X6_refuse : List (Nat × pm_B) := [(0, bk_X6_refuse_0)]
def cs_X6_refuse : List (Bool × Nat) := []
theorem ck_X6_refuse : pm_ckB yX6_refuse.cls cX6_refuse 2 cs_X6_refuse bl_X6_refuse = true := by decide +kernel
def bk_X6_refusalOf_0 : pm_B := ([(0, .aload_n 1, 1, 0, 0, []), (1, .getfield 253, 3, 5, 1, []), (4, .ifCond .ne 6, 3, 0, 0, [(10, [1, 2])]), (7, .bipush 10, 2, 10, 0, []), (9, .ireturn, 1, 0, 0, [])], (0, []))
def bk_X6_refusalOf_10 : pm_B := ([(10, .aload_n 1, 1, 0, 0, []), (11, .getfield 253, 3, 5, 1, []), (14, .iload_n 2, 1, 0, 0, []), (15, .if_icmp .ne 7, 3, 0, 0, [(22, [])]), (18, .iconst 0, 1, 0, 0, []), (19, .goto 5, 3, 0, 0, [(24, [])])], (0, []))
def bk_X6_refusalOf_22 : pm_B := ([(22, .bipush 11, 2, 11, 0, [])], (24, []))
def bk_X6_refusalOf_24 : pm_B := ([(24, .ireturn, 1, 0, 0, [])], (0, []))
def bl_X6_refusalOf : List (Nat × pm_B) := [(0, bk_X6_refusalOf_0), (10, bk_X6_refusalOf_10), (22, bk_X6_refusalOf_22), (24, bk_X6_refusalOf_24)]
def cs_X6_refusalOf : List (Bool × Nat) := []
theorem ck_X6_refusalOf : pm_ckB yX6_refusalOf.cls cX6_refusalOf 3 cs_X6_refusalOf bl_X6_refusalOf = true := by decide +kernel
def bk_X6_kindTakenFor_0 : pm_B := ([(0, .aload_n 0, 1, 0, 0, []), (1, .aload_n 1, 1, 0, 0, []), (2, .iconst 1, 1, 1, 0, []), (3, .invokevirtual 268, 3, 0, 0, []), (6, .istore_n 3, 1, 0, 0, []), (7, .iload_n 3, 1, 0, 0, []), (8, .ifCond .eq 9, 3, 0, 0, [(17, [0, 1, 2])]), (11, .aload_n 0, 1, 0, 0, []), (12, .iload_n 3, 1, 0, 0, []), (13, .invokevirtual 219, 3, 1, 0, []), (16, .ireturn, 1, 0, 0, [])], (0, []))
def bk_X6_kindTakenFor_17 : pm_B := ([(17, .getstatic 271, 3, 0, 0, []), (20, .aload_n 1, 1, 0, 0, []), (21, .getfield 257, 3, 5, 2, []), (24, .iaload, 1, 1, 0, []), (25, .iconst 1, 1, 1, 0, []), (26, .iload_n 2, 1, 0, 0, []), (27, .ishl, 1, 0, 0, []), (28, .iand, 1, 0, 0, []), (29, .ifCond .eq 7, 3, 0, 0, [(36, [0, 1])]), (32, .iconst 1, 1, 1, 0, []), (33, .goto 4, 3, 0, 0, [(37, [0, 1])])], (0, []))
def bk_X6_kindTakenFor_36 : pm_B := ([(36, .iconst 0, 1, 0, 0, [])], (37, [0, 1]))
def bk_X6_kindTakenFor_37 : pm_B := ([(37, .istore 4, 2, 0, 0, []), (39, .iload 4, 2, 0, 0, []), (41, .ifCond .eq 10, 3, 0, 0, [(51, [0])]), (44, .aload_n 1, 1, 0, 0, []), (45, .getfield 257, 3, 5, 2, []), (48, .goto 9, 3, 0, 0, [(57, [])])], (0, []))
def bk_X6_kindTakenFor_51 : pm_B := ([(51, .aload_n 0, 1, 0, 0, []), (52, .bipush 11, 2, 11, 0, []), (54, .invokevirtual 219, 3, 1, 0, [])], (57, []))
def bk_X6_kindTakenFor_57 : pm_B := ([(57, .ireturn, 1, 0, 0, [])], (0, []))
def bl_X6_kindTakenFor : List (Nat × pm_B) := [(0, bk_X6_kindTakenFor_0), (17, bk_X6_kindTakenFor_17), (36, bk_X6_kindTakenFor_36), (37, bk_X6_kindTakenFor_37), (51, bk_X6_kindTakenFor_51), (57, bk_X6_kindTakenFor_57)]
def cs_X6_kindTakenFor : List (Bool × Nat) := [(false, 268), (false, 219)]
theorem ck_X6_kindTakenFor : pm_ckB yX6_kindTakenFor.cls cX6_kindTakenFor 5 cs_X6_kindTakenFor bl_X6_kindTakenFor = true := by decide +kernel
def bk_X6_numberTakenFrom_0 : pm_B := ([(0, .aload_n 0, 1, 0, 0, []), (1, .aload_n 1, 1, 0, 0, []), (2, .iload_n 2, 1, 0, 0, []), (3, .invokevirtual 268, 3, 0, 0, []), (6, .istore 4, 2, 0, 0, []), (8, .iload 4, 2, 0, 0, []), (10, .ifCond .eq 10, 3, 0, 0, [(20, [0, 1, 3])]), (13, .aload_n 0, 1, 0, 0, []), (14, .iload 4, 2, 0, 0, []), (16, .invokevirtual 219, 3, 1, 0, []), (19, .ireturn, 1, 0, 0, [])], (0, []))
def bk_X6_numberTakenFrom_20 : pm_B := ([(20, .iload_n 3, 1, 0, 0, []), (21, .iconst 0, 1, 0, 0, []), (22, .aload_n 1, 1, 0, 0, []), (23, .getfield 256, 3, 5, 3, []), (26, .iconst 1, 1, 1, 0, []), (27, .isub, 1, 0, 0, []), (28, .invokestatic 64, 3, 2, 0, []), (31, .ifCond .eq 12, 3, 0, 0, [(43, [0])]), (34, .aload_n 1, 1, 0, 0, []), (35, .getfield 258, 3, 5, 0, []), (38, .iload_n 3, 1, 0, 0, []), (39, .saload, 1, 0, 0, []), (40, .goto 9, 3, 0, 0, [(49, [])])], (0, []))
def bk_X6_numberTakenFrom_43 : pm_B := ([(43, .aload_n 0, 1, 0, 0, []), (44, .bipush 12, 2, 12, 0, []), (46, .invokevirtual 219, 3, 1, 0, [])], (49, []))
def bk_X6_numberTakenFrom_49 : pm_B := ([(49, .ireturn, 1, 0, 0, [])], (0, []))
def bl_X6_numberTakenFrom : List (Nat × pm_B) := [(0, bk_X6_numberTakenFrom_0), (20, bk_X6_numberTakenFrom_20), (43, bk_X6_numberTakenFrom_43), (49, bk_X6_numberTakenFrom_49)]
def cs_X6_numberTakenFrom : List (Bool × Nat) := [(false, 268), (false, 219), (true, 64)]
theorem ck_X6_numberTakenFrom : pm_ckB yX6_numberTakenFrom.cls cX6_numberTakenFrom 5 cs_X6_numberTakenFrom bl_X6_numberTakenFrom = true := by decide +kernel
def bk_X6_sumOfCopy_0 : pm_B := ([(0, .aload_n 0, 1, 0, 0, []), (1, .aload_n 1, 1, 0, 0, []), (2, .iconst 2, 1, 2, 0, []), (3, .invokevirtual 268, 3, 0, 0, []), (6, .istore_n 3, 1, 0, 0, []), (7, .iload_n 3, 1, 0, 0, []), (8, .ifCond .eq 9, 3, 0, 0, [(17, [0, 1, 2])]), (11, .aload_n 0, 1, 0, 0, []), (12, .iload_n 3, 1, 0, 0, []), (13, .invokevirtual 219, 3, 1, 0, []), (16, .ireturn, 1, 0, 0, [])], (0, []))
def bk_X6_sumOfCopy_17 : pm_B := ([(17, .iload_n 2, 1, 0, 0, []), (18, .ifCond .lt 21, 3, 0, 0, [(39, [0])]), (21, .iconst 1, 1, 1, 0, []), (22, .iload_n 2, 1, 0, 0, []), (23, .iadd, 1, 0, 0, []), (24, .aload_n 1, 1, 0, 0, []), (25, .getfield 256, 3, 5, 3, []), (28, .if_icmp .gt 11, 3, 0, 0, [(39, [0])]), (31, .iload_n 2, 1, 0, 0, []), (32, .iload_n 2, 1, 0, 0, []), (33, .iadd, 1, 0, 0, []), (34, .bipush 7, 2, 7, 0, []), (36, .if_icmp .le 10, 3, 0, 0, [(46, [1, 2])])], (39, [0]))
def bk_X6_sumOfCopy_39 : pm_B := ([(39, .aload_n 0, 1, 0, 0, []), (40, .bipush 12, 2, 12, 0, []), (42, .invokevirtual 219, 3, 1, 0, []), (45, .ireturn, 1, 0, 0, [])], (0, []))
def bk_X6_sumOfCopy_46 : pm_B := ([(46, .iconst 0, 1, 0, 0, []), (47, .istore 4, 2, 0, 0, []), (49, .iconst 1, 1, 1, 0, []), (50, .istore 5, 2, 0, 0, [])], (52, [1, 2, 4, 5]))
def bk_X6_sumOfCopy_52 : pm_B := ([(52, .iload 5, 2, 0, 0, []), (54, .iload_n 2, 1, 0, 0, []), (55, .if_icmp .gt 21, 3, 0, 0, [(76, [4])]), (58, .iload 4, 2, 0, 0, []), (60, .aload_n 1, 1, 0, 0, []), (61, .getfield 258, 3, 5, 0, []), (64, .iload 5, 2, 0, 0, []), (66, .saload, 1, 0, 0, []), (67, .iadd, 1, 0, 0, []), (68, .istore 4, 2, 0, 0, []), (70, .iinc 5 1, 3, 1, 0, []), (73, .goto (-21), 3, 0, 0, [(52, [1, 2, 4, 5])])], (0, []))
def bk_X6_sumOfCopy_76 : pm_B := ([(76, .iload 4, 2, 0, 0, []), (78, .ireturn, 1, 0, 0, [])], (0, []))
def bl_X6_sumOfCopy : List (Nat × pm_B) := [(0, bk_X6_sumOfCopy_0), (17, bk_X6_sumOfCopy_17), (39, bk_X6_sumOfCopy_39), (46, bk_X6_sumOfCopy_46), (52, bk_X6_sumOfCopy_52), (76, bk_X6_sumOfCopy_76)]
def cs_X6_sumOfCopy : List (Bool × Nat) := [(false, 268), (false, 219)]
theorem ck_X6_sumOfCopy : pm_ckB yX6_sumOfCopy.cls cX6_sumOfCopy 6 cs_X6_sumOfCopy bl_X6_sumOfCopy = true := by decide +kernel
def bk_X6_kindInSuitedRow_0 : pm_B := ([(0, .aload_n 1, 1, 0, 0, []), (1, .getfield 253, 3, 5, 1, []), (4, .ifCond .ne 5, 3, 0, 0, [(9, [0, 1])]), (7, .iconst 0, 1, 0, 0, []), (8, .ireturn, 1, 0, 0, [])], (0, []))
def bk_X6_kindInSuitedRow_9 : pm_B := ([(9, .aload_n 1, 1, 0, 0, []), (10, .getfield 253, 3, 5, 1, []), (13, .iconst 1, 1, 1, 0, []), (14, .if_icmp .ne 20, 3, 0, 0, [(34, [0, 1])]), (17, .getstatic 271, 3, 0, 0, []), (20, .aload_n 1, 1, 0, 0, []), (21, .getfield 257, 3, 5, 2, []), (24, .iaload, 1, 1, 0, []), (25, .iconst 2, 1, 2, 0, []), (26, .iand, 1, 0, 0, []), (27, .ifCond .eq 7, 3, 0, 0, [(34, [0, 1])]), (30, .iconst 1, 1, 1, 0, []), (31, .goto 4, 3, 0, 0, [(35, [0, 1])])], (0, []))
def bk_X6_kindInSuitedRow_34 : pm_B := ([(34, .iconst 0, 1, 0, 0, [])], (35, [0, 1]))
def bk_X6_kindInSuitedRow_35 : pm_B := ([(35, .istore_n 2, 1, 0, 0, []), (36, .iload_n 2, 1, 0, 0, []), (37, .ifCond .eq 10, 3, 0, 0, [(47, [0])]), (40, .aload_n 1, 1, 0, 0, []), (41, .getfield 257, 3, 5, 2, []), (44, .goto 9, 3, 0, 0, [(53, [])])], (0, []))
def bk_X6_kindInSuitedRow_47 : pm_B := ([(47, .aload_n 0, 1, 0, 0, []), (48, .bipush 14, 2, 14, 0, []), (50, .invokevirtual 219, 3, 0, 0, [])], (53, []))
def bk_X6_kindInSuitedRow_53 : pm_B := ([(53, .ireturn, 1, 0, 0, [])], (0, []))
def bl_X6_kindInSuitedRow : List (Nat × pm_B) := [(0, bk_X6_kindInSuitedRow_0), (9, bk_X6_kindInSuitedRow_9), (34, bk_X6_kindInSuitedRow_34), (35, bk_X6_kindInSuitedRow_35), (47, bk_X6_kindInSuitedRow_47), (53, bk_X6_kindInSuitedRow_53)]
def cs_X6_kindInSuitedRow : List (Bool × Nat) := [(false, 219)]
theorem ck_X6_kindInSuitedRow : pm_ckB yX6_kindInSuitedRow.cls cX6_kindInSuitedRow 3 cs_X6_kindInSuitedRow bl_X6_kindInSuitedRow = true := by decide +kernel
def bk_J6_bitCount_0f7a4_0 : pm_B := ([(0, .iload_n 0, 1, 0, 0, []), (1, .iload_n 0, 1, 0, 0, []), (2, .iconst 1, 1, 1, 0, []), (3, .iushr, 1, 0, 0, []), (4, .ldc_w 265, 3, 1431655765, 0, []), (7, .iand, 1, 0, 0, []), (8, .isub, 1, 0, 0, []), (9, .istore_n 0, 1, 0, 0, []), (10, .iload_n 0, 1, 0, 0, []), (11, .ldc_w 266, 3, 858993459, 0, []), (14, .iand, 1, 0, 0, []), (15, .iload_n 0, 1, 0, 0, []), (16, .iconst 2, 1, 2, 0, []), (17, .iushr, 1, 0, 0, []), (18, .ldc_w 266, 3, 858993459, 0, []), (21, .iand, 1, 0, 0, []), (22, .iadd, 1, 0, 0, []), (23, .istore_n 0, 1, 0, 0, []), (24, .iload_n 0, 1, 0, 0, []), (25, .iload_n 0, 1, 0, 0, []), (26, .iconst 4, 1, 4, 0, []), (27, .iushr, 1, 0, 0, []), (28, .iadd, 1, 0, 0, []), (29, .ldc_w 267, 3, 252645135, 0, []), (32, .iand, 1, 0, 0, []), (33, .istore_n 0, 1, 0, 0, []), (34, .iload_n 0, 1, 0, 0, []), (35, .iload_n 0, 1, 0, 0, []), (36, .bipush 8, 2, 8, 0, []), (38, .iushr, 1, 0, 0, []), (39, .iadd, 1, 0, 0, []), (40, .istore_n 0, 1, 0, 0, []), (41, .iload_n 0, 1, 0, 0, []), (42, .iload_n 0, 1, 0, 0, []), (43, .bipush 16, 2, 16, 0, []), (45, .iushr, 1, 0, 0, []), (46, .iadd, 1, 0, 0, []), (47, .istore_n 0, 1, 0, 0, []), (48, .iload_n 0, 1, 0, 0, []), (49, .bipush 63, 2, 63, 0, []), (51, .iand, 1, 0, 0, []), (52, .ireturn, 1, 0, 0, [])], (0, []))
def bl_J6_bitCount_0f7a4 : List (Nat × pm_B) := [(0, bk_J6_bitCount_0f7a4_0)]
def cs_J6_bitCount_0f7a4 : List (Bool × Nat) := []
theorem ck_J6_bitCount_0f7a4 : pm_ckB yJ6_bitCount_0f7a4.cls cJ6_bitCount_0f7a4 1 cs_J6_bitCount_0f7a4 bl_J6_bitCount_0f7a4 = true := by decide +kernel
def bk_J9_floorMod_7cf53_0 : pm_B := ([(0, .iload_n 0, 1, 0, 0, []), (1, .iload_n 1, 1, 0, 0, []), (2, .irem, 1, 0, 0, []), (3, .istore_n 2, 1, 0, 0, []), (4, .iload_n 0, 1, 0, 0, []), (5, .iload_n 1, 1, 0, 0, []), (6, .ixor, 1, 0, 0, []), (7, .ifCond .ge 11, 3, 0, 0, [(18, [2])]), (10, .iload_n 2, 1, 0, 0, []), (11, .ifCond .eq 7, 3, 0, 0, [(18, [2])]), (14, .iload_n 2, 1, 0, 0, []), (15, .iload_n 1, 1, 0, 0, []), (16, .iadd, 1, 0, 0, []), (17, .ireturn, 1, 0, 0, [])], (0, []))
def bk_J9_floorMod_7cf53_18 : pm_B := ([(18, .iload_n 2, 1, 0, 0, []), (19, .ireturn, 1, 0, 0, [])], (0, []))
def bl_J9_floorMod_7cf53 : List (Nat × pm_B) := [(0, bk_J9_floorMod_7cf53_0), (18, bk_J9_floorMod_7cf53_18)]
def cs_J9_floorMod_7cf53 : List (Bool × Nat) := []
theorem ck_J9_floorMod_7cf53 : pm_ckB yJ9_floorMod_7cf53.cls cJ9_floorMod_7cf53 3 cs_J9_floorMod_7cf53 bl_J9_floorMod_7cf53 = true := by decide +kernel
def bk_J9_max_7cf53_0 : pm_B := ([(0, .iload_n 0, 1, 0, 0, []), (1, .iload_n 1, 1, 0, 0, []), (2, .if_icmp .lt 7, 3, 0, 0, [(9, [1])]), (5, .iload_n 0, 1, 0, 0, []), (6, .goto 4, 3, 0, 0, [(10, [])])], (0, []))
def bk_J9_max_7cf53_9 : pm_B := ([(9, .iload_n 1, 1, 0, 0, [])], (10, []))
def bk_J9_max_7cf53_10 : pm_B := ([(10, .ireturn, 1, 0, 0, [])], (0, []))
def bl_J9_max_7cf53 : List (Nat × pm_B) := [(0, bk_J9_max_7cf53_0), (9, bk_J9_max_7cf53_9), (10, bk_J9_max_7cf53_10)]
def cs_J9_max_7cf53 : List (Bool × Nat) := []
theorem ck_J9_max_7cf53 : pm_ckB yJ9_max_7cf53.cls cJ9_max_7cf53 2 cs_J9_max_7cf53 bl_J9_max_7cf53 = true := by decide +kernel
def bk_J9_min_7cf53_0 : pm_B := ([(0, .iload_n 0, 1, 0, 0, []), (1, .iload_n 1, 1, 0, 0, []), (2, .if_icmp .gt 7, 3, 0, 0, [(9, [1])]), (5, .iload_n 0, 1, 0, 0, []), (6, .goto 4, 3, 0, 0, [(10, [])])], (0, []))
def bk_J9_min_7cf53_9 : pm_B := ([(9, .iload_n 1, 1, 0, 0, [])], (10, []))
def bk_J9_min_7cf53_10 : pm_B := ([(10, .ireturn, 1, 0, 0, [])], (0, []))
def bl_J9_min_7cf53 : List (Nat × pm_B) := [(0, bk_J9_min_7cf53_0), (9, bk_J9_min_7cf53_9), (10, bk_J9_min_7cf53_10)]
def cs_J9_min_7cf53 : List (Bool × Nat) := []
theorem ck_J9_min_7cf53 : pm_ckB yJ9_min_7cf53.cls cJ9_min_7cf53 2 cs_J9_min_7cf53 bl_J9_min_7cf53 = true := by decide +kernel
def bk_J7_fill_d0a16_0 : pm_B := ([(0, .iconst 0, 1, 0, 0, []), (1, .istore_n 3, 1, 0, 0, []), (2, .aload_n 0, 1, 0, 0, []), (3, .arraylength, 1, 0, 0, []), (4, .istore 4, 2, 0, 0, [])], (6, [0, 1, 3, 4]))
def bk_J7_fill_d0a16_6 : pm_B := ([(6, .iload_n 3, 1, 0, 0, []), (7, .iload 4, 2, 0, 0, []), (9, .if_icmp .ge 13, 3, 0, 0, [(22, [])]), (12, .aload_n 0, 1, 0, 0, []), (13, .iload_n 3, 1, 0, 0, []), (14, .lload_n 1, 1, 0, 0, []), (15, .lastore, 1, 0, 0, []), (16, .iinc 3 1, 3, 1, 0, []), (19, .goto (-13), 3, 0, 0, [(6, [0, 1, 3, 4])])], (0, []))
def bk_J7_fill_d0a16_22 : pm_B := ([(22, .return_, 1, 0, 0, [])], (0, []))
def bl_J7_fill_d0a16 : List (Nat × pm_B) := [(0, bk_J7_fill_d0a16_0), (6, bk_J7_fill_d0a16_6), (22, bk_J7_fill_d0a16_22)]
def cs_J7_fill_d0a16 : List (Bool × Nat) := []
theorem ck_J7_fill_d0a16 : pm_ckB yJ7_fill_d0a16.cls cJ7_fill_d0a16 5 cs_J7_fill_d0a16 bl_J7_fill_d0a16 = true := by decide +kernel
def bk_J7_fill_53178_0 : pm_B := ([(0, .iconst 0, 1, 0, 0, []), (1, .istore_n 2, 1, 0, 0, []), (2, .aload_n 0, 1, 0, 0, []), (3, .arraylength, 1, 0, 0, []), (4, .istore_n 3, 1, 0, 0, [])], (5, [0, 1, 2, 3]))
def bk_J7_fill_53178_5 : pm_B := ([(5, .iload_n 2, 1, 0, 0, []), (6, .iload_n 3, 1, 0, 0, []), (7, .if_icmp .ge 13, 3, 0, 0, [(20, [])]), (10, .aload_n 0, 1, 0, 0, []), (11, .iload_n 2, 1, 0, 0, []), (12, .iload_n 1, 1, 0, 0, []), (13, .iastore, 1, 0, 0, []), (14, .iinc 2 1, 3, 1, 0, []), (17, .goto (-12), 3, 0, 0, [(5, [0, 1, 2, 3])])], (0, []))
def bk_J7_fill_53178_20 : pm_B := ([(20, .return_, 1, 0, 0, [])], (0, []))
def bl_J7_fill_53178 : List (Nat × pm_B) := [(0, bk_J7_fill_53178_0), (5, bk_J7_fill_53178_5), (20, bk_J7_fill_53178_20)]
def cs_J7_fill_53178 : List (Bool × Nat) := []
theorem ck_J7_fill_53178 : pm_ckB yJ7_fill_53178.cls cJ7_fill_53178 4 cs_J7_fill_53178 bl_J7_fill_53178 = true := by decide +kernel
def bk_J7_fill_fb410_0 : pm_B := ([(0, .iconst 0, 1, 0, 0, []), (1, .istore_n 2, 1, 0, 0, []), (2, .aload_n 0, 1, 0, 0, []), (3, .arraylength, 1, 0, 0, []), (4, .istore_n 3, 1, 0, 0, [])], (5, [0, 1, 2, 3]))
def bk_J7_fill_fb410_5 : pm_B := ([(5, .iload_n 2, 1, 0, 0, []), (6, .iload_n 3, 1, 0, 0, []), (7, .if_icmp .ge 13, 3, 0, 0, [(20, [])]), (10, .aload_n 0, 1, 0, 0, []), (11, .iload_n 2, 1, 0, 0, []), (12, .iload_n 1, 1, 0, 0, []), (13, .sastore, 1, 0, 0, []), (14, .iinc 2 1, 3, 1, 0, []), (17, .goto (-12), 3, 0, 0, [(5, [0, 1, 2, 3])])], (0, []))
def bk_J7_fill_fb410_20 : pm_B := ([(20, .return_, 1, 0, 0, [])], (0, []))
def bl_J7_fill_fb410 : List (Nat × pm_B) := [(0, bk_J7_fill_fb410_0), (5, bk_J7_fill_fb410_5), (20, bk_J7_fill_fb410_20)]
def cs_J7_fill_fb410 : List (Bool × Nat) := []
theorem ck_J7_fill_fb410 : pm_ckB yJ7_fill_fb410.cls cJ7_fill_fb410 4 cs_J7_fill_fb410 bl_J7_fill_fb410 = true := by decide +kernel
end
section
def bk_X7_in_0 : pm_B := ([(0, .iload_n 0, 1, 0, 0, []), (1, .iload_n 1, 1, 0, 0, []), (2, .if_icmp .lt 12, 3, 0, 0, [(14, [])]), (5, .iload_n 0, 1, 0, 0, []), (6, .iload_n 2, 1, 0, 0, []), (7, .if_icmp .gt 7, 3, 0, 0, [(14, [])]), (10, .iconst 1, 1, 1, 0, []), (11, .goto 4, 3, 0, 0, [(15, [])])], (0, []))
def bk_X7_in_14 : pm_B := ([(14, .iconst 0, 1, 0, 0, [])], (15, []))
def bk_X7_in_15 : pm_B := ([(15, .ireturn, 1, 0, 0, [])], (0, []))
def bl_X7_in : List (Nat × pm_B) := [(0, bk_X7_in_0), (14, bk_X7_in_14), (15, bk_X7_in_15)]
def cs_X7_in : List (Bool × Nat) := []
theorem ck_X7_in : pm_ckB yX7_in.cls cX7_in 3 cs_X7_in bl_X7_in = true := by decide +kernel
def bk_X7_cards_0 : pm_B := ([(0, .aload_n 0, 1, 0, 0, []), (1, .getfield 7, 3, 7, 0, []), (4, .aload_n 0, 1, 0, 0, []), (5, .getfield 13, 3, 7, 1, []), (8, .imul, 1, 0, 0, []), (9, .ireturn, 1, 0, 0, [])], (0, []))
def bl_X7_cards : List (Nat × pm_B) := [(0, bk_X7_cards_0)]
def cs_X7_cards : List (Bool × Nat) := []
theorem ck_X7_cards : pm_ckB yX7_cards.cls cX7_cards 1 cs_X7_cards bl_X7_cards = true := by decide +kernel
def bk_X7_isCode_0 : pm_B := ([(0, .iload_n 1, 1, 0, 0, []), (1, .ifCond .lt 32, 3, 0, 0, [(33, [])]), (4, .iload_n 1, 1, 0, 0, []), (5, .bipush 7, 2, 7, 0, []), (7, .iand, 1, 0, 0, []), (8, .iconst 1, 1, 1, 0, []), (9, .aload_n 0, 1, 0, 0, []), (10, .getfield 13, 3, 7, 1, []), (13, .invokestatic 111, 3, 0, 0, []), (16, .ifCond .eq 17, 3, 0, 0, [(33, [])]), (19, .iload_n 1, 1, 0, 0, []), (20, .iconst 3, 1, 3, 0, []), (21, .ishr, 1, 0, 0, []), (22, .aload_n 0, 1, 0, 0, []), (23, .getfield 7, 3, 7, 0, []), (26, .if_icmp .ge 7, 3, 0, 0, [(33, [])]), (29, .iconst 1, 1, 1, 0, []), (30, .goto 4, 3, 0, 0, [(34, [])])], (0, []))
def bk_X7_isCode_33 : pm_B := ([(33, .iconst 0, 1, 0, 0, [])], (34, []))
def bk_X7_isCode_34 : pm_B := ([(34, .ireturn, 1, 0, 0, [])], (0, []))
def bl_X7_isCode : List (Nat × pm_B) := [(0, bk_X7_isCode_0), (33, bk_X7_isCode_33), (34, bk_X7_isCode_34)]
def cs_X7_isCode : List (Bool × Nat) := [(true, 111)]
theorem ck_X7_isCode : pm_ckB yX7_isCode.cls cX7_isCode 2 cs_X7_isCode bl_X7_isCode = true := by decide +kernel
def bk_X7_empties_0 : pm_B := ([(0, .aload_n 0, 1, 0, 0, []), (1, .iconst 0, 1, 0, 0, []), (2, .putfield 115, 3, 7, 5, []), (5, .aload_n 0, 1, 0, 0, []), (6, .iconst 0, 1, 0, 0, []), (7, .putfield 118, 3, 7, 7, []), (10, .aload_n 0, 1, 0, 0, []), (11, .iconst 0, 1, 0, 0, []), (12, .putfield 121, 3, 7, 12, []), (15, .aload_n 0, 1, 0, 0, []), (16, .iconst 0, 1, 0, 0, []), (17, .putfield 124, 3, 7, 13, []), (20, .aload_n 0, 1, 0, 0, []), (21, .iconst 0, 1, 0, 0, []), (22, .putfield 127, 3, 7, 30, []), (25, .iconst 0, 1, 0, 0, []), (26, .istore_n 1, 1, 0, 0, [])], (27, [0, 1]))
def bk_X7_empties_27 : pm_B := ([(27, .iload_n 1, 1, 0, 0, []), (28, .bipush 32, 2, 32, 0, []), (30, .if_icmp .ge 16, 3, 0, 0, [(46, [0])]), (33, .aload_n 0, 1, 0, 0, []), (34, .getfield 19, 3, 7, 6, []), (37, .iload_n 1, 1, 0, 0, []), (38, .iconst 0, 1, 0, 0, []), (39, .bastore, 1, 0, 0, []), (40, .iinc 1 1, 3, 1, 0, []), (43, .goto (-16), 3, 0, 0, [(27, [0, 1])])], (0, []))
def bk_X7_empties_46 : pm_B := ([(46, .iconst 0, 1, 0, 0, []), (47, .istore_n 1, 1, 0, 0, [])], (48, [0, 1]))
def bk_X7_empties_48 : pm_B := ([(48, .iload_n 1, 1, 0, 0, []), (49, .iconst 4, 1, 4, 0, []), (50, .if_icmp .ge 23, 3, 0, 0, [(73, [0])]), (53, .aload_n 0, 1, 0, 0, []), (54, .getfield 23, 3, 7, 8, []), (57, .iload_n 1, 1, 0, 0, []), (58, .iconst 0, 1, 0, 0, []), (59, .iastore, 1, 0, 0, []), (60, .aload_n 0, 1, 0, 0, []), (61, .getfield 33, 3, 7, 11, []), (64, .iload_n 1, 1, 0, 0, []), (65, .iconst 0, 1, 0, 0, []), (66, .iastore, 1, 0, 0, []), (67, .iinc 1 1, 3, 1, 0, []), (70, .goto (-22), 3, 0, 0, [(48, [0, 1])])], (0, []))
def bk_X7_empties_73 : pm_B := ([(73, .aload_n 0, 1, 0, 0, []), (74, .getfield 30, 3, 7, 10, []), (77, .iconst 0, 1, 0, 0, []), (78, .iconst 0, 1, 0, 0, []), (79, .iastore, 1, 0, 0, []), (80, .aload_n 0, 1, 0, 0, []), (81, .getfield 30, 3, 7, 10, []), (84, .iconst 1, 1, 1, 0, []), (85, .iconst 0, 1, 0, 0, []), (86, .iastore, 1, 0, 0, []), (87, .return_, 1, 0, 0, [])], (0, []))
def bl_X7_empties : List (Nat × pm_B) := [(0, bk_X7_empties_0), (27, bk_X7_empties_27), (46, bk_X7_empties_46), (48, bk_X7_empties_48), (73, bk_X7_empties_73)]
def cs_X7_empties : List (Bool × Nat) := []
theorem ck_X7_empties : pm_ckB yX7_empties.cls cX7_empties 2 cs_X7_empties bl_X7_empties = true := by decide +kernel
def bk_X7_begin_0 : pm_B := ([(0, .iload_n 1, 1, 0, 0, []), (1, .iconst 1, 1, 1, 0, []), (2, .iconst 4, 1, 4, 0, []), (3, .invokestatic 111, 3, 0, 0, []), (6, .ifCond .eq 50, 3, 0, 0, [(56, [])]), (9, .iload_n 2, 1, 0, 0, []), (10, .iconst 1, 1, 1, 0, []), (11, .bipush 6, 2, 6, 0, []), (13, .invokestatic 111, 3, 0, 0, []), (16, .ifCond .eq 40, 3, 0, 0, [(56, [])]), (19, .iload_n 1, 1, 0, 0, []), (20, .iload_n 2, 1, 0, 0, []), (21, .imul, 1, 0, 0, []), (22, .bipush 12, 2, 12, 0, []), (24, .if_icmp .gt 32, 3, 0, 0, [(56, [])]), (27, .iload_n 3, 1, 0, 0, []), (28, .iconst 1, 1, 1, 0, []), (29, .iconst 4, 1, 4, 0, []), (30, .invokestatic 111, 3, 0, 0, []), (33, .ifCond .eq 23, 3, 0, 0, [(56, [])]), (36, .iload 4, 2, 0, 0, []), (38, .iconst 0, 1, 0, 0, []), (39, .iconst 2, 1, 2, 0, []), (40, .invokestatic 111, 3, 0, 0, []), (43, .ifCond .eq 13, 3, 0, 0, [(56, [])]), (46, .iload 5, 2, 0, 0, []), (48, .iconst 0, 1, 0, 0, []), (49, .iconst 4, 1, 4, 0, []), (50, .invokestatic 111, 3, 0, 0, []), (53, .ifCond .ne 6, 3, 0, 0, [(59, [0, 1, 2, 3, 4, 5])])], (56, []))
def bk_X7_begin_56 : pm_B := ([(56, .bipush (-2), 2, 2, 1, []), (58, .ireturn, 1, 0, 0, [])], (0, []))
def bk_X7_begin_59 : pm_B := ([(59, .aload_n 0, 1, 0, 0, []), (60, .iload_n 1, 1, 0, 0, []), (61, .putfield 7, 3, 7, 0, []), (64, .aload_n 0, 1, 0, 0, []), (65, .iload_n 2, 1, 0, 0, []), (66, .putfield 13, 3, 7, 1, []), (69, .aload_n 0, 1, 0, 0, []), (70, .iload_n 3, 1, 0, 0, []), (71, .putfield 16, 3, 7, 2, []), (74, .aload_n 0, 1, 0, 0, []), (75, .iload 4, 2, 0, 0, []), (77, .putfield 130, 3, 7, 3, []), (80, .aload_n 0, 1, 0, 0, []), (81, .iload 5, 2, 0, 0, []), (83, .putfield 133, 3, 7, 4, []), (86, .aload_n 0, 1, 0, 0, []), (87, .invokevirtual 136, 3, 1, 0, []), (90, .aload_n 0, 1, 0, 0, []), (91, .invokevirtual 139, 3, 2, 0, []), (94, .ireturn, 1, 0, 0, [])], (0, []))
def bl_X7_begin : List (Nat × pm_B) := [(0, bk_X7_begin_0), (56, bk_X7_begin_56), (59, bk_X7_begin_59)]
def cs_X7_begin : List (Bool × Nat) := [(true, 111), (false, 136), (false, 139)]
theorem ck_X7_begin : pm_ckB yX7_begin.cls cX7_begin 6 cs_X7_begin bl_X7_begin = true := by decide +kernel
def bk_X7_lay_0 : pm_B := ([(0, .iload_n 1, 1, 0, 0, []), (1, .iconst 0, 1, 0, 0, []), (2, .aload_n 0, 1, 0, 0, []), (3, .getfield 16, 3, 7, 2, []), (6, .iconst 1, 1, 1, 0, []), (7, .isub, 1, 0, 0, []), (8, .invokestatic 111, 3, 0, 0, []), (11, .ifCond .eq 29, 3, 0, 0, [(40, [])]), (14, .iload_n 2, 1, 0, 0, []), (15, .iconst 0, 1, 0, 0, []), (16, .aload_n 0, 1, 0, 0, []), (17, .getfield 7, 3, 7, 0, []), (20, .iconst 1, 1, 1, 0, []), (21, .isub, 1, 0, 0, []), (22, .invokestatic 111, 3, 0, 0, []), (25, .ifCond .eq 15, 3, 0, 0, [(40, [])]), (28, .iload_n 3, 1, 0, 0, []), (29, .iconst 1, 1, 1, 0, []), (30, .aload_n 0, 1, 0, 0, []), (31, .getfield 13, 3, 7, 1, []), (34, .invokestatic 111, 3, 0, 0, []), (37, .ifCond .ne 6, 3, 0, 0, [(43, [0, 1, 2, 3])])], (40, []))
def bk_X7_lay_40 : pm_B := ([(40, .bipush (-2), 2, 2, 1, []), (42, .ireturn, 1, 0, 0, [])], (0, []))
def bk_X7_lay_43 : pm_B := ([(43, .bipush 8, 2, 8, 0, []), (45, .iload_n 2, 1, 0, 0, []), (46, .imul, 1, 0, 0, []), (47, .iload_n 3, 1, 0, 0, []), (48, .iadd, 1, 0, 0, []), (49, .istore 4, 2, 0, 0, []), (51, .aload_n 0, 1, 0, 0, []), (52, .getfield 19, 3, 7, 6, []), (55, .iload 4, 2, 0, 0, []), (57, .baload, 1, 0, 0, []), (58, .ifCond .eq 6, 3, 0, 0, [(64, [0, 1, 4])]), (61, .bipush (-3), 2, 3, 1, []), (63, .ireturn, 1, 0, 0, [])], (0, []))
def bk_X7_lay_64 : pm_B := ([(64, .aload_n 0, 1, 0, 0, []), (65, .getfield 19, 3, 7, 6, []), (68, .iload 4, 2, 0, 0, []), (70, .iconst 1, 1, 1, 0, []), (71, .bastore, 1, 0, 0, []), (72, .aload_n 0, 1, 0, 0, []), (73, .getfield 27, 3, 7, 9, []), (76, .bipush 12, 2, 12, 0, []), (78, .iload_n 1, 1, 0, 0, []), (79, .imul, 1, 0, 0, []), (80, .aload_n 0, 1, 0, 0, []), (81, .getfield 23, 3, 7, 8, []), (84, .iload_n 1, 1, 0, 0, []), (85, .dup2, 1, 0, 0, []), (86, .iaload, 1, 0, 0, []), (87, .dup_x2, 1, 0, 0, []), (88, .iconst 1, 1, 1, 0, []), (89, .iadd, 1, 0, 0, []), (90, .iastore, 1, 0, 0, []), (91, .iadd, 1, 0, 0, []), (92, .iload 4, 2, 0, 0, []), (94, .iastore, 1, 0, 0, []), (95, .aload_n 0, 1, 0, 0, []), (96, .iconst 0, 1, 0, 0, []), (97, .putfield 121, 3, 7, 12, []), (100, .aload_n 0, 1, 0, 0, []), (101, .iconst 0, 1, 0, 0, []), (102, .putfield 124, 3, 7, 13, []), (105, .aload_n 0, 1, 0, 0, []), (106, .dup, 1, 0, 0, []), (107, .getfield 115, 3, 7, 5, []), (110, .iconst 1, 1, 1, 0, []), (111, .iadd, 1, 0, 0, []), (112, .dup_x1, 1, 0, 0, []), (113, .putfield 115, 3, 7, 5, []), (116, .ireturn, 1, 0, 0, [])], (0, []))
def bl_X7_lay : List (Nat × pm_B) := [(0, bk_X7_lay_0), (40, bk_X7_lay_40), (43, bk_X7_lay_43), (64, bk_X7_lay_64)]
def cs_X7_lay : List (Bool × Nat) := [(true, 111)]
theorem ck_X7_lay : pm_ckB yX7_lay.cls cX7_lay 5 cs_X7_lay bl_X7_lay = true := by decide +kernel
def bk_X7_make_0 : pm_B := ([(0, .aload_n 0, 1, 0, 0, []), (1, .invokevirtual 136, 3, 0, 0, []), (4, .iload_n 1, 1, 0, 0, []), (5, .istore_n 2, 1, 0, 0, []), (6, .iconst 1, 1, 1, 0, []), (7, .istore_n 3, 1, 0, 0, [])], (8, [0, 2, 3]))
def bk_X7_make_8 : pm_B := ([(8, .iload_n 3, 1, 0, 0, []), (9, .aload_n 0, 1, 0, 0, []), (10, .getfield 13, 3, 7, 1, []), (13, .if_icmp .gt 172, 3, 0, 0, [(185, [0])]), (16, .iconst 0, 1, 0, 0, []), (17, .istore 4, 2, 0, 0, [])], (19, [0, 2, 3, 4]))
def bk_X7_make_19 : pm_B := ([(19, .iload 4, 2, 0, 0, []), (21, .aload_n 0, 1, 0, 0, []), (22, .getfield 7, 3, 7, 0, []), (25, .if_icmp .ge 154, 3, 0, 0, [(179, [0, 2, 3])]), (28, .iload_n 2, 1, 0, 0, []), (29, .ldc 143, 2, 1103515245, 0, []), (31, .imul, 1, 0, 0, []), (32, .sipush 12345, 3, 12345, 0, []), (35, .iadd, 1, 0, 0, []), (36, .istore_n 2, 1, 0, 0, []), (37, .iload_n 2, 1, 0, 0, []), (38, .bipush 16, 2, 16, 0, []), (40, .iushr, 1, 0, 0, []), (41, .aload_n 0, 1, 0, 0, []), (42, .getfield 16, 3, 7, 2, []), (45, .irem, 1, 0, 0, []), (46, .istore 5, 2, 0, 0, []), (48, .iload_n 2, 1, 0, 0, []), (49, .bipush 8, 2, 8, 0, []), (51, .iushr, 1, 0, 0, []), (52, .iconst 3, 1, 3, 0, []), (53, .iand, 1, 0, 0, []), (54, .istore 6, 2, 0, 0, []), (56, .aload_n 0, 1, 0, 0, []), (57, .getfield 23, 3, 7, 8, []), (60, .iload 5, 2, 0, 0, []), (62, .iaload, 1, 0, 0, []), (63, .istore 7, 2, 0, 0, [])], (65, [0, 2, 3, 4, 5, 6, 7]))
def bk_X7_make_65 : pm_B := ([(65, .iload 7, 2, 0, 0, []), (67, .ifCond .le 52, 3, 0, 0, [(119, [0, 2, 3, 4, 5, 7])]), (70, .aload_n 0, 1, 0, 0, []), (71, .getfield 23, 3, 7, 8, []), (74, .iload 5, 2, 0, 0, []), (76, .iaload, 1, 0, 0, []), (77, .iload 7, 2, 0, 0, []), (79, .isub, 1, 0, 0, []), (80, .iload 6, 2, 0, 0, []), (82, .if_icmp .ge 37, 3, 0, 0, [(119, [0, 2, 3, 4, 5, 7])]), (85, .aload_n 0, 1, 0, 0, []), (86, .getfield 27, 3, 7, 9, []), (89, .bipush 12, 2, 12, 0, []), (91, .iload 5, 2, 0, 0, []), (93, .imul, 1, 0, 0, []), (94, .iload 7, 2, 0, 0, []), (96, .iadd, 1, 0, 0, []), (97, .aload_n 0, 1, 0, 0, []), (98, .getfield 27, 3, 7, 9, []), (101, .bipush 12, 2, 12, 0, []), (103, .iload 5, 2, 0, 0, []), (105, .imul, 1, 0, 0, []), (106, .iload 7, 2, 0, 0, []), (108, .iadd, 1, 0, 0, []), (109, .iconst 1, 1, 1, 0, []), (110, .isub, 1, 0, 0, []), (111, .iaload, 1, 0, 0, []), (112, .iastore, 1, 0, 0, []), (113, .iinc 7 (-1), 3, 1, 1, []), (116, .goto (-51), 3, 0, 0, [(65, [0, 2, 3, 4, 5, 6, 7])])], (0, []))
def bk_X7_make_119 : pm_B := ([(119, .aload_n 0, 1, 0, 0, []), (120, .getfield 27, 3, 7, 9, []), (123, .bipush 12, 2, 12, 0, []), (125, .iload 5, 2, 0, 0, []), (127, .imul, 1, 0, 0, []), (128, .iload 7, 2, 0, 0, []), (130, .iadd, 1, 0, 0, []), (131, .bipush 8, 2, 8, 0, []), (133, .iload 4, 2, 0, 0, []), (135, .imul, 1, 0, 0, []), (136, .iload_n 3, 1, 0, 0, []), (137, .iadd, 1, 0, 0, []), (138, .iastore, 1, 0, 0, []), (139, .aload_n 0, 1, 0, 0, []), (140, .getfield 23, 3, 7, 8, []), (143, .iload 5, 2, 0, 0, []), (145, .dup2, 1, 0, 0, []), (146, .iaload, 1, 0, 0, []), (147, .iconst 1, 1, 1, 0, []), (148, .iadd, 1, 0, 0, []), (149, .iastore, 1, 0, 0, []), (150, .aload_n 0, 1, 0, 0, []), (151, .getfield 19, 3, 7, 6, []), (154, .bipush 8, 2, 8, 0, []), (156, .iload 4, 2, 0, 0, []), (158, .imul, 1, 0, 0, []), (159, .iload_n 3, 1, 0, 0, []), (160, .iadd, 1, 0, 0, []), (161, .iconst 1, 1, 1, 0, []), (162, .bastore, 1, 0, 0, []), (163, .aload_n 0, 1, 0, 0, []), (164, .dup, 1, 0, 0, []), (165, .getfield 115, 3, 7, 5, []), (168, .iconst 1, 1, 1, 0, []), (169, .iadd, 1, 0, 0, []), (170, .putfield 115, 3, 7, 5, []), (173, .iinc 4 1, 3, 1, 0, []), (176, .goto (-157), 3, 0, 0, [(19, [0, 2, 3, 4])])], (0, []))
def bk_X7_make_179 : pm_B := ([(179, .iinc 3 1, 3, 1, 0, []), (182, .goto (-174), 3, 0, 0, [(8, [0, 2, 3])])], (0, []))
def bk_X7_make_185 : pm_B := ([(185, .aload_n 0, 1, 0, 0, []), (186, .getfield 115, 3, 7, 5, []), (189, .ireturn, 1, 0, 0, [])], (0, []))
def bl_X7_make : List (Nat × pm_B) := [(0, bk_X7_make_0), (8, bk_X7_make_8), (19, bk_X7_make_19), (65, bk_X7_make_65), (119, bk_X7_make_119), (179, bk_X7_make_179), (185, bk_X7_make_185)]
def cs_X7_make : List (Bool × Nat) := [(false, 136)]
theorem ck_X7_make : pm_ckB yX7_make.cls cX7_make 8 cs_X7_make bl_X7_make = true := by decide +kernel
def bk_X7_isLet_0 : pm_B := ([(0, .iload_n 2, 1, 0, 0, []), (1, .ifCond .ne 28, 3, 0, 0, [(29, [0, 1, 2])]), (4, .aload_n 0, 1, 0, 0, []), (5, .getfield 133, 3, 7, 4, []), (8, .iconst 4, 1, 4, 0, []), (9, .if_icmp .ne 14, 3, 0, 0, [(23, [])]), (12, .iload_n 1, 1, 0, 0, []), (13, .bipush 7, 2, 7, 0, []), (15, .iand, 1, 0, 0, []), (16, .aload_n 0, 1, 0, 0, []), (17, .getfield 13, 3, 7, 1, []), (20, .if_icmp .ne 7, 3, 0, 0, [(27, [])])], (23, []))
def bk_X7_isLet_23 : pm_B := ([(23, .iconst 1, 1, 1, 0, []), (24, .goto 4, 3, 0, 0, [(28, [])])], (0, []))
def bk_X7_isLet_27 : pm_B := ([(27, .iconst 0, 1, 0, 0, [])], (28, []))
def bk_X7_isLet_28 : pm_B := ([(28, .ireturn, 1, 0, 0, [])], (0, []))
def bk_X7_isLet_29 : pm_B := ([(29, .iload_n 2, 1, 0, 0, []), (30, .bipush 7, 2, 7, 0, []), (32, .iand, 1, 0, 0, []), (33, .iload_n 1, 1, 0, 0, []), (34, .bipush 7, 2, 7, 0, []), (36, .iand, 1, 0, 0, []), (37, .iconst 1, 1, 1, 0, []), (38, .iadd, 1, 0, 0, []), (39, .if_icmp .ne 7, 3, 0, 0, [(46, [0, 1, 2])]), (42, .iconst 1, 1, 1, 0, []), (43, .goto 4, 3, 0, 0, [(47, [0, 1, 2])])], (0, []))
def bk_X7_isLet_46 : pm_B := ([(46, .iconst 0, 1, 0, 0, [])], (47, [0, 1, 2]))
def bk_X7_isLet_47 : pm_B := ([(47, .istore_n 3, 1, 0, 0, []), (48, .iload_n 1, 1, 0, 0, []), (49, .iconst 3, 1, 3, 0, []), (50, .ishr, 1, 0, 0, []), (51, .iload_n 2, 1, 0, 0, []), (52, .iconst 3, 1, 3, 0, []), (53, .ishr, 1, 0, 0, []), (54, .if_icmp .ne 7, 3, 0, 0, [(61, [0, 1, 2, 3])]), (57, .iconst 1, 1, 1, 0, []), (58, .goto 4, 3, 0, 0, [(62, [0, 1, 2, 3])])], (0, []))
def bk_X7_isLet_61 : pm_B := ([(61, .iconst 0, 1, 0, 0, [])], (62, [0, 1, 2, 3]))
def bk_X7_isLet_62 : pm_B := ([(62, .istore 4, 2, 0, 0, []), (64, .aload_n 0, 1, 0, 0, []), (65, .getfield 133, 3, 7, 4, []), (68, .tableswitch 91 0 3 #[32, 34, 91, 49], 32, 0, 0, [(159, [1, 2, 3]), (100, [3]), (102, [3, 4]), (159, [1, 2, 3]), (117, [0, 1, 2, 3, 4])])], (0, []))
def bk_X7_isLet_100 : pm_B := ([(100, .iload_n 3, 1, 0, 0, []), (101, .ireturn, 1, 0, 0, [])], (0, []))
def bk_X7_isLet_102 : pm_B := ([(102, .iload_n 3, 1, 0, 0, []), (103, .ifCond .eq 12, 3, 0, 0, [(115, [])]), (106, .iload 4, 2, 0, 0, []), (108, .ifCond .eq 7, 3, 0, 0, [(115, [])]), (111, .iconst 1, 1, 1, 0, []), (112, .goto 4, 3, 0, 0, [(116, [])])], (0, []))
def bk_X7_isLet_115 : pm_B := ([(115, .iconst 0, 1, 0, 0, [])], (116, []))
def bk_X7_isLet_116 : pm_B := ([(116, .ireturn, 1, 0, 0, [])], (0, []))
def bk_X7_isLet_117 : pm_B := ([(117, .iload 4, 2, 0, 0, []), (119, .ifCond .eq 38, 3, 0, 0, [(157, [])]), (122, .iload_n 3, 1, 0, 0, []), (123, .ifCond .ne 30, 3, 0, 0, [(153, [])]), (126, .aload_n 0, 1, 0, 0, []), (127, .getfield 13, 3, 7, 1, []), (130, .iconst 1, 1, 1, 0, []), (131, .if_icmp .le 26, 3, 0, 0, [(157, [])]), (134, .iload_n 1, 1, 0, 0, []), (135, .bipush 7, 2, 7, 0, []), (137, .iand, 1, 0, 0, []), (138, .aload_n 0, 1, 0, 0, []), (139, .getfield 13, 3, 7, 1, []), (142, .if_icmp .ne 15, 3, 0, 0, [(157, [])]), (145, .iload_n 2, 1, 0, 0, []), (146, .bipush 7, 2, 7, 0, []), (148, .iand, 1, 0, 0, []), (149, .iconst 1, 1, 1, 0, []), (150, .if_icmp .ne 7, 3, 0, 0, [(157, [])])], (153, []))
def bk_X7_isLet_153 : pm_B := ([(153, .iconst 1, 1, 1, 0, []), (154, .goto 4, 3, 0, 0, [(158, [])])], (0, []))
def bk_X7_isLet_157 : pm_B := ([(157, .iconst 0, 1, 0, 0, [])], (158, []))
def bk_X7_isLet_158 : pm_B := ([(158, .ireturn, 1, 0, 0, [])], (0, []))
def bk_X7_isLet_159 : pm_B := ([(159, .iload_n 3, 1, 0, 0, []), (160, .ifCond .eq 19, 3, 0, 0, [(179, [])]), (163, .iload_n 1, 1, 0, 0, []), (164, .iconst 3, 1, 3, 0, []), (165, .ishr, 1, 0, 0, []), (166, .iload_n 2, 1, 0, 0, []), (167, .iconst 3, 1, 3, 0, []), (168, .ishr, 1, 0, 0, []), (169, .ixor, 1, 0, 0, []), (170, .iconst 1, 1, 1, 0, []), (171, .iand, 1, 0, 0, []), (172, .ifCond .eq 7, 3, 0, 0, [(179, [])]), (175, .iconst 1, 1, 1, 0, []), (176, .goto 4, 3, 0, 0, [(180, [])])], (0, []))
def bk_X7_isLet_179 : pm_B := ([(179, .iconst 0, 1, 0, 0, [])], (180, []))
def bk_X7_isLet_180 : pm_B := ([(180, .ireturn, 1, 0, 0, [])], (0, []))
def bl_X7_isLet : List (Nat × pm_B) := [(0, bk_X7_isLet_0), (23, bk_X7_isLet_23), (27, bk_X7_isLet_27), (28, bk_X7_isLet_28), (29, bk_X7_isLet_29), (46, bk_X7_isLet_46), (47, bk_X7_isLet_47), (61, bk_X7_isLet_61), (62, bk_X7_isLet_62), (100, bk_X7_isLet_100), (102, bk_X7_isLet_102), (115, bk_X7_isLet_115), (116, bk_X7_isLet_116), (117, bk_X7_isLet_117), (153, bk_X7_isLet_153), (157, bk_X7_isLet_157), (158, bk_X7_isLet_158), (159, bk_X7_isLet_159), (179, bk_X7_isLet_179), (180, bk_X7_isLet_180)]
def cs_X7_isLet : List (Bool × Nat) := []
theorem ck_X7_isLet : pm_ckB yX7_isLet.cls cX7_isLet 5 cs_X7_isLet bl_X7_isLet = true := by decide +kernel
def bk_X7_lets_0 : pm_B := ([(0, .aload_n 0, 1, 0, 0, []), (1, .iload_n 1, 1, 0, 0, []), (2, .invokevirtual 144, 3, 0, 0, []), (5, .ifCond .eq 15, 3, 0, 0, [(20, [])]), (8, .iload_n 2, 1, 0, 0, []), (9, .ifCond .eq 14, 3, 0, 0, [(23, [0, 1, 2])]), (12, .aload_n 0, 1, 0, 0, []), (13, .iload_n 2, 1, 0, 0, []), (14, .invokevirtual 144, 3, 0, 0, []), (17, .ifCond .ne 6, 3, 0, 0, [(23, [0, 1, 2])])], (20, []))
def bk_X7_lets_20 : pm_B := ([(20, .bipush (-2), 2, 2, 1, []), (22, .ireturn, 1, 0, 0, [])], (0, []))
def bk_X7_lets_23 : pm_B := ([(23, .aload_n 0, 1, 0, 0, []), (24, .iload_n 1, 1, 0, 0, []), (25, .iload_n 2, 1, 0, 0, []), (26, .invokevirtual 148, 3, 1, 0, []), (29, .ifCond .eq 7, 3, 0, 0, [(36, [])]), (32, .iconst 1, 1, 1, 0, []), (33, .goto 4, 3, 0, 0, [(37, [])])], (0, []))
def bk_X7_lets_36 : pm_B := ([(36, .iconst 0, 1, 0, 0, [])], (37, []))
def bk_X7_lets_37 : pm_B := ([(37, .ireturn, 1, 0, 0, [])], (0, []))
def bl_X7_lets : List (Nat × pm_B) := [(0, bk_X7_lets_0), (20, bk_X7_lets_20), (23, bk_X7_lets_23), (36, bk_X7_lets_36), (37, bk_X7_lets_37)]
def cs_X7_lets : List (Bool × Nat) := [(false, 144), (false, 148)]
theorem ck_X7_lets : pm_ckB yX7_lets.cls cX7_lets 3 cs_X7_lets bl_X7_lets = true := by decide +kernel
def bk_X7_tryStand_0 : pm_B := ([(0, .iconst 0, 1, 0, 0, []), (1, .istore_n 1, 1, 0, 0, [])], (2, [0, 1]))
def bk_X7_tryStand_2 : pm_B := ([(2, .iload_n 1, 1, 0, 0, []), (3, .iconst 4, 1, 4, 0, []), (4, .if_icmp .ge 33, 3, 0, 0, [(37, [0])]), (7, .aload_n 0, 1, 0, 0, []), (8, .getfield 48, 3, 7, 18, []), (11, .iload_n 1, 1, 0, 0, []), (12, .aload_n 0, 1, 0, 0, []), (13, .getfield 23, 3, 7, 8, []), (16, .iload_n 1, 1, 0, 0, []), (17, .iaload, 1, 0, 0, []), (18, .iastore, 1, 0, 0, []), (19, .aload_n 0, 1, 0, 0, []), (20, .getfield 57, 3, 7, 21, []), (23, .iload_n 1, 1, 0, 0, []), (24, .aload_n 0, 1, 0, 0, []), (25, .getfield 33, 3, 7, 11, []), (28, .iload_n 1, 1, 0, 0, []), (29, .iaload, 1, 0, 0, []), (30, .iastore, 1, 0, 0, []), (31, .iinc 1 1, 3, 1, 0, []), (34, .goto (-32), 3, 0, 0, [(2, [0, 1])])], (0, []))
def bk_X7_tryStand_37 : pm_B := ([(37, .iconst 0, 1, 0, 0, []), (38, .istore_n 1, 1, 0, 0, [])], (39, [0, 1]))
def bk_X7_tryStand_39 : pm_B := ([(39, .iload_n 1, 1, 0, 0, []), (40, .bipush 48, 2, 48, 0, []), (42, .if_icmp .ge 21, 3, 0, 0, [(63, [0])]), (45, .aload_n 0, 1, 0, 0, []), (46, .getfield 51, 3, 7, 19, []), (49, .iload_n 1, 1, 0, 0, []), (50, .aload_n 0, 1, 0, 0, []), (51, .getfield 27, 3, 7, 9, []), (54, .iload_n 1, 1, 0, 0, []), (55, .iaload, 1, 0, 0, []), (56, .iastore, 1, 0, 0, []), (57, .iinc 1 1, 3, 1, 0, []), (60, .goto (-21), 3, 0, 0, [(39, [0, 1])])], (0, []))
def bk_X7_tryStand_63 : pm_B := ([(63, .aload_n 0, 1, 0, 0, []), (64, .getfield 54, 3, 7, 20, []), (67, .iconst 0, 1, 0, 0, []), (68, .aload_n 0, 1, 0, 0, []), (69, .getfield 30, 3, 7, 10, []), (72, .iconst 0, 1, 0, 0, []), (73, .iaload, 1, 0, 0, []), (74, .iastore, 1, 0, 0, []), (75, .aload_n 0, 1, 0, 0, []), (76, .getfield 54, 3, 7, 20, []), (79, .iconst 1, 1, 1, 0, []), (80, .aload_n 0, 1, 0, 0, []), (81, .getfield 30, 3, 7, 10, []), (84, .iconst 1, 1, 1, 0, []), (85, .iaload, 1, 0, 0, []), (86, .iastore, 1, 0, 0, []), (87, .aload_n 0, 1, 0, 0, []), (88, .aload_n 0, 1, 0, 0, []), (89, .getfield 130, 3, 7, 3, []), (92, .putfield 152, 3, 7, 22, []), (95, .return_, 1, 0, 0, [])], (0, []))
def bl_X7_tryStand : List (Nat × pm_B) := [(0, bk_X7_tryStand_0), (2, bk_X7_tryStand_2), (37, bk_X7_tryStand_37), (39, bk_X7_tryStand_39), (63, bk_X7_tryStand_63)]
def cs_X7_tryStand : List (Bool × Nat) := []
theorem ck_X7_tryStand : pm_ckB yX7_tryStand.cls cX7_tryStand 2 cs_X7_tryStand bl_X7_tryStand = true := by decide +kernel
def bk_X7_keepsTried_0 : pm_B := ([(0, .iconst 0, 1, 0, 0, []), (1, .istore_n 1, 1, 0, 0, [])], (2, [0, 1]))
def bk_X7_keepsTried_2 : pm_B := ([(2, .iload_n 1, 1, 0, 0, []), (3, .iconst 4, 1, 4, 0, []), (4, .if_icmp .ge 33, 3, 0, 0, [(37, [0])]), (7, .aload_n 0, 1, 0, 0, []), (8, .getfield 23, 3, 7, 8, []), (11, .iload_n 1, 1, 0, 0, []), (12, .aload_n 0, 1, 0, 0, []), (13, .getfield 48, 3, 7, 18, []), (16, .iload_n 1, 1, 0, 0, []), (17, .iaload, 1, 0, 0, []), (18, .iastore, 1, 0, 0, []), (19, .aload_n 0, 1, 0, 0, []), (20, .getfield 33, 3, 7, 11, []), (23, .iload_n 1, 1, 0, 0, []), (24, .aload_n 0, 1, 0, 0, []), (25, .getfield 57, 3, 7, 21, []), (28, .iload_n 1, 1, 0, 0, []), (29, .iaload, 1, 0, 0, []), (30, .iastore, 1, 0, 0, []), (31, .iinc 1 1, 3, 1, 0, []), (34, .goto (-32), 3, 0, 0, [(2, [0, 1])])], (0, []))
def bk_X7_keepsTried_37 : pm_B := ([(37, .iconst 0, 1, 0, 0, []), (38, .istore_n 1, 1, 0, 0, [])], (39, [0, 1]))
def bk_X7_keepsTried_39 : pm_B := ([(39, .iload_n 1, 1, 0, 0, []), (40, .bipush 48, 2, 48, 0, []), (42, .if_icmp .ge 21, 3, 0, 0, [(63, [0])]), (45, .aload_n 0, 1, 0, 0, []), (46, .getfield 27, 3, 7, 9, []), (49, .iload_n 1, 1, 0, 0, []), (50, .aload_n 0, 1, 0, 0, []), (51, .getfield 51, 3, 7, 19, []), (54, .iload_n 1, 1, 0, 0, []), (55, .iaload, 1, 0, 0, []), (56, .iastore, 1, 0, 0, []), (57, .iinc 1 1, 3, 1, 0, []), (60, .goto (-21), 3, 0, 0, [(39, [0, 1])])], (0, []))
def bk_X7_keepsTried_63 : pm_B := ([(63, .aload_n 0, 1, 0, 0, []), (64, .getfield 30, 3, 7, 10, []), (67, .iconst 0, 1, 0, 0, []), (68, .aload_n 0, 1, 0, 0, []), (69, .getfield 54, 3, 7, 20, []), (72, .iconst 0, 1, 0, 0, []), (73, .iaload, 1, 0, 0, []), (74, .iastore, 1, 0, 0, []), (75, .aload_n 0, 1, 0, 0, []), (76, .getfield 30, 3, 7, 10, []), (79, .iconst 1, 1, 1, 0, []), (80, .aload_n 0, 1, 0, 0, []), (81, .getfield 54, 3, 7, 20, []), (84, .iconst 1, 1, 1, 0, []), (85, .iaload, 1, 0, 0, []), (86, .iastore, 1, 0, 0, []), (87, .return_, 1, 0, 0, [])], (0, []))
def bl_X7_keepsTried : List (Nat × pm_B) := [(0, bk_X7_keepsTried_0), (2, bk_X7_keepsTried_2), (37, bk_X7_keepsTried_37), (39, bk_X7_keepsTried_39), (63, bk_X7_keepsTried_63)]
def cs_X7_keepsTried : List (Bool × Nat) := []
theorem ck_X7_keepsTried : pm_ckB yX7_keepsTried.cls cX7_keepsTried 2 cs_X7_keepsTried bl_X7_keepsTried = true := by decide +kernel
def bk_X7_lastOf_0 : pm_B := ([(0, .iload_n 1, 1, 0, 0, []), (1, .iconst 4, 1, 4, 0, []), (2, .if_icmp .lt 12, 3, 0, 0, [(14, [0, 1])]), (5, .aload_n 0, 1, 0, 0, []), (6, .getfield 54, 3, 7, 20, []), (9, .iload_n 1, 1, 0, 0, []), (10, .iconst 4, 1, 4, 0, []), (11, .isub, 1, 0, 0, []), (12, .iaload, 1, 0, 0, []), (13, .ireturn, 1, 0, 0, [])], (0, []))
def bk_X7_lastOf_14 : pm_B := ([(14, .aload_n 0, 1, 0, 0, []), (15, .getfield 48, 3, 7, 18, []), (18, .iload_n 1, 1, 0, 0, []), (19, .iaload, 1, 0, 0, []), (20, .ifCond .ne 7, 3, 0, 0, [(27, [0, 1])]), (23, .iconst 0, 1, 0, 0, []), (24, .goto 21, 3, 0, 0, [(45, [])])], (0, []))
def bk_X7_lastOf_27 : pm_B := ([(27, .aload_n 0, 1, 0, 0, []), (28, .getfield 51, 3, 7, 19, []), (31, .bipush 12, 2, 12, 0, []), (33, .iload_n 1, 1, 0, 0, []), (34, .imul, 1, 0, 0, []), (35, .aload_n 0, 1, 0, 0, []), (36, .getfield 48, 3, 7, 18, []), (39, .iload_n 1, 1, 0, 0, []), (40, .iaload, 1, 0, 0, []), (41, .iadd, 1, 0, 0, []), (42, .iconst 1, 1, 1, 0, []), (43, .isub, 1, 0, 0, []), (44, .iaload, 1, 0, 0, [])], (45, []))
def bk_X7_lastOf_45 : pm_B := ([(45, .ireturn, 1, 0, 0, [])], (0, []))
def bl_X7_lastOf : List (Nat × pm_B) := [(0, bk_X7_lastOf_0), (14, bk_X7_lastOf_14), (27, bk_X7_lastOf_27), (45, bk_X7_lastOf_45)]
def cs_X7_lastOf : List (Bool × Nat) := []
theorem ck_X7_lastOf : pm_ckB yX7_lastOf.cls cX7_lastOf 2 cs_X7_lastOf bl_X7_lastOf = true := by decide +kernel
def bk_X7_freeCell_0 : pm_B := ([(0, .iconst 0, 1, 0, 0, []), (1, .istore_n 1, 1, 0, 0, [])], (2, [0, 1]))
def bk_X7_freeCell_2 : pm_B := ([(2, .iload_n 1, 1, 0, 0, []), (3, .aload_n 0, 1, 0, 0, []), (4, .getfield 152, 3, 7, 22, []), (7, .if_icmp .ge 20, 3, 0, 0, [(27, [])]), (10, .aload_n 0, 1, 0, 0, []), (11, .getfield 54, 3, 7, 20, []), (14, .iload_n 1, 1, 0, 0, []), (15, .iaload, 1, 0, 0, []), (16, .ifCond .ne 5, 3, 0, 0, [(21, [0, 1])]), (19, .iload_n 1, 1, 0, 0, []), (20, .ireturn, 1, 0, 0, [])], (0, []))
def bk_X7_freeCell_21 : pm_B := ([(21, .iinc 1 1, 3, 1, 0, []), (24, .goto (-22), 3, 0, 0, [(2, [0, 1])])], (0, []))
def bk_X7_freeCell_27 : pm_B := ([(27, .iconst (-1), 1, 1, 1, []), (28, .ireturn, 1, 0, 0, [])], (0, []))
def bl_X7_freeCell : List (Nat × pm_B) := [(0, bk_X7_freeCell_0), (2, bk_X7_freeCell_2), (21, bk_X7_freeCell_21), (27, bk_X7_freeCell_27)]
def cs_X7_freeCell : List (Bool × Nat) := []
theorem ck_X7_freeCell : pm_ckB yX7_freeCell.cls cX7_freeCell 2 cs_X7_freeCell bl_X7_freeCell = true := by decide +kernel
def bk_X7_whyNot_0 : pm_B := ([(0, .aload_n 0, 1, 0, 0, []), (1, .iload_n 1, 1, 0, 0, []), (2, .invokevirtual 155, 3, 0, 0, []), (5, .istore_n 3, 1, 0, 0, []), (6, .iload_n 3, 1, 0, 0, []), (7, .ifCond .ne 5, 3, 0, 0, [(12, [0, 2, 3])]), (10, .iconst 1, 1, 1, 0, []), (11, .ireturn, 1, 0, 0, [])], (0, []))
def bk_X7_whyNot_12 : pm_B := ([(12, .iload_n 2, 1, 0, 0, []), (13, .iconst 4, 1, 4, 0, []), (14, .if_icmp .ne 17, 3, 0, 0, [(31, [0, 2, 3])]), (17, .aload_n 0, 1, 0, 0, []), (18, .invokevirtual 159, 3, 1, 0, []), (21, .iconst (-1), 1, 1, 1, []), (22, .if_icmp .ne 7, 3, 0, 0, [(29, [])]), (25, .iconst 2, 1, 2, 0, []), (26, .goto 4, 3, 0, 0, [(30, [])])], (0, []))
def bk_X7_whyNot_29 : pm_B := ([(29, .iconst 0, 1, 0, 0, [])], (30, []))
def bk_X7_whyNot_30 : pm_B := ([(30, .ireturn, 1, 0, 0, [])], (0, []))
def bk_X7_whyNot_31 : pm_B := ([(31, .iload_n 2, 1, 0, 0, []), (32, .iconst 5, 1, 5, 0, []), (33, .if_icmp .ne 26, 3, 0, 0, [(59, [0, 2, 3])]), (36, .aload_n 0, 1, 0, 0, []), (37, .getfield 57, 3, 7, 21, []), (40, .iload_n 3, 1, 0, 0, []), (41, .iconst 3, 1, 3, 0, []), (42, .ishr, 1, 0, 0, []), (43, .iaload, 1, 0, 0, []), (44, .iload_n 3, 1, 0, 0, []), (45, .bipush 7, 2, 7, 0, []), (47, .iand, 1, 0, 0, []), (48, .iconst 1, 1, 1, 0, []), (49, .isub, 1, 0, 0, []), (50, .if_icmp .ne 7, 3, 0, 0, [(57, [])]), (53, .iconst 0, 1, 0, 0, []), (54, .goto 4, 3, 0, 0, [(58, [])])], (0, []))
def bk_X7_whyNot_57 : pm_B := ([(57, .iconst 3, 1, 3, 0, [])], (58, []))
def bk_X7_whyNot_58 : pm_B := ([(58, .ireturn, 1, 0, 0, [])], (0, []))
def bk_X7_whyNot_59 : pm_B := ([(59, .aload_n 0, 1, 0, 0, []), (60, .getfield 48, 3, 7, 18, []), (63, .iload_n 2, 1, 0, 0, []), (64, .iaload, 1, 0, 0, []), (65, .ifCond .le 35, 3, 0, 0, [(100, [0, 3])]), (68, .aload_n 0, 1, 0, 0, []), (69, .iload_n 3, 1, 0, 0, []), (70, .aload_n 0, 1, 0, 0, []), (71, .getfield 51, 3, 7, 19, []), (74, .bipush 12, 2, 12, 0, []), (76, .iload_n 2, 1, 0, 0, []), (77, .imul, 1, 0, 0, []), (78, .aload_n 0, 1, 0, 0, []), (79, .getfield 48, 3, 7, 18, []), (82, .iload_n 2, 1, 0, 0, []), (83, .iaload, 1, 0, 0, []), (84, .iadd, 1, 0, 0, []), (85, .iconst 1, 1, 1, 0, []), (86, .isub, 1, 0, 0, []), (87, .iaload, 1, 0, 0, []), (88, .invokevirtual 148, 3, 2, 0, []), (91, .ifCond .eq 7, 3, 0, 0, [(98, [])]), (94, .iconst 0, 1, 0, 0, []), (95, .goto 4, 3, 0, 0, [(99, [])])], (0, []))
def bk_X7_whyNot_98 : pm_B := ([(98, .iconst 4, 1, 4, 0, [])], (99, []))
def bk_X7_whyNot_99 : pm_B := ([(99, .ireturn, 1, 0, 0, [])], (0, []))
def bk_X7_whyNot_100 : pm_B := ([(100, .aload_n 0, 1, 0, 0, []), (101, .iload_n 3, 1, 0, 0, []), (102, .iconst 0, 1, 0, 0, []), (103, .invokevirtual 148, 3, 2, 0, []), (106, .ifCond .eq 7, 3, 0, 0, [(113, [])]), (109, .iconst 0, 1, 0, 0, []), (110, .goto 4, 3, 0, 0, [(114, [])])], (0, []))
def bk_X7_whyNot_113 : pm_B := ([(113, .iconst 5, 1, 5, 0, [])], (114, []))
def bk_X7_whyNot_114 : pm_B := ([(114, .ireturn, 1, 0, 0, [])], (0, []))
def bl_X7_whyNot : List (Nat × pm_B) := [(0, bk_X7_whyNot_0), (12, bk_X7_whyNot_12), (29, bk_X7_whyNot_29), (30, bk_X7_whyNot_30), (31, bk_X7_whyNot_31), (57, bk_X7_whyNot_57), (58, bk_X7_whyNot_58), (59, bk_X7_whyNot_59), (98, bk_X7_whyNot_98), (99, bk_X7_whyNot_99), (100, bk_X7_whyNot_100), (113, bk_X7_whyNot_113), (114, bk_X7_whyNot_114)]
def cs_X7_whyNot : List (Bool × Nat) := [(false, 155), (false, 159), (false, 148)]
theorem ck_X7_whyNot : pm_ckB yX7_whyNot.cls cX7_whyNot 4 cs_X7_whyNot bl_X7_whyNot = true := by decide +kernel
def bk_X7_doMove_0 : pm_B := ([(0, .aload_n 0, 1, 0, 0, []), (1, .iload_n 1, 1, 0, 0, []), (2, .invokevirtual 155, 3, 0, 0, []), (5, .istore_n 3, 1, 0, 0, []), (6, .iload_n 1, 1, 0, 0, []), (7, .iconst 4, 1, 4, 0, []), (8, .if_icmp .lt 15, 3, 0, 0, [(23, [0, 1, 2, 3])]), (11, .aload_n 0, 1, 0, 0, []), (12, .getfield 54, 3, 7, 20, []), (15, .iload_n 1, 1, 0, 0, []), (16, .iconst 4, 1, 4, 0, []), (17, .isub, 1, 0, 0, []), (18, .iconst 0, 1, 0, 0, []), (19, .iastore, 1, 0, 0, []), (20, .goto 13, 3, 0, 0, [(33, [0, 2, 3])])], (0, []))
def bk_X7_doMove_23 : pm_B := ([(23, .aload_n 0, 1, 0, 0, []), (24, .getfield 48, 3, 7, 18, []), (27, .iload_n 1, 1, 0, 0, []), (28, .dup2, 1, 0, 0, []), (29, .iaload, 1, 0, 0, []), (30, .iconst 1, 1, 1, 0, []), (31, .isub, 1, 0, 0, []), (32, .iastore, 1, 0, 0, [])], (33, [0, 2, 3]))
def bk_X7_doMove_33 : pm_B := ([(33, .iload_n 2, 1, 0, 0, []), (34, .iconst 4, 1, 4, 0, []), (35, .if_icmp .ne 16, 3, 0, 0, [(51, [0, 2, 3])]), (38, .aload_n 0, 1, 0, 0, []), (39, .getfield 54, 3, 7, 20, []), (42, .aload_n 0, 1, 0, 0, []), (43, .invokevirtual 159, 3, 1, 0, []), (46, .iload_n 3, 1, 0, 0, []), (47, .iastore, 1, 0, 0, []), (48, .goto 45, 3, 0, 0, [(93, [])])], (0, []))
def bk_X7_doMove_51 : pm_B := ([(51, .iload_n 2, 1, 0, 0, []), (52, .iconst 5, 1, 5, 0, []), (53, .if_icmp .ne 18, 3, 0, 0, [(71, [0, 2, 3])]), (56, .aload_n 0, 1, 0, 0, []), (57, .getfield 57, 3, 7, 21, []), (60, .iload_n 3, 1, 0, 0, []), (61, .iconst 3, 1, 3, 0, []), (62, .ishr, 1, 0, 0, []), (63, .dup2, 1, 0, 0, []), (64, .iaload, 1, 0, 0, []), (65, .iconst 1, 1, 1, 0, []), (66, .iadd, 1, 0, 0, []), (67, .iastore, 1, 0, 0, []), (68, .goto 25, 3, 0, 0, [(93, [])])], (0, []))
def bk_X7_doMove_71 : pm_B := ([(71, .aload_n 0, 1, 0, 0, []), (72, .getfield 51, 3, 7, 19, []), (75, .bipush 12, 2, 12, 0, []), (77, .iload_n 2, 1, 0, 0, []), (78, .imul, 1, 0, 0, []), (79, .aload_n 0, 1, 0, 0, []), (80, .getfield 48, 3, 7, 18, []), (83, .iload_n 2, 1, 0, 0, []), (84, .dup2, 1, 0, 0, []), (85, .iaload, 1, 0, 0, []), (86, .dup_x2, 1, 0, 0, []), (87, .iconst 1, 1, 1, 0, []), (88, .iadd, 1, 0, 0, []), (89, .iastore, 1, 0, 0, []), (90, .iadd, 1, 0, 0, []), (91, .iload_n 3, 1, 0, 0, []), (92, .iastore, 1, 0, 0, [])], (93, []))
def bk_X7_doMove_93 : pm_B := ([(93, .return_, 1, 0, 0, [])], (0, []))
def bl_X7_doMove : List (Nat × pm_B) := [(0, bk_X7_doMove_0), (23, bk_X7_doMove_23), (33, bk_X7_doMove_33), (51, bk_X7_doMove_51), (71, bk_X7_doMove_71), (93, bk_X7_doMove_93)]
def cs_X7_doMove : List (Bool × Nat) := [(false, 155), (false, 159)]
theorem ck_X7_doMove : pm_ckB yX7_doMove.cls cX7_doMove 4 cs_X7_doMove bl_X7_doMove = true := by decide +kernel
def bk_X7_isMove_0 : pm_B := ([(0, .iload_n 1, 1, 0, 0, []), (1, .iconst 0, 1, 0, 0, []), (2, .aload_n 0, 1, 0, 0, []), (3, .getfield 16, 3, 7, 2, []), (6, .iconst 1, 1, 1, 0, []), (7, .isub, 1, 0, 0, []), (8, .invokestatic 111, 3, 0, 0, []), (11, .ifCond .ne 16, 3, 0, 0, [(27, [0, 1, 2])]), (14, .iload_n 1, 1, 0, 0, []), (15, .iconst 4, 1, 4, 0, []), (16, .iconst 3, 1, 3, 0, []), (17, .iload_n 3, 1, 0, 0, []), (18, .iadd, 1, 0, 0, []), (19, .invokestatic 111, 3, 0, 0, []), (22, .ifCond .ne 5, 3, 0, 0, [(27, [0, 1, 2])]), (25, .iconst 0, 1, 0, 0, []), (26, .ireturn, 1, 0, 0, [])], (0, []))
def bk_X7_isMove_27 : pm_B := ([(27, .iload_n 2, 1, 0, 0, []), (28, .iconst 0, 1, 0, 0, []), (29, .aload_n 0, 1, 0, 0, []), (30, .getfield 16, 3, 7, 2, []), (33, .iconst 1, 1, 1, 0, []), (34, .isub, 1, 0, 0, []), (35, .invokestatic 111, 3, 0, 0, []), (38, .ifCond .ne 15, 3, 0, 0, [(53, [1, 2])]), (41, .iload_n 2, 1, 0, 0, []), (42, .iconst 4, 1, 4, 0, []), (43, .if_icmp .eq 10, 3, 0, 0, [(53, [1, 2])]), (46, .iload_n 2, 1, 0, 0, []), (47, .iconst 5, 1, 5, 0, []), (48, .if_icmp .eq 5, 3, 0, 0, [(53, [1, 2])]), (51, .iconst 0, 1, 0, 0, []), (52, .ireturn, 1, 0, 0, [])], (0, []))
def bk_X7_isMove_53 : pm_B := ([(53, .iload_n 1, 1, 0, 0, []), (54, .iconst 4, 1, 4, 0, []), (55, .if_icmp .ge 16, 3, 0, 0, [(71, [2])]), (58, .iload_n 1, 1, 0, 0, []), (59, .iload_n 2, 1, 0, 0, []), (60, .if_icmp .eq 7, 3, 0, 0, [(67, [])]), (63, .iconst 1, 1, 1, 0, []), (64, .goto 17, 3, 0, 0, [(81, [])])], (0, []))
def bk_X7_isMove_67 : pm_B := ([(67, .iconst 0, 1, 0, 0, []), (68, .goto 13, 3, 0, 0, [(81, [])])], (0, []))
def bk_X7_isMove_71 : pm_B := ([(71, .iload_n 2, 1, 0, 0, []), (72, .iconst 4, 1, 4, 0, []), (73, .if_icmp .eq 7, 3, 0, 0, [(80, [])]), (76, .iconst 1, 1, 1, 0, []), (77, .goto 4, 3, 0, 0, [(81, [])])], (0, []))
def bk_X7_isMove_80 : pm_B := ([(80, .iconst 0, 1, 0, 0, [])], (81, []))
def bk_X7_isMove_81 : pm_B := ([(81, .ireturn, 1, 0, 0, [])], (0, []))
def bl_X7_isMove : List (Nat × pm_B) := [(0, bk_X7_isMove_0), (27, bk_X7_isMove_27), (53, bk_X7_isMove_53), (67, bk_X7_isMove_67), (71, bk_X7_isMove_71), (80, bk_X7_isMove_80), (81, bk_X7_isMove_81)]
def cs_X7_isMove : List (Bool × Nat) := [(true, 111)]
theorem ck_X7_isMove : pm_ckB yX7_isMove.cls cX7_isMove 4 cs_X7_isMove bl_X7_isMove = true := by decide +kernel
def bk_X7_saves_0 : pm_B := ([(0, .iconst 0, 1, 0, 0, []), (1, .istore_n 2, 1, 0, 0, [])], (2, [0, 1, 2]))
def bk_X7_saves_2 : pm_B := ([(2, .iload_n 2, 1, 0, 0, []), (3, .iconst 4, 1, 4, 0, []), (4, .if_icmp .ge 41, 3, 0, 0, [(45, [0, 1])]), (7, .aload_n 0, 1, 0, 0, []), (8, .getfield 36, 3, 7, 14, []), (11, .iconst 4, 1, 4, 0, []), (12, .iload_n 1, 1, 0, 0, []), (13, .imul, 1, 0, 0, []), (14, .iload_n 2, 1, 0, 0, []), (15, .iadd, 1, 0, 0, []), (16, .aload_n 0, 1, 0, 0, []), (17, .getfield 23, 3, 7, 8, []), (20, .iload_n 2, 1, 0, 0, []), (21, .iaload, 1, 0, 0, []), (22, .iastore, 1, 0, 0, []), (23, .aload_n 0, 1, 0, 0, []), (24, .getfield 45, 3, 7, 17, []), (27, .iconst 4, 1, 4, 0, []), (28, .iload_n 1, 1, 0, 0, []), (29, .imul, 1, 0, 0, []), (30, .iload_n 2, 1, 0, 0, []), (31, .iadd, 1, 0, 0, []), (32, .aload_n 0, 1, 0, 0, []), (33, .getfield 33, 3, 7, 11, []), (36, .iload_n 2, 1, 0, 0, []), (37, .iaload, 1, 0, 0, []), (38, .iastore, 1, 0, 0, []), (39, .iinc 2 1, 3, 1, 0, []), (42, .goto (-40), 3, 0, 0, [(2, [0, 1, 2])])], (0, []))
def bk_X7_saves_45 : pm_B := ([(45, .iconst 0, 1, 0, 0, []), (46, .istore_n 2, 1, 0, 0, [])], (47, [0, 1, 2]))
def bk_X7_saves_47 : pm_B := ([(47, .iload_n 2, 1, 0, 0, []), (48, .bipush 48, 2, 48, 0, []), (50, .if_icmp .ge 26, 3, 0, 0, [(76, [0, 1])]), (53, .aload_n 0, 1, 0, 0, []), (54, .getfield 39, 3, 7, 15, []), (57, .bipush 48, 2, 48, 0, []), (59, .iload_n 1, 1, 0, 0, []), (60, .imul, 1, 0, 0, []), (61, .iload_n 2, 1, 0, 0, []), (62, .iadd, 1, 0, 0, []), (63, .aload_n 0, 1, 0, 0, []), (64, .getfield 27, 3, 7, 9, []), (67, .iload_n 2, 1, 0, 0, []), (68, .iaload, 1, 0, 0, []), (69, .iastore, 1, 0, 0, []), (70, .iinc 2 1, 3, 1, 0, []), (73, .goto (-26), 3, 0, 0, [(47, [0, 1, 2])])], (0, []))
def bk_X7_saves_76 : pm_B := ([(76, .aload_n 0, 1, 0, 0, []), (77, .getfield 42, 3, 7, 16, []), (80, .iconst 2, 1, 2, 0, []), (81, .iload_n 1, 1, 0, 0, []), (82, .imul, 1, 0, 0, []), (83, .aload_n 0, 1, 0, 0, []), (84, .getfield 30, 3, 7, 10, []), (87, .iconst 0, 1, 0, 0, []), (88, .iaload, 1, 0, 0, []), (89, .iastore, 1, 0, 0, []), (90, .aload_n 0, 1, 0, 0, []), (91, .getfield 42, 3, 7, 16, []), (94, .iconst 2, 1, 2, 0, []), (95, .iload_n 1, 1, 0, 0, []), (96, .imul, 1, 0, 0, []), (97, .iconst 1, 1, 1, 0, []), (98, .iadd, 1, 0, 0, []), (99, .aload_n 0, 1, 0, 0, []), (100, .getfield 30, 3, 7, 10, []), (103, .iconst 1, 1, 1, 0, []), (104, .iaload, 1, 0, 0, []), (105, .iastore, 1, 0, 0, []), (106, .return_, 1, 0, 0, [])], (0, []))
def bl_X7_saves : List (Nat × pm_B) := [(0, bk_X7_saves_0), (2, bk_X7_saves_2), (45, bk_X7_saves_45), (47, bk_X7_saves_47), (76, bk_X7_saves_76)]
def cs_X7_saves : List (Bool × Nat) := []
theorem ck_X7_saves : pm_ckB yX7_saves.cls cX7_saves 3 cs_X7_saves bl_X7_saves = true := by decide +kernel
def bk_X7_brings_0 : pm_B := ([(0, .iconst 0, 1, 0, 0, []), (1, .istore_n 2, 1, 0, 0, [])], (2, [0, 1, 2]))
def bk_X7_brings_2 : pm_B := ([(2, .iload_n 2, 1, 0, 0, []), (3, .iconst 4, 1, 4, 0, []), (4, .if_icmp .ge 41, 3, 0, 0, [(45, [0, 1])]), (7, .aload_n 0, 1, 0, 0, []), (8, .getfield 23, 3, 7, 8, []), (11, .iload_n 2, 1, 0, 0, []), (12, .aload_n 0, 1, 0, 0, []), (13, .getfield 36, 3, 7, 14, []), (16, .iconst 4, 1, 4, 0, []), (17, .iload_n 1, 1, 0, 0, []), (18, .imul, 1, 0, 0, []), (19, .iload_n 2, 1, 0, 0, []), (20, .iadd, 1, 0, 0, []), (21, .iaload, 1, 0, 0, []), (22, .iastore, 1, 0, 0, []), (23, .aload_n 0, 1, 0, 0, []), (24, .getfield 33, 3, 7, 11, []), (27, .iload_n 2, 1, 0, 0, []), (28, .aload_n 0, 1, 0, 0, []), (29, .getfield 45, 3, 7, 17, []), (32, .iconst 4, 1, 4, 0, []), (33, .iload_n 1, 1, 0, 0, []), (34, .imul, 1, 0, 0, []), (35, .iload_n 2, 1, 0, 0, []), (36, .iadd, 1, 0, 0, []), (37, .iaload, 1, 0, 0, []), (38, .iastore, 1, 0, 0, []), (39, .iinc 2 1, 3, 1, 0, []), (42, .goto (-40), 3, 0, 0, [(2, [0, 1, 2])])], (0, []))
def bk_X7_brings_45 : pm_B := ([(45, .iconst 0, 1, 0, 0, []), (46, .istore_n 2, 1, 0, 0, [])], (47, [0, 1, 2]))
def bk_X7_brings_47 : pm_B := ([(47, .iload_n 2, 1, 0, 0, []), (48, .bipush 48, 2, 48, 0, []), (50, .if_icmp .ge 26, 3, 0, 0, [(76, [0, 1])]), (53, .aload_n 0, 1, 0, 0, []), (54, .getfield 27, 3, 7, 9, []), (57, .iload_n 2, 1, 0, 0, []), (58, .aload_n 0, 1, 0, 0, []), (59, .getfield 39, 3, 7, 15, []), (62, .bipush 48, 2, 48, 0, []), (64, .iload_n 1, 1, 0, 0, []), (65, .imul, 1, 0, 0, []), (66, .iload_n 2, 1, 0, 0, []), (67, .iadd, 1, 0, 0, []), (68, .iaload, 1, 0, 0, []), (69, .iastore, 1, 0, 0, []), (70, .iinc 2 1, 3, 1, 0, []), (73, .goto (-26), 3, 0, 0, [(47, [0, 1, 2])])], (0, []))
def bk_X7_brings_76 : pm_B := ([(76, .aload_n 0, 1, 0, 0, []), (77, .getfield 30, 3, 7, 10, []), (80, .iconst 0, 1, 0, 0, []), (81, .aload_n 0, 1, 0, 0, []), (82, .getfield 42, 3, 7, 16, []), (85, .iconst 2, 1, 2, 0, []), (86, .iload_n 1, 1, 0, 0, []), (87, .imul, 1, 0, 0, []), (88, .iaload, 1, 0, 0, []), (89, .iastore, 1, 0, 0, []), (90, .aload_n 0, 1, 0, 0, []), (91, .getfield 30, 3, 7, 10, []), (94, .iconst 1, 1, 1, 0, []), (95, .aload_n 0, 1, 0, 0, []), (96, .getfield 42, 3, 7, 16, []), (99, .iconst 2, 1, 2, 0, []), (100, .iload_n 1, 1, 0, 0, []), (101, .imul, 1, 0, 0, []), (102, .iconst 1, 1, 1, 0, []), (103, .iadd, 1, 0, 0, []), (104, .iaload, 1, 0, 0, []), (105, .iastore, 1, 0, 0, []), (106, .return_, 1, 0, 0, [])], (0, []))
def bl_X7_brings : List (Nat × pm_B) := [(0, bk_X7_brings_0), (2, bk_X7_brings_2), (45, bk_X7_brings_45), (47, bk_X7_brings_47), (76, bk_X7_brings_76)]
def cs_X7_brings : List (Bool × Nat) := []
theorem ck_X7_brings : pm_ckB yX7_brings.cls cX7_brings 3 cs_X7_brings bl_X7_brings = true := by decide +kernel
def bk_X7_moves_0 : pm_B := ([(0, .iconst 0, 1, 0, 0, []), (1, .istore_n 3, 1, 0, 0, [])], (2, [0, 1, 2, 3]))
def bk_X7_moves_2 : pm_B := ([(2, .iload_n 3, 1, 0, 0, []), (3, .iconst 4, 1, 4, 0, []), (4, .if_icmp .ge 49, 3, 0, 0, [(53, [0, 1, 2])]), (7, .aload_n 0, 1, 0, 0, []), (8, .getfield 36, 3, 7, 14, []), (11, .iconst 4, 1, 4, 0, []), (12, .iload_n 2, 1, 0, 0, []), (13, .imul, 1, 0, 0, []), (14, .iload_n 3, 1, 0, 0, []), (15, .iadd, 1, 0, 0, []), (16, .aload_n 0, 1, 0, 0, []), (17, .getfield 36, 3, 7, 14, []), (20, .iconst 4, 1, 4, 0, []), (21, .iload_n 1, 1, 0, 0, []), (22, .imul, 1, 0, 0, []), (23, .iload_n 3, 1, 0, 0, []), (24, .iadd, 1, 0, 0, []), (25, .iaload, 1, 0, 0, []), (26, .iastore, 1, 0, 0, []), (27, .aload_n 0, 1, 0, 0, []), (28, .getfield 45, 3, 7, 17, []), (31, .iconst 4, 1, 4, 0, []), (32, .iload_n 2, 1, 0, 0, []), (33, .imul, 1, 0, 0, []), (34, .iload_n 3, 1, 0, 0, []), (35, .iadd, 1, 0, 0, []), (36, .aload_n 0, 1, 0, 0, []), (37, .getfield 45, 3, 7, 17, []), (40, .iconst 4, 1, 4, 0, []), (41, .iload_n 1, 1, 0, 0, []), (42, .imul, 1, 0, 0, []), (43, .iload_n 3, 1, 0, 0, []), (44, .iadd, 1, 0, 0, []), (45, .iaload, 1, 0, 0, []), (46, .iastore, 1, 0, 0, []), (47, .iinc 3 1, 3, 1, 0, []), (50, .goto (-48), 3, 0, 0, [(2, [0, 1, 2, 3])])], (0, []))
def bk_X7_moves_53 : pm_B := ([(53, .iconst 0, 1, 0, 0, []), (54, .istore_n 3, 1, 0, 0, [])], (55, [0, 1, 2, 3]))
def bk_X7_moves_55 : pm_B := ([(55, .iload_n 3, 1, 0, 0, []), (56, .bipush 48, 2, 48, 0, []), (58, .if_icmp .ge 31, 3, 0, 0, [(89, [0, 1, 2])]), (61, .aload_n 0, 1, 0, 0, []), (62, .getfield 39, 3, 7, 15, []), (65, .bipush 48, 2, 48, 0, []), (67, .iload_n 2, 1, 0, 0, []), (68, .imul, 1, 0, 0, []), (69, .iload_n 3, 1, 0, 0, []), (70, .iadd, 1, 0, 0, []), (71, .aload_n 0, 1, 0, 0, []), (72, .getfield 39, 3, 7, 15, []), (75, .bipush 48, 2, 48, 0, []), (77, .iload_n 1, 1, 0, 0, []), (78, .imul, 1, 0, 0, []), (79, .iload_n 3, 1, 0, 0, []), (80, .iadd, 1, 0, 0, []), (81, .iaload, 1, 0, 0, []), (82, .iastore, 1, 0, 0, []), (83, .iinc 3 1, 3, 1, 0, []), (86, .goto (-31), 3, 0, 0, [(55, [0, 1, 2, 3])])], (0, []))
def bk_X7_moves_89 : pm_B := ([(89, .aload_n 0, 1, 0, 0, []), (90, .getfield 42, 3, 7, 16, []), (93, .iconst 2, 1, 2, 0, []), (94, .iload_n 2, 1, 0, 0, []), (95, .imul, 1, 0, 0, []), (96, .aload_n 0, 1, 0, 0, []), (97, .getfield 42, 3, 7, 16, []), (100, .iconst 2, 1, 2, 0, []), (101, .iload_n 1, 1, 0, 0, []), (102, .imul, 1, 0, 0, []), (103, .iaload, 1, 0, 0, []), (104, .iastore, 1, 0, 0, []), (105, .aload_n 0, 1, 0, 0, []), (106, .getfield 42, 3, 7, 16, []), (109, .iconst 2, 1, 2, 0, []), (110, .iload_n 2, 1, 0, 0, []), (111, .imul, 1, 0, 0, []), (112, .iconst 1, 1, 1, 0, []), (113, .iadd, 1, 0, 0, []), (114, .aload_n 0, 1, 0, 0, []), (115, .getfield 42, 3, 7, 16, []), (118, .iconst 2, 1, 2, 0, []), (119, .iload_n 1, 1, 0, 0, []), (120, .imul, 1, 0, 0, []), (121, .iconst 1, 1, 1, 0, []), (122, .iadd, 1, 0, 0, []), (123, .iaload, 1, 0, 0, []), (124, .iastore, 1, 0, 0, []), (125, .return_, 1, 0, 0, [])], (0, []))
def bl_X7_moves : List (Nat × pm_B) := [(0, bk_X7_moves_0), (2, bk_X7_moves_2), (53, bk_X7_moves_53), (55, bk_X7_moves_55), (89, bk_X7_moves_89)]
def cs_X7_moves : List (Bool × Nat) := []
theorem ck_X7_moves : pm_ckB yX7_moves.cls cX7_moves 4 cs_X7_moves bl_X7_moves = true := by decide +kernel
def bk_X7_done_0 : pm_B := ([(0, .aload_n 0, 1, 0, 0, []), (1, .getfield 121, 3, 7, 12, []), (4, .bipush 64, 2, 64, 0, []), (6, .if_icmp .ne 35, 3, 0, 0, [(41, [0])]), (9, .iconst 1, 1, 1, 0, []), (10, .istore_n 1, 1, 0, 0, [])], (11, [0, 1]))
def bk_X7_done_11 : pm_B := ([(11, .iload_n 1, 1, 0, 0, []), (12, .bipush 64, 2, 64, 0, []), (14, .if_icmp .ge 17, 3, 0, 0, [(31, [0])]), (17, .aload_n 0, 1, 0, 0, []), (18, .iload_n 1, 1, 0, 0, []), (19, .iload_n 1, 1, 0, 0, []), (20, .iconst 1, 1, 1, 0, []), (21, .isub, 1, 0, 0, []), (22, .invokevirtual 162, 3, 0, 0, []), (25, .iinc 1 1, 3, 1, 0, []), (28, .goto (-17), 3, 0, 0, [(11, [0, 1])])], (0, []))
def bk_X7_done_31 : pm_B := ([(31, .aload_n 0, 1, 0, 0, []), (32, .dup, 1, 0, 0, []), (33, .getfield 121, 3, 7, 12, []), (36, .iconst 1, 1, 1, 0, []), (37, .isub, 1, 0, 0, []), (38, .putfield 121, 3, 7, 12, [])], (41, [0]))
def bk_X7_done_41 : pm_B := ([(41, .aload_n 0, 1, 0, 0, []), (42, .aload_n 0, 1, 0, 0, []), (43, .dup, 1, 0, 0, []), (44, .getfield 121, 3, 7, 12, []), (47, .dup_x1, 1, 0, 0, []), (48, .iconst 1, 1, 1, 0, []), (49, .iadd, 1, 0, 0, []), (50, .putfield 121, 3, 7, 12, []), (53, .invokevirtual 166, 3, 1, 0, []), (56, .aload_n 0, 1, 0, 0, []), (57, .iconst 0, 1, 0, 0, []), (58, .putfield 124, 3, 7, 13, []), (61, .aload_n 0, 1, 0, 0, []), (62, .invokevirtual 170, 3, 2, 0, []), (65, .aload_n 0, 1, 0, 0, []), (66, .aload_n 0, 1, 0, 0, []), (67, .getfield 121, 3, 7, 12, []), (70, .invokevirtual 166, 3, 1, 0, []), (73, .return_, 1, 0, 0, [])], (0, []))
def bl_X7_done : List (Nat × pm_B) := [(0, bk_X7_done_0), (11, bk_X7_done_11), (31, bk_X7_done_31), (41, bk_X7_done_41)]
def cs_X7_done : List (Bool × Nat) := [(false, 162), (false, 166), (false, 170)]
theorem ck_X7_done : pm_ckB yX7_done.cls cX7_done 2 cs_X7_done bl_X7_done = true := by decide +kernel
def bk_X7_undo_0 : pm_B := ([(0, .aload_n 0, 1, 0, 0, []), (1, .getfield 121, 3, 7, 12, []), (4, .ifCond .ne 5, 3, 0, 0, [(9, [0])]), (7, .iconst (-1), 1, 1, 1, []), (8, .ireturn, 1, 0, 0, [])], (0, []))
def bk_X7_undo_9 : pm_B := ([(9, .aload_n 0, 1, 0, 0, []), (10, .aload_n 0, 1, 0, 0, []), (11, .getfield 121, 3, 7, 12, []), (14, .invokevirtual 166, 3, 0, 0, []), (17, .aload_n 0, 1, 0, 0, []), (18, .dup, 1, 0, 0, []), (19, .getfield 121, 3, 7, 12, []), (22, .iconst 1, 1, 1, 0, []), (23, .isub, 1, 0, 0, []), (24, .putfield 121, 3, 7, 12, []), (27, .aload_n 0, 1, 0, 0, []), (28, .dup, 1, 0, 0, []), (29, .getfield 124, 3, 7, 13, []), (32, .iconst 1, 1, 1, 0, []), (33, .iadd, 1, 0, 0, []), (34, .putfield 124, 3, 7, 13, []), (37, .aload_n 0, 1, 0, 0, []), (38, .aload_n 0, 1, 0, 0, []), (39, .getfield 121, 3, 7, 12, []), (42, .invokevirtual 173, 3, 1, 0, []), (45, .iconst 1, 1, 1, 0, []), (46, .ireturn, 1, 0, 0, [])], (0, []))
def bl_X7_undo : List (Nat × pm_B) := [(0, bk_X7_undo_0), (9, bk_X7_undo_9)]
def cs_X7_undo : List (Bool × Nat) := [(false, 166), (false, 173)]
theorem ck_X7_undo : pm_ckB yX7_undo.cls cX7_undo 1 cs_X7_undo bl_X7_undo = true := by decide +kernel
def bk_X7_redo_0 : pm_B := ([(0, .aload_n 0, 1, 0, 0, []), (1, .getfield 124, 3, 7, 13, []), (4, .ifCond .ne 5, 3, 0, 0, [(9, [0])]), (7, .iconst (-1), 1, 1, 1, []), (8, .ireturn, 1, 0, 0, [])], (0, []))
def bk_X7_redo_9 : pm_B := ([(9, .aload_n 0, 1, 0, 0, []), (10, .dup, 1, 0, 0, []), (11, .getfield 121, 3, 7, 12, []), (14, .iconst 1, 1, 1, 0, []), (15, .iadd, 1, 0, 0, []), (16, .putfield 121, 3, 7, 12, []), (19, .aload_n 0, 1, 0, 0, []), (20, .dup, 1, 0, 0, []), (21, .getfield 124, 3, 7, 13, []), (24, .iconst 1, 1, 1, 0, []), (25, .isub, 1, 0, 0, []), (26, .putfield 124, 3, 7, 13, []), (29, .aload_n 0, 1, 0, 0, []), (30, .aload_n 0, 1, 0, 0, []), (31, .getfield 121, 3, 7, 12, []), (34, .invokevirtual 173, 3, 0, 0, []), (37, .iconst 1, 1, 1, 0, []), (38, .ireturn, 1, 0, 0, [])], (0, []))
def bl_X7_redo : List (Nat × pm_B) := [(0, bk_X7_redo_0), (9, bk_X7_redo_9)]
def cs_X7_redo : List (Bool × Nat) := [(false, 173)]
theorem ck_X7_redo : pm_ckB yX7_redo.cls cX7_redo 1 cs_X7_redo bl_X7_redo = true := by decide +kernel
def bk_X7_move_0 : pm_B := ([(0, .aload_n 0, 1, 0, 0, []), (1, .iload_n 1, 1, 0, 0, []), (2, .iload_n 2, 1, 0, 0, []), (3, .aload_n 0, 1, 0, 0, []), (4, .getfield 130, 3, 7, 3, []), (7, .invokevirtual 176, 3, 0, 0, []), (10, .ifCond .ne 6, 3, 0, 0, [(16, [0, 1, 2])]), (13, .bipush (-2), 2, 2, 1, []), (15, .ireturn, 1, 0, 0, [])], (0, []))
def bk_X7_move_16 : pm_B := ([(16, .aload_n 0, 1, 0, 0, []), (17, .getfield 115, 3, 7, 5, []), (20, .aload_n 0, 1, 0, 0, []), (21, .invokevirtual 139, 3, 1, 0, []), (24, .if_icmp .ge 6, 3, 0, 0, [(30, [0, 1, 2])]), (27, .bipush (-3), 2, 3, 1, []), (29, .ireturn, 1, 0, 0, [])], (0, []))
def bk_X7_move_30 : pm_B := ([(30, .aload_n 0, 1, 0, 0, []), (31, .invokevirtual 179, 3, 2, 0, []), (34, .aload_n 0, 1, 0, 0, []), (35, .aload_n 0, 1, 0, 0, []), (36, .iload_n 1, 1, 0, 0, []), (37, .iload_n 2, 1, 0, 0, []), (38, .invokevirtual 182, 3, 3, 0, []), (41, .putfield 118, 3, 7, 7, []), (44, .aload_n 0, 1, 0, 0, []), (45, .getfield 118, 3, 7, 7, []), (48, .ifCond .eq 5, 3, 0, 0, [(53, [0, 1, 2])]), (51, .iconst 0, 1, 0, 0, []), (52, .ireturn, 1, 0, 0, [])], (0, []))
def bk_X7_move_53 : pm_B := ([(53, .aload_n 0, 1, 0, 0, []), (54, .iload_n 1, 1, 0, 0, []), (55, .iload_n 2, 1, 0, 0, []), (56, .invokevirtual 186, 3, 4, 0, []), (59, .aload_n 0, 1, 0, 0, []), (60, .invokevirtual 189, 3, 5, 0, []), (63, .iconst 1, 1, 1, 0, []), (64, .ireturn, 1, 0, 0, [])], (0, []))
def bl_X7_move : List (Nat × pm_B) := [(0, bk_X7_move_0), (16, bk_X7_move_16), (30, bk_X7_move_30), (53, bk_X7_move_53)]
def cs_X7_move : List (Bool × Nat) := [(false, 176), (false, 139), (false, 179), (false, 182), (false, 186), (false, 189)]
theorem ck_X7_move : pm_ckB yX7_move.cls cX7_move 3 cs_X7_move bl_X7_move = true := by decide +kernel
def bk_X7_why_0 : pm_B := ([(0, .aload_n 0, 1, 0, 0, []), (1, .getfield 118, 3, 7, 7, []), (4, .ireturn, 1, 0, 0, [])], (0, []))
def bl_X7_why : List (Nat × pm_B) := [(0, bk_X7_why_0)]
def cs_X7_why : List (Bool × Nat) := []
theorem ck_X7_why : pm_ckB yX7_why.cls cX7_why 1 cs_X7_why bl_X7_why = true := by decide +kernel
def bk_X7_carry_0 : pm_B := ([(0, .iload_n 1, 1, 0, 0, []), (1, .iconst 0, 1, 0, 0, []), (2, .aload_n 0, 1, 0, 0, []), (3, .getfield 16, 3, 7, 2, []), (6, .iconst 1, 1, 1, 0, []), (7, .isub, 1, 0, 0, []), (8, .invokestatic 111, 3, 0, 0, []), (11, .ifCond .eq 27, 3, 0, 0, [(38, [])]), (14, .iload_n 2, 1, 0, 0, []), (15, .iconst 0, 1, 0, 0, []), (16, .aload_n 0, 1, 0, 0, []), (17, .getfield 16, 3, 7, 2, []), (20, .iconst 1, 1, 1, 0, []), (21, .isub, 1, 0, 0, []), (22, .invokestatic 111, 3, 0, 0, []), (25, .ifCond .eq 13, 3, 0, 0, [(38, [])]), (28, .iload_n 1, 1, 0, 0, []), (29, .iload_n 2, 1, 0, 0, []), (30, .if_icmp .eq 8, 3, 0, 0, [(38, [])]), (33, .iload_n 3, 1, 0, 0, []), (34, .iconst 1, 1, 1, 0, []), (35, .if_icmp .ge 6, 3, 0, 0, [(41, [0, 1, 2, 3])])], (38, []))
def bk_X7_carry_38 : pm_B := ([(38, .bipush (-2), 2, 2, 1, []), (40, .ireturn, 1, 0, 0, [])], (0, []))
def bk_X7_carry_41 : pm_B := ([(41, .aload_n 0, 1, 0, 0, []), (42, .getfield 115, 3, 7, 5, []), (45, .aload_n 0, 1, 0, 0, []), (46, .invokevirtual 139, 3, 1, 0, []), (49, .if_icmp .ge 6, 3, 0, 0, [(55, [0, 1, 2, 3])]), (52, .bipush (-3), 2, 3, 1, []), (54, .ireturn, 1, 0, 0, [])], (0, []))
def bk_X7_carry_55 : pm_B := ([(55, .iload_n 3, 1, 0, 0, []), (56, .aload_n 0, 1, 0, 0, []), (57, .getfield 23, 3, 7, 8, []), (60, .iload_n 1, 1, 0, 0, []), (61, .iaload, 1, 0, 0, []), (62, .if_icmp .le 5, 3, 0, 0, [(67, [0, 1, 2, 3])]), (65, .iconst 0, 1, 0, 0, []), (66, .ireturn, 1, 0, 0, [])], (0, []))
def bk_X7_carry_67 : pm_B := ([(67, .iconst 1, 1, 1, 0, []), (68, .istore 4, 2, 0, 0, []), (70, .iconst 0, 1, 0, 0, []), (71, .istore 5, 2, 0, 0, [])], (73, [0, 1, 2, 3, 4, 5]))
def bk_X7_carry_73 : pm_B := ([(73, .iload 5, 2, 0, 0, []), (75, .aload_n 0, 1, 0, 0, []), (76, .getfield 130, 3, 7, 3, []), (79, .if_icmp .ge 22, 3, 0, 0, [(101, [0, 1, 2, 3, 4])]), (82, .aload_n 0, 1, 0, 0, []), (83, .getfield 30, 3, 7, 10, []), (86, .iload 5, 2, 0, 0, []), (88, .iaload, 1, 0, 0, []), (89, .ifCond .ne 6, 3, 0, 0, [(95, [0, 1, 2, 3, 4, 5])]), (92, .iinc 4 1, 3, 1, 0, [])], (95, [0, 1, 2, 3, 4, 5]))
def bk_X7_carry_95 : pm_B := ([(95, .iinc 5 1, 3, 1, 0, []), (98, .goto (-25), 3, 0, 0, [(73, [0, 1, 2, 3, 4, 5])])], (0, []))
def bk_X7_carry_101 : pm_B := ([(101, .iconst 0, 1, 0, 0, []), (102, .istore 5, 2, 0, 0, [])], (104, [0, 1, 2, 3, 4, 5]))
def bk_X7_carry_104 : pm_B := ([(104, .iload 5, 2, 0, 0, []), (106, .aload_n 0, 1, 0, 0, []), (107, .getfield 16, 3, 7, 2, []), (110, .if_icmp .ge 45, 3, 0, 0, [(155, [0, 1, 2, 3, 4])]), (113, .iload 5, 2, 0, 0, []), (115, .iload_n 1, 1, 0, 0, []), (116, .if_icmp .eq 33, 3, 0, 0, [(149, [0, 1, 2, 3, 4, 5])]), (119, .iload 5, 2, 0, 0, []), (121, .iload_n 2, 1, 0, 0, []), (122, .if_icmp .eq 27, 3, 0, 0, [(149, [0, 1, 2, 3, 4, 5])]), (125, .aload_n 0, 1, 0, 0, []), (126, .getfield 23, 3, 7, 8, []), (129, .iload 5, 2, 0, 0, []), (131, .iaload, 1, 0, 0, []), (132, .ifCond .ne 17, 3, 0, 0, [(149, [0, 1, 2, 3, 4, 5])]), (135, .aload_n 0, 1, 0, 0, []), (136, .getfield 133, 3, 7, 4, []), (139, .iconst 4, 1, 4, 0, []), (140, .if_icmp .eq 9, 3, 0, 0, [(149, [0, 1, 2, 3, 4, 5])]), (143, .iload 4, 2, 0, 0, []), (145, .iconst 2, 1, 2, 0, []), (146, .imul, 1, 0, 0, []), (147, .istore 4, 2, 0, 0, [])], (149, [0, 1, 2, 3, 4, 5]))
def bk_X7_carry_149 : pm_B := ([(149, .iinc 5 1, 3, 1, 0, []), (152, .goto (-48), 3, 0, 0, [(104, [0, 1, 2, 3, 4, 5])])], (0, []))
def bk_X7_carry_155 : pm_B := ([(155, .iload_n 3, 1, 0, 0, []), (156, .iload 4, 2, 0, 0, []), (158, .if_icmp .le 5, 3, 0, 0, [(163, [0, 1, 2, 3])]), (161, .iconst 0, 1, 0, 0, []), (162, .ireturn, 1, 0, 0, [])], (0, []))
def bk_X7_carry_163 : pm_B := ([(163, .bipush 12, 2, 12, 0, []), (165, .iload_n 1, 1, 0, 0, []), (166, .imul, 1, 0, 0, []), (167, .aload_n 0, 1, 0, 0, []), (168, .getfield 23, 3, 7, 8, []), (171, .iload_n 1, 1, 0, 0, []), (172, .iaload, 1, 0, 0, []), (173, .iadd, 1, 0, 0, []), (174, .iload_n 3, 1, 0, 0, []), (175, .isub, 1, 0, 0, []), (176, .istore 5, 2, 0, 0, []), (178, .iconst 1, 1, 1, 0, []), (179, .istore 6, 2, 0, 0, [])], (181, [0, 1, 2, 3, 5, 6]))
def bk_X7_carry_181 : pm_B := ([(181, .iload 6, 2, 0, 0, []), (183, .iload_n 3, 1, 0, 0, []), (184, .if_icmp .ge 40, 3, 0, 0, [(224, [0, 1, 2, 3, 5])]), (187, .aload_n 0, 1, 0, 0, []), (188, .aload_n 0, 1, 0, 0, []), (189, .getfield 27, 3, 7, 9, []), (192, .iload 5, 2, 0, 0, []), (194, .iload 6, 2, 0, 0, []), (196, .iadd, 1, 0, 0, []), (197, .iaload, 1, 0, 0, []), (198, .aload_n 0, 1, 0, 0, []), (199, .getfield 27, 3, 7, 9, []), (202, .iload 5, 2, 0, 0, []), (204, .iload 6, 2, 0, 0, []), (206, .iadd, 1, 0, 0, []), (207, .iconst 1, 1, 1, 0, []), (208, .isub, 1, 0, 0, []), (209, .iaload, 1, 0, 0, []), (210, .invokevirtual 148, 3, 2, 0, []), (213, .ifCond .ne 5, 3, 0, 0, [(218, [0, 1, 2, 3, 5, 6])]), (216, .iconst 0, 1, 0, 0, []), (217, .ireturn, 1, 0, 0, [])], (0, []))
def bk_X7_carry_218 : pm_B := ([(218, .iinc 6 1, 3, 1, 0, []), (221, .goto (-40), 3, 0, 0, [(181, [0, 1, 2, 3, 5, 6])])], (0, []))
def bk_X7_carry_224 : pm_B := ([(224, .aload_n 0, 1, 0, 0, []), (225, .aload_n 0, 1, 0, 0, []), (226, .getfield 27, 3, 7, 9, []), (229, .iload 5, 2, 0, 0, []), (231, .iaload, 1, 0, 0, []), (232, .aload_n 0, 1, 0, 0, []), (233, .getfield 23, 3, 7, 8, []), (236, .iload_n 2, 1, 0, 0, []), (237, .iaload, 1, 0, 0, []), (238, .ifCond .ne 7, 3, 0, 0, [(245, [0, 1, 2, 3, 5])]), (241, .iconst 0, 1, 0, 0, []), (242, .goto 21, 3, 0, 0, [(263, [0, 1, 2, 3, 5])])], (0, []))
def bk_X7_carry_245 : pm_B := ([(245, .aload_n 0, 1, 0, 0, []), (246, .getfield 27, 3, 7, 9, []), (249, .bipush 12, 2, 12, 0, []), (251, .iload_n 2, 1, 0, 0, []), (252, .imul, 1, 0, 0, []), (253, .aload_n 0, 1, 0, 0, []), (254, .getfield 23, 3, 7, 8, []), (257, .iload_n 2, 1, 0, 0, []), (258, .iaload, 1, 0, 0, []), (259, .iadd, 1, 0, 0, []), (260, .iconst 1, 1, 1, 0, []), (261, .isub, 1, 0, 0, []), (262, .iaload, 1, 0, 0, [])], (263, [0, 1, 2, 3, 5]))
def bk_X7_carry_263 : pm_B := ([(263, .invokevirtual 148, 3, 2, 0, []), (266, .ifCond .ne 5, 3, 0, 0, [(271, [0, 1, 2, 3, 5])]), (269, .iconst 0, 1, 0, 0, []), (270, .ireturn, 1, 0, 0, [])], (0, []))
def bk_X7_carry_271 : pm_B := ([(271, .aload_n 0, 1, 0, 0, []), (272, .invokevirtual 179, 3, 3, 0, []), (275, .iconst 0, 1, 0, 0, []), (276, .istore 6, 2, 0, 0, [])], (278, [0, 1, 2, 3, 5, 6]))
def bk_X7_carry_278 : pm_B := ([(278, .iload 6, 2, 0, 0, []), (280, .iload_n 3, 1, 0, 0, []), (281, .if_icmp .ge 38, 3, 0, 0, [(319, [0, 1, 2, 3])]), (284, .aload_n 0, 1, 0, 0, []), (285, .getfield 51, 3, 7, 19, []), (288, .bipush 12, 2, 12, 0, []), (290, .iload_n 2, 1, 0, 0, []), (291, .imul, 1, 0, 0, []), (292, .aload_n 0, 1, 0, 0, []), (293, .getfield 48, 3, 7, 18, []), (296, .iload_n 2, 1, 0, 0, []), (297, .iaload, 1, 0, 0, []), (298, .iadd, 1, 0, 0, []), (299, .iload 6, 2, 0, 0, []), (301, .iadd, 1, 0, 0, []), (302, .aload_n 0, 1, 0, 0, []), (303, .getfield 51, 3, 7, 19, []), (306, .iload 5, 2, 0, 0, []), (308, .iload 6, 2, 0, 0, []), (310, .iadd, 1, 0, 0, []), (311, .iaload, 1, 0, 0, []), (312, .iastore, 1, 0, 0, []), (313, .iinc 6 1, 3, 1, 0, []), (316, .goto (-38), 3, 0, 0, [(278, [0, 1, 2, 3, 5, 6])])], (0, []))
def bk_X7_carry_319 : pm_B := ([(319, .aload_n 0, 1, 0, 0, []), (320, .getfield 48, 3, 7, 18, []), (323, .iload_n 1, 1, 0, 0, []), (324, .dup2, 1, 0, 0, []), (325, .iaload, 1, 0, 0, []), (326, .iload_n 3, 1, 0, 0, []), (327, .isub, 1, 0, 0, []), (328, .iastore, 1, 0, 0, []), (329, .aload_n 0, 1, 0, 0, []), (330, .getfield 48, 3, 7, 18, []), (333, .iload_n 2, 1, 0, 0, []), (334, .dup2, 1, 0, 0, []), (335, .iaload, 1, 0, 0, []), (336, .iload_n 3, 1, 0, 0, []), (337, .iadd, 1, 0, 0, []), (338, .iastore, 1, 0, 0, []), (339, .aload_n 0, 1, 0, 0, []), (340, .invokevirtual 189, 3, 4, 0, []), (343, .iconst 1, 1, 1, 0, []), (344, .ireturn, 1, 0, 0, [])], (0, []))
def bl_X7_carry : List (Nat × pm_B) := [(0, bk_X7_carry_0), (38, bk_X7_carry_38), (41, bk_X7_carry_41), (55, bk_X7_carry_55), (67, bk_X7_carry_67), (73, bk_X7_carry_73), (95, bk_X7_carry_95), (101, bk_X7_carry_101), (104, bk_X7_carry_104), (149, bk_X7_carry_149), (155, bk_X7_carry_155), (163, bk_X7_carry_163), (181, bk_X7_carry_181), (218, bk_X7_carry_218), (224, bk_X7_carry_224), (245, bk_X7_carry_245), (263, bk_X7_carry_263), (271, bk_X7_carry_271), (278, bk_X7_carry_278), (319, bk_X7_carry_319)]
def cs_X7_carry : List (Bool × Nat) := [(true, 111), (false, 139), (false, 148), (false, 179), (false, 189)]
theorem ck_X7_carry : pm_ckB yX7_carry.cls cX7_carry 7 cs_X7_carry bl_X7_carry = true := by decide +kernel
def bk_X7_isSafe_0 : pm_B := ([(0, .aload_n 0, 1, 0, 0, []), (1, .getfield 133, 3, 7, 4, []), (4, .iconst 1, 1, 1, 0, []), (5, .if_icmp .ne 5, 3, 0, 0, [(10, [0, 1])]), (8, .iconst 1, 1, 1, 0, []), (9, .ireturn, 1, 0, 0, [])], (0, []))
def bk_X7_isSafe_10 : pm_B := ([(10, .aload_n 0, 1, 0, 0, []), (11, .getfield 133, 3, 7, 4, []), (14, .iconst 2, 1, 2, 0, []), (15, .if_icmp .le 5, 3, 0, 0, [(20, [0, 1])]), (18, .iconst 0, 1, 0, 0, []), (19, .ireturn, 1, 0, 0, [])], (0, []))
def bk_X7_isSafe_20 : pm_B := ([(20, .iconst 0, 1, 0, 0, []), (21, .istore_n 2, 1, 0, 0, [])], (22, [0, 1, 2]))
def bk_X7_isSafe_22 : pm_B := ([(22, .iload_n 2, 1, 0, 0, []), (23, .aload_n 0, 1, 0, 0, []), (24, .getfield 7, 3, 7, 0, []), (27, .if_icmp .ge 47, 3, 0, 0, [(74, [])]), (30, .aload_n 0, 1, 0, 0, []), (31, .getfield 133, 3, 7, 4, []), (34, .iconst 2, 1, 2, 0, []), (35, .if_icmp .ne 16, 3, 0, 0, [(51, [0, 1, 2])]), (38, .iload_n 2, 1, 0, 0, []), (39, .iload_n 1, 1, 0, 0, []), (40, .iconst 3, 1, 3, 0, []), (41, .ishr, 1, 0, 0, []), (42, .ixor, 1, 0, 0, []), (43, .iconst 1, 1, 1, 0, []), (44, .iand, 1, 0, 0, []), (45, .ifCond .ne 6, 3, 0, 0, [(51, [0, 1, 2])]), (48, .goto 20, 3, 0, 0, [(68, [0, 1, 2])])], (0, []))
def bk_X7_isSafe_51 : pm_B := ([(51, .aload_n 0, 1, 0, 0, []), (52, .getfield 57, 3, 7, 21, []), (55, .iload_n 2, 1, 0, 0, []), (56, .iaload, 1, 0, 0, []), (57, .iload_n 1, 1, 0, 0, []), (58, .bipush 7, 2, 7, 0, []), (60, .iand, 1, 0, 0, []), (61, .iconst 1, 1, 1, 0, []), (62, .isub, 1, 0, 0, []), (63, .if_icmp .ge 5, 3, 0, 0, [(68, [0, 1, 2])]), (66, .iconst 0, 1, 0, 0, []), (67, .ireturn, 1, 0, 0, [])], (0, []))
def bk_X7_isSafe_68 : pm_B := ([(68, .iinc 2 1, 3, 1, 0, []), (71, .goto (-49), 3, 0, 0, [(22, [0, 1, 2])])], (0, []))
def bk_X7_isSafe_74 : pm_B := ([(74, .iconst 1, 1, 1, 0, []), (75, .ireturn, 1, 0, 0, [])], (0, []))
def bl_X7_isSafe : List (Nat × pm_B) := [(0, bk_X7_isSafe_0), (10, bk_X7_isSafe_10), (20, bk_X7_isSafe_20), (22, bk_X7_isSafe_22), (51, bk_X7_isSafe_51), (68, bk_X7_isSafe_68), (74, bk_X7_isSafe_74)]
def cs_X7_isSafe : List (Bool × Nat) := []
theorem ck_X7_isSafe : pm_ckB yX7_isSafe.cls cX7_isSafe 3 cs_X7_isSafe bl_X7_isSafe = true := by decide +kernel
def bk_X7_auto_0 : pm_B := ([(0, .aload_n 0, 1, 0, 0, []), (1, .getfield 115, 3, 7, 5, []), (4, .aload_n 0, 1, 0, 0, []), (5, .invokevirtual 139, 3, 0, 0, []), (8, .if_icmp .ge 6, 3, 0, 0, [(14, [0])]), (11, .bipush (-3), 2, 3, 1, []), (13, .ireturn, 1, 0, 0, [])], (0, []))
def bk_X7_auto_14 : pm_B := ([(14, .aload_n 0, 1, 0, 0, []), (15, .invokevirtual 179, 3, 1, 0, []), (18, .iconst 0, 1, 0, 0, []), (19, .istore_n 1, 1, 0, 0, []), (20, .iconst 1, 1, 1, 0, []), (21, .istore_n 2, 1, 0, 0, [])], (22, [0, 1, 2]))
def bk_X7_auto_22 : pm_B := ([(22, .iload_n 2, 1, 0, 0, []), (23, .ifCond .eq 70, 3, 0, 0, [(93, [0, 1])]), (26, .iconst 0, 1, 0, 0, []), (27, .istore_n 2, 1, 0, 0, []), (28, .iconst 0, 1, 0, 0, []), (29, .istore_n 3, 1, 0, 0, [])], (30, [0, 1, 2, 3]))
def bk_X7_auto_30 : pm_B := ([(30, .iload_n 3, 1, 0, 0, []), (31, .bipush 6, 2, 6, 0, []), (33, .if_icmp .ge 57, 3, 0, 0, [(90, [0, 1, 2])]), (36, .aload_n 0, 1, 0, 0, []), (37, .iload_n 3, 1, 0, 0, []), (38, .iconst 5, 1, 5, 0, []), (39, .aload_n 0, 1, 0, 0, []), (40, .getfield 130, 3, 7, 3, []), (43, .invokevirtual 176, 3, 2, 0, []), (46, .ifCond .eq 38, 3, 0, 0, [(84, [0, 1, 2, 3])]), (49, .aload_n 0, 1, 0, 0, []), (50, .iload_n 3, 1, 0, 0, []), (51, .iconst 5, 1, 5, 0, []), (52, .invokevirtual 182, 3, 3, 0, []), (55, .ifCond .ne 29, 3, 0, 0, [(84, [0, 1, 2, 3])]), (58, .aload_n 0, 1, 0, 0, []), (59, .aload_n 0, 1, 0, 0, []), (60, .iload_n 3, 1, 0, 0, []), (61, .invokevirtual 155, 3, 4, 0, []), (64, .invokevirtual 192, 3, 5, 0, []), (67, .ifCond .ne 6, 3, 0, 0, [(73, [0, 1, 3])]), (70, .goto 14, 3, 0, 0, [(84, [0, 1, 2, 3])])], (0, []))
def bk_X7_auto_73 : pm_B := ([(73, .aload_n 0, 1, 0, 0, []), (74, .iload_n 3, 1, 0, 0, []), (75, .iconst 5, 1, 5, 0, []), (76, .invokevirtual 186, 3, 6, 0, []), (79, .iinc 1 1, 3, 1, 0, []), (82, .iconst 1, 1, 1, 0, []), (83, .istore_n 2, 1, 0, 0, [])], (84, [0, 1, 2, 3]))
def bk_X7_auto_84 : pm_B := ([(84, .iinc 3 1, 3, 1, 0, []), (87, .goto (-57), 3, 0, 0, [(30, [0, 1, 2, 3])])], (0, []))
def bk_X7_auto_90 : pm_B := ([(90, .goto (-68), 3, 0, 0, [(22, [0, 1, 2])])], (0, []))
def bk_X7_auto_93 : pm_B := ([(93, .iload_n 1, 1, 0, 0, []), (94, .ifCond .le 7, 3, 0, 0, [(101, [1])]), (97, .aload_n 0, 1, 0, 0, []), (98, .invokevirtual 189, 3, 7, 0, [])], (101, [1]))
def bk_X7_auto_101 : pm_B := ([(101, .iload_n 1, 1, 0, 0, []), (102, .ireturn, 1, 0, 0, [])], (0, []))
def bl_X7_auto : List (Nat × pm_B) := [(0, bk_X7_auto_0), (14, bk_X7_auto_14), (22, bk_X7_auto_22), (30, bk_X7_auto_30), (73, bk_X7_auto_73), (84, bk_X7_auto_84), (90, bk_X7_auto_90), (93, bk_X7_auto_93), (101, bk_X7_auto_101)]
def cs_X7_auto : List (Bool × Nat) := [(false, 139), (false, 179), (false, 176), (false, 182), (false, 155), (false, 192), (false, 186), (false, 189)]
theorem ck_X7_auto : pm_ckB yX7_auto.cls cX7_auto 4 cs_X7_auto bl_X7_auto = true := by decide +kernel
def bk_X7_count_0 : pm_B := ([(0, .iconst 0, 1, 0, 0, []), (1, .istore_n 2, 1, 0, 0, []), (2, .iload_n 1, 1, 0, 0, []), (3, .tableswitch 341 0 13 #[69, 74, 79, 124, 154, 184, 235, 311, 79, 316, 321, 326, 331, 336], 69, 0, 0, [(344, []), (72, [0]), (77, [0]), (82, [0, 1, 2]), (127, [0, 2]), (157, [0, 2]), (187, [0, 2]), (238, [0, 2]), (314, [0]), (82, [0, 1, 2]), (319, [0]), (324, [0]), (329, [0]), (334, [0]), (339, [0])])], (0, []))
def bk_X7_count_72 : pm_B := ([(72, .aload_n 0, 1, 0, 0, []), (73, .invokevirtual 139, 3, 0, 0, []), (76, .ireturn, 1, 0, 0, [])], (0, []))
def bk_X7_count_77 : pm_B := ([(77, .aload_n 0, 1, 0, 0, []), (78, .getfield 115, 3, 7, 5, []), (81, .ireturn, 1, 0, 0, [])], (0, []))
def bk_X7_count_82 : pm_B := ([(82, .iconst 0, 1, 0, 0, []), (83, .istore_n 3, 1, 0, 0, [])], (84, [0, 1, 2, 3]))
def bk_X7_count_84 : pm_B := ([(84, .iload_n 3, 1, 0, 0, []), (85, .iconst 4, 1, 4, 0, []), (86, .if_icmp .ge 18, 3, 0, 0, [(104, [0, 1, 2])]), (89, .iload_n 2, 1, 0, 0, []), (90, .aload_n 0, 1, 0, 0, []), (91, .getfield 33, 3, 7, 11, []), (94, .iload_n 3, 1, 0, 0, []), (95, .iaload, 1, 0, 0, []), (96, .iadd, 1, 0, 0, []), (97, .istore_n 2, 1, 0, 0, []), (98, .iinc 3 1, 3, 1, 0, []), (101, .goto (-17), 3, 0, 0, [(84, [0, 1, 2, 3])])], (0, []))
def bk_X7_count_104 : pm_B := ([(104, .iload_n 1, 1, 0, 0, []), (105, .iconst 2, 1, 2, 0, []), (106, .if_icmp .ne 7, 3, 0, 0, [(113, [0, 2])]), (109, .iload_n 2, 1, 0, 0, []), (110, .goto 16, 3, 0, 0, [(126, [])])], (0, []))
def bk_X7_count_113 : pm_B := ([(113, .iload_n 2, 1, 0, 0, []), (114, .aload_n 0, 1, 0, 0, []), (115, .invokevirtual 139, 3, 0, 0, []), (118, .if_icmp .ne 7, 3, 0, 0, [(125, [])]), (121, .iconst 1, 1, 1, 0, []), (122, .goto 4, 3, 0, 0, [(126, [])])], (0, []))
def bk_X7_count_125 : pm_B := ([(125, .iconst 0, 1, 0, 0, [])], (126, []))
def bk_X7_count_126 : pm_B := ([(126, .ireturn, 1, 0, 0, [])], (0, []))
def bk_X7_count_127 : pm_B := ([(127, .iconst 0, 1, 0, 0, []), (128, .istore_n 3, 1, 0, 0, [])], (129, [0, 2, 3]))
def bk_X7_count_129 : pm_B := ([(129, .iload_n 3, 1, 0, 0, []), (130, .aload_n 0, 1, 0, 0, []), (131, .getfield 130, 3, 7, 3, []), (134, .if_icmp .ge 21, 3, 0, 0, [(155, [2])]), (137, .aload_n 0, 1, 0, 0, []), (138, .getfield 30, 3, 7, 10, []), (141, .iload_n 3, 1, 0, 0, []), (142, .iaload, 1, 0, 0, []), (143, .ifCond .ne 6, 3, 0, 0, [(149, [0, 2, 3])]), (146, .iinc 2 1, 3, 1, 0, [])], (149, [0, 2, 3]))
def bk_X7_count_149 : pm_B := ([(149, .iinc 3 1, 3, 1, 0, []), (152, .goto (-23), 3, 0, 0, [(129, [0, 2, 3])])], (0, []))
def bk_X7_count_155 : pm_B := ([(155, .iload_n 2, 1, 0, 0, []), (156, .ireturn, 1, 0, 0, [])], (0, []))
def bk_X7_count_157 : pm_B := ([(157, .iconst 0, 1, 0, 0, []), (158, .istore_n 3, 1, 0, 0, [])], (159, [0, 2, 3]))
def bk_X7_count_159 : pm_B := ([(159, .iload_n 3, 1, 0, 0, []), (160, .aload_n 0, 1, 0, 0, []), (161, .getfield 16, 3, 7, 2, []), (164, .if_icmp .ge 21, 3, 0, 0, [(185, [2])]), (167, .aload_n 0, 1, 0, 0, []), (168, .getfield 23, 3, 7, 8, []), (171, .iload_n 3, 1, 0, 0, []), (172, .iaload, 1, 0, 0, []), (173, .ifCond .ne 6, 3, 0, 0, [(179, [0, 2, 3])]), (176, .iinc 2 1, 3, 1, 0, [])], (179, [0, 2, 3]))
def bk_X7_count_179 : pm_B := ([(179, .iinc 3 1, 3, 1, 0, []), (182, .goto (-23), 3, 0, 0, [(159, [0, 2, 3])])], (0, []))
def bk_X7_count_185 : pm_B := ([(185, .iload_n 2, 1, 0, 0, []), (186, .ireturn, 1, 0, 0, [])], (0, []))
def bk_X7_count_187 : pm_B := ([(187, .iconst 0, 1, 0, 0, []), (188, .istore_n 3, 1, 0, 0, [])], (189, [0, 2, 3]))
def bk_X7_count_189 : pm_B := ([(189, .iload_n 3, 1, 0, 0, []), (190, .aload_n 0, 1, 0, 0, []), (191, .getfield 16, 3, 7, 2, []), (194, .if_icmp .ge 42, 3, 0, 0, [(236, [2])]), (197, .iconst 0, 1, 0, 0, []), (198, .istore 4, 2, 0, 0, [])], (200, [0, 2, 3, 4]))
def bk_X7_count_200 : pm_B := ([(200, .iload 4, 2, 0, 0, []), (202, .aload_n 0, 1, 0, 0, []), (203, .getfield 23, 3, 7, 8, []), (206, .iload_n 3, 1, 0, 0, []), (207, .iaload, 1, 0, 0, []), (208, .if_icmp .ge 22, 3, 0, 0, [(230, [0, 2, 3])]), (211, .aload_n 0, 1, 0, 0, []), (212, .iload_n 3, 1, 0, 0, []), (213, .iload 4, 2, 0, 0, []), (215, .invokevirtual 195, 3, 1, 0, []), (218, .ifCond .eq 6, 3, 0, 0, [(224, [0, 2, 3, 4])]), (221, .iinc 2 1, 3, 1, 0, [])], (224, [0, 2, 3, 4]))
def bk_X7_count_224 : pm_B := ([(224, .iinc 4 1, 3, 1, 0, []), (227, .goto (-27), 3, 0, 0, [(200, [0, 2, 3, 4])])], (0, []))
def bk_X7_count_230 : pm_B := ([(230, .iinc 3 1, 3, 1, 0, []), (233, .goto (-44), 3, 0, 0, [(189, [0, 2, 3])])], (0, []))
def bk_X7_count_236 : pm_B := ([(236, .iload_n 2, 1, 0, 0, []), (237, .ireturn, 1, 0, 0, [])], (0, []))
def bk_X7_count_238 : pm_B := ([(238, .aload_n 0, 1, 0, 0, []), (239, .getfield 115, 3, 7, 5, []), (242, .aload_n 0, 1, 0, 0, []), (243, .invokevirtual 139, 3, 0, 0, []), (246, .if_icmp .ge 5, 3, 0, 0, [(251, [0, 2])]), (249, .iconst 0, 1, 0, 0, []), (250, .ireturn, 1, 0, 0, [])], (0, []))
def bk_X7_count_251 : pm_B := ([(251, .aload_n 0, 1, 0, 0, []), (252, .invokevirtual 179, 3, 2, 0, []), (255, .iconst 0, 1, 0, 0, []), (256, .istore_n 3, 1, 0, 0, [])], (257, [0, 2, 3]))
def bk_X7_count_257 : pm_B := ([(257, .iload_n 3, 1, 0, 0, []), (258, .bipush 6, 2, 6, 0, []), (260, .if_icmp .ge 52, 3, 0, 0, [(312, [2])]), (263, .iconst 0, 1, 0, 0, []), (264, .istore 4, 2, 0, 0, [])], (266, [0, 2, 3, 4]))
def bk_X7_count_266 : pm_B := ([(266, .iload 4, 2, 0, 0, []), (268, .bipush 6, 2, 6, 0, []), (270, .if_icmp .ge 36, 3, 0, 0, [(306, [0, 2, 3])]), (273, .aload_n 0, 1, 0, 0, []), (274, .iload_n 3, 1, 0, 0, []), (275, .iload 4, 2, 0, 0, []), (277, .aload_n 0, 1, 0, 0, []), (278, .getfield 130, 3, 7, 3, []), (281, .invokevirtual 176, 3, 3, 0, []), (284, .ifCond .eq 16, 3, 0, 0, [(300, [0, 2, 3, 4])]), (287, .aload_n 0, 1, 0, 0, []), (288, .iload_n 3, 1, 0, 0, []), (289, .iload 4, 2, 0, 0, []), (291, .invokevirtual 182, 3, 4, 0, []), (294, .ifCond .ne 6, 3, 0, 0, [(300, [0, 2, 3, 4])]), (297, .iinc 2 1, 3, 1, 0, [])], (300, [0, 2, 3, 4]))
def bk_X7_count_300 : pm_B := ([(300, .iinc 4 1, 3, 1, 0, []), (303, .goto (-37), 3, 0, 0, [(266, [0, 2, 3, 4])])], (0, []))
def bk_X7_count_306 : pm_B := ([(306, .iinc 3 1, 3, 1, 0, []), (309, .goto (-52), 3, 0, 0, [(257, [0, 2, 3])])], (0, []))
def bk_X7_count_312 : pm_B := ([(312, .iload_n 2, 1, 0, 0, []), (313, .ireturn, 1, 0, 0, [])], (0, []))
def bk_X7_count_314 : pm_B := ([(314, .aload_n 0, 1, 0, 0, []), (315, .getfield 121, 3, 7, 12, []), (318, .ireturn, 1, 0, 0, [])], (0, []))
def bk_X7_count_319 : pm_B := ([(319, .aload_n 0, 1, 0, 0, []), (320, .getfield 7, 3, 7, 0, []), (323, .ireturn, 1, 0, 0, [])], (0, []))
def bk_X7_count_324 : pm_B := ([(324, .aload_n 0, 1, 0, 0, []), (325, .getfield 13, 3, 7, 1, []), (328, .ireturn, 1, 0, 0, [])], (0, []))
def bk_X7_count_329 : pm_B := ([(329, .aload_n 0, 1, 0, 0, []), (330, .getfield 16, 3, 7, 2, []), (333, .ireturn, 1, 0, 0, [])], (0, []))
def bk_X7_count_334 : pm_B := ([(334, .aload_n 0, 1, 0, 0, []), (335, .getfield 130, 3, 7, 3, []), (338, .ireturn, 1, 0, 0, [])], (0, []))
def bk_X7_count_339 : pm_B := ([(339, .aload_n 0, 1, 0, 0, []), (340, .getfield 133, 3, 7, 4, []), (343, .ireturn, 1, 0, 0, [])], (0, []))
def bk_X7_count_344 : pm_B := ([(344, .bipush (-2), 2, 2, 1, []), (346, .ireturn, 1, 0, 0, [])], (0, []))
def bl_X7_count : List (Nat × pm_B) := [(0, bk_X7_count_0), (72, bk_X7_count_72), (77, bk_X7_count_77), (82, bk_X7_count_82), (84, bk_X7_count_84), (104, bk_X7_count_104), (113, bk_X7_count_113), (125, bk_X7_count_125), (126, bk_X7_count_126), (127, bk_X7_count_127), (129, bk_X7_count_129), (149, bk_X7_count_149), (155, bk_X7_count_155), (157, bk_X7_count_157), (159, bk_X7_count_159), (179, bk_X7_count_179), (185, bk_X7_count_185), (187, bk_X7_count_187), (189, bk_X7_count_189), (200, bk_X7_count_200), (224, bk_X7_count_224), (230, bk_X7_count_230), (236, bk_X7_count_236), (238, bk_X7_count_238), (251, bk_X7_count_251), (257, bk_X7_count_257), (266, bk_X7_count_266), (300, bk_X7_count_300), (306, bk_X7_count_306), (312, bk_X7_count_312), (314, bk_X7_count_314), (319, bk_X7_count_319), (324, bk_X7_count_324), (329, bk_X7_count_329), (334, bk_X7_count_334), (339, bk_X7_count_339), (344, bk_X7_count_344)]
def cs_X7_count : List (Bool × Nat) := [(false, 139), (false, 195), (false, 179), (false, 176), (false, 182)]
theorem ck_X7_count : pm_ckB yX7_count.cls cX7_count 5 cs_X7_count bl_X7_count = true := by decide +kernel
def bk_X7_isBuried_0 : pm_B := ([(0, .aload_n 0, 1, 0, 0, []), (1, .getfield 27, 3, 7, 9, []), (4, .bipush 12, 2, 12, 0, []), (6, .iload_n 1, 1, 0, 0, []), (7, .imul, 1, 0, 0, []), (8, .iload_n 2, 1, 0, 0, []), (9, .iadd, 1, 0, 0, []), (10, .iaload, 1, 0, 0, []), (11, .istore_n 3, 1, 0, 0, []), (12, .iconst 0, 1, 0, 0, []), (13, .istore 4, 2, 0, 0, [])], (15, [0, 1, 2, 3, 4]))
def bk_X7_isBuried_15 : pm_B := ([(15, .iload 4, 2, 0, 0, []), (17, .iload_n 2, 1, 0, 0, []), (18, .if_icmp .ge 41, 3, 0, 0, [(59, [])]), (21, .aload_n 0, 1, 0, 0, []), (22, .getfield 27, 3, 7, 9, []), (25, .bipush 12, 2, 12, 0, []), (27, .iload_n 1, 1, 0, 0, []), (28, .imul, 1, 0, 0, []), (29, .iload 4, 2, 0, 0, []), (31, .iadd, 1, 0, 0, []), (32, .iaload, 1, 0, 0, []), (33, .istore 5, 2, 0, 0, []), (35, .iload 5, 2, 0, 0, []), (37, .iconst 3, 1, 3, 0, []), (38, .ishr, 1, 0, 0, []), (39, .iload_n 3, 1, 0, 0, []), (40, .iconst 3, 1, 3, 0, []), (41, .ishr, 1, 0, 0, []), (42, .if_icmp .ne 11, 3, 0, 0, [(53, [0, 1, 2, 3, 4])]), (45, .iload 5, 2, 0, 0, []), (47, .iload_n 3, 1, 0, 0, []), (48, .if_icmp .ge 5, 3, 0, 0, [(53, [0, 1, 2, 3, 4])]), (51, .iconst 1, 1, 1, 0, []), (52, .ireturn, 1, 0, 0, [])], (0, []))
def bk_X7_isBuried_53 : pm_B := ([(53, .iinc 4 1, 3, 1, 0, []), (56, .goto (-41), 3, 0, 0, [(15, [0, 1, 2, 3, 4])])], (0, []))
def bk_X7_isBuried_59 : pm_B := ([(59, .iconst 0, 1, 0, 0, []), (60, .ireturn, 1, 0, 0, [])], (0, []))
def bl_X7_isBuried : List (Nat × pm_B) := [(0, bk_X7_isBuried_0), (15, bk_X7_isBuried_15), (53, bk_X7_isBuried_53), (59, bk_X7_isBuried_59)]
def cs_X7_isBuried : List (Bool × Nat) := []
theorem ck_X7_isBuried : pm_ckB yX7_isBuried.cls cX7_isBuried 6 cs_X7_isBuried bl_X7_isBuried = true := by decide +kernel
def bk_X7_card_0 : pm_B := ([(0, .iload_n 1, 1, 0, 0, []), (1, .iconst 0, 1, 0, 0, []), (2, .aload_n 0, 1, 0, 0, []), (3, .getfield 16, 3, 7, 2, []), (6, .iconst 1, 1, 1, 0, []), (7, .isub, 1, 0, 0, []), (8, .invokestatic 111, 3, 0, 0, []), (11, .ifCond .ne 6, 3, 0, 0, [(17, [0, 1, 2])]), (14, .bipush (-2), 2, 2, 1, []), (16, .ireturn, 1, 0, 0, [])], (0, []))
def bk_X7_card_17 : pm_B := ([(17, .iload_n 2, 1, 0, 0, []), (18, .iconst 0, 1, 0, 0, []), (19, .aload_n 0, 1, 0, 0, []), (20, .getfield 23, 3, 7, 8, []), (23, .iload_n 1, 1, 0, 0, []), (24, .iaload, 1, 0, 0, []), (25, .iconst 1, 1, 1, 0, []), (26, .isub, 1, 0, 0, []), (27, .invokestatic 111, 3, 0, 0, []), (30, .ifCond .eq 17, 3, 0, 0, [(47, [])]), (33, .aload_n 0, 1, 0, 0, []), (34, .getfield 27, 3, 7, 9, []), (37, .bipush 12, 2, 12, 0, []), (39, .iload_n 1, 1, 0, 0, []), (40, .imul, 1, 0, 0, []), (41, .iload_n 2, 1, 0, 0, []), (42, .iadd, 1, 0, 0, []), (43, .iaload, 1, 0, 0, []), (44, .goto 4, 3, 0, 0, [(48, [])])], (0, []))
def bk_X7_card_47 : pm_B := ([(47, .iconst 0, 1, 0, 0, [])], (48, []))
def bk_X7_card_48 : pm_B := ([(48, .ireturn, 1, 0, 0, [])], (0, []))
def bl_X7_card : List (Nat × pm_B) := [(0, bk_X7_card_0), (17, bk_X7_card_17), (47, bk_X7_card_47), (48, bk_X7_card_48)]
def cs_X7_card : List (Bool × Nat) := [(true, 111)]
theorem ck_X7_card : pm_ckB yX7_card.cls cX7_card 3 cs_X7_card bl_X7_card = true := by decide +kernel
def bk_X7_cell_0 : pm_B := ([(0, .iload_n 1, 1, 0, 0, []), (1, .iconst 0, 1, 0, 0, []), (2, .aload_n 0, 1, 0, 0, []), (3, .getfield 130, 3, 7, 3, []), (6, .iconst 1, 1, 1, 0, []), (7, .isub, 1, 0, 0, []), (8, .invokestatic 111, 3, 0, 0, []), (11, .ifCond .eq 12, 3, 0, 0, [(23, [])]), (14, .aload_n 0, 1, 0, 0, []), (15, .getfield 30, 3, 7, 10, []), (18, .iload_n 1, 1, 0, 0, []), (19, .iaload, 1, 0, 0, []), (20, .goto 5, 3, 0, 0, [(25, [])])], (0, []))
def bk_X7_cell_23 : pm_B := ([(23, .bipush (-2), 2, 2, 1, [])], (25, []))
def bk_X7_cell_25 : pm_B := ([(25, .ireturn, 1, 0, 0, [])], (0, []))
def bl_X7_cell : List (Nat × pm_B) := [(0, bk_X7_cell_0), (23, bk_X7_cell_23), (25, bk_X7_cell_25)]
def cs_X7_cell : List (Bool × Nat) := [(true, 111)]
theorem ck_X7_cell : pm_ckB yX7_cell.cls cX7_cell 2 cs_X7_cell bl_X7_cell = true := by decide +kernel
def bk_X7_house_0 : pm_B := ([(0, .iload_n 1, 1, 0, 0, []), (1, .iconst 0, 1, 0, 0, []), (2, .aload_n 0, 1, 0, 0, []), (3, .getfield 7, 3, 7, 0, []), (6, .iconst 1, 1, 1, 0, []), (7, .isub, 1, 0, 0, []), (8, .invokestatic 111, 3, 0, 0, []), (11, .ifCond .eq 12, 3, 0, 0, [(23, [])]), (14, .aload_n 0, 1, 0, 0, []), (15, .getfield 33, 3, 7, 11, []), (18, .iload_n 1, 1, 0, 0, []), (19, .iaload, 1, 0, 0, []), (20, .goto 5, 3, 0, 0, [(25, [])])], (0, []))
def bk_X7_house_23 : pm_B := ([(23, .bipush (-2), 2, 2, 1, [])], (25, []))
def bk_X7_house_25 : pm_B := ([(25, .ireturn, 1, 0, 0, [])], (0, []))
def bl_X7_house : List (Nat × pm_B) := [(0, bk_X7_house_0), (23, bk_X7_house_23), (25, bk_X7_house_25)]
def cs_X7_house : List (Bool × Nat) := [(true, 111)]
theorem ck_X7_house : pm_ckB yX7_house.cls cX7_house 2 cs_X7_house bl_X7_house = true := by decide +kernel
def bk_X7_isAhead_0 : pm_B := ([(0, .iconst 0, 1, 0, 0, []), (1, .istore_n 3, 1, 0, 0, [])], (2, [0, 1, 2, 3]))
def bk_X7_isAhead_2 : pm_B := ([(2, .iload_n 3, 1, 0, 0, []), (3, .aload_n 0, 1, 0, 0, []), (4, .getfield 48, 3, 7, 18, []), (7, .iload_n 1, 1, 0, 0, []), (8, .iaload, 1, 0, 0, []), (9, .if_icmp .ge 75, 3, 0, 0, [(84, [0, 1, 2])]), (12, .iload_n 3, 1, 0, 0, []), (13, .aload_n 0, 1, 0, 0, []), (14, .getfield 48, 3, 7, 18, []), (17, .iload_n 2, 1, 0, 0, []), (18, .iaload, 1, 0, 0, []), (19, .if_icmp .ge 65, 3, 0, 0, [(84, [0, 1, 2])]), (22, .aload_n 0, 1, 0, 0, []), (23, .getfield 51, 3, 7, 19, []), (26, .bipush 12, 2, 12, 0, []), (28, .iload_n 1, 1, 0, 0, []), (29, .imul, 1, 0, 0, []), (30, .iload_n 3, 1, 0, 0, []), (31, .iadd, 1, 0, 0, []), (32, .iaload, 1, 0, 0, []), (33, .aload_n 0, 1, 0, 0, []), (34, .getfield 51, 3, 7, 19, []), (37, .bipush 12, 2, 12, 0, []), (39, .iload_n 2, 1, 0, 0, []), (40, .imul, 1, 0, 0, []), (41, .iload_n 3, 1, 0, 0, []), (42, .iadd, 1, 0, 0, []), (43, .iaload, 1, 0, 0, []), (44, .if_icmp .eq 34, 3, 0, 0, [(78, [0, 1, 2, 3])]), (47, .aload_n 0, 1, 0, 0, []), (48, .getfield 51, 3, 7, 19, []), (51, .bipush 12, 2, 12, 0, []), (53, .iload_n 1, 1, 0, 0, []), (54, .imul, 1, 0, 0, []), (55, .iload_n 3, 1, 0, 0, []), (56, .iadd, 1, 0, 0, []), (57, .iaload, 1, 0, 0, []), (58, .aload_n 0, 1, 0, 0, []), (59, .getfield 51, 3, 7, 19, []), (62, .bipush 12, 2, 12, 0, []), (64, .iload_n 2, 1, 0, 0, []), (65, .imul, 1, 0, 0, []), (66, .iload_n 3, 1, 0, 0, []), (67, .iadd, 1, 0, 0, []), (68, .iaload, 1, 0, 0, []), (69, .if_icmp .ge 7, 3, 0, 0, [(76, [])]), (72, .iconst 1, 1, 1, 0, []), (73, .goto 4, 3, 0, 0, [(77, [])])], (0, []))
def bk_X7_isAhead_76 : pm_B := ([(76, .iconst 0, 1, 0, 0, [])], (77, []))
def bk_X7_isAhead_77 : pm_B := ([(77, .ireturn, 1, 0, 0, [])], (0, []))
def bk_X7_isAhead_78 : pm_B := ([(78, .iinc 3 1, 3, 1, 0, []), (81, .goto (-79), 3, 0, 0, [(2, [0, 1, 2, 3])])], (0, []))
def bk_X7_isAhead_84 : pm_B := ([(84, .aload_n 0, 1, 0, 0, []), (85, .getfield 48, 3, 7, 18, []), (88, .iload_n 1, 1, 0, 0, []), (89, .iaload, 1, 0, 0, []), (90, .aload_n 0, 1, 0, 0, []), (91, .getfield 48, 3, 7, 18, []), (94, .iload_n 2, 1, 0, 0, []), (95, .iaload, 1, 0, 0, []), (96, .if_icmp .ge 7, 3, 0, 0, [(103, [])]), (99, .iconst 1, 1, 1, 0, []), (100, .goto 4, 3, 0, 0, [(104, [])])], (0, []))
def bk_X7_isAhead_103 : pm_B := ([(103, .iconst 0, 1, 0, 0, [])], (104, []))
def bk_X7_isAhead_104 : pm_B := ([(104, .ireturn, 1, 0, 0, [])], (0, []))
def bl_X7_isAhead : List (Nat × pm_B) := [(0, bk_X7_isAhead_0), (2, bk_X7_isAhead_2), (76, bk_X7_isAhead_76), (77, bk_X7_isAhead_77), (78, bk_X7_isAhead_78), (84, bk_X7_isAhead_84), (103, bk_X7_isAhead_103), (104, bk_X7_isAhead_104)]
def cs_X7_isAhead : List (Bool × Nat) := []
theorem ck_X7_isAhead : pm_ckB yX7_isAhead.cls cX7_isAhead 4 cs_X7_isAhead bl_X7_isAhead = true := by decide +kernel
def bk_X7_orders_0 : pm_B := ([(0, .iconst 0, 1, 0, 0, []), (1, .istore_n 1, 1, 0, 0, [])], (2, [0, 1]))
def bk_X7_orders_2 : pm_B := ([(2, .iload_n 1, 1, 0, 0, []), (3, .aload_n 0, 1, 0, 0, []), (4, .getfield 16, 3, 7, 2, []), (7, .if_icmp .ge 58, 3, 0, 0, [(65, [])]), (10, .iload_n 1, 1, 0, 0, []), (11, .istore_n 2, 1, 0, 0, [])], (12, [0, 1, 2]))
def bk_X7_orders_12 : pm_B := ([(12, .iload_n 2, 1, 0, 0, []), (13, .ifCond .le 39, 3, 0, 0, [(52, [0, 1, 2])]), (16, .aload_n 0, 1, 0, 0, []), (17, .iload_n 1, 1, 0, 0, []), (18, .aload_n 0, 1, 0, 0, []), (19, .getfield 78, 3, 7, 29, []), (22, .iload_n 2, 1, 0, 0, []), (23, .iconst 1, 1, 1, 0, []), (24, .isub, 1, 0, 0, []), (25, .iaload, 1, 0, 0, []), (26, .invokevirtual 198, 3, 0, 0, []), (29, .ifCond .eq 23, 3, 0, 0, [(52, [0, 1, 2])]), (32, .aload_n 0, 1, 0, 0, []), (33, .getfield 78, 3, 7, 29, []), (36, .iload_n 2, 1, 0, 0, []), (37, .aload_n 0, 1, 0, 0, []), (38, .getfield 78, 3, 7, 29, []), (41, .iload_n 2, 1, 0, 0, []), (42, .iconst 1, 1, 1, 0, []), (43, .isub, 1, 0, 0, []), (44, .iaload, 1, 0, 0, []), (45, .iastore, 1, 0, 0, []), (46, .iinc 2 (-1), 3, 1, 1, []), (49, .goto (-37), 3, 0, 0, [(12, [0, 1, 2])])], (0, []))
def bk_X7_orders_52 : pm_B := ([(52, .aload_n 0, 1, 0, 0, []), (53, .getfield 78, 3, 7, 29, []), (56, .iload_n 2, 1, 0, 0, []), (57, .iload_n 1, 1, 0, 0, []), (58, .iastore, 1, 0, 0, []), (59, .iinc 1 1, 3, 1, 0, []), (62, .goto (-60), 3, 0, 0, [(2, [0, 1])])], (0, []))
def bk_X7_orders_65 : pm_B := ([(65, .return_, 1, 0, 0, [])], (0, []))
def bl_X7_orders : List (Nat × pm_B) := [(0, bk_X7_orders_0), (2, bk_X7_orders_2), (12, bk_X7_orders_12), (52, bk_X7_orders_52), (65, bk_X7_orders_65)]
def cs_X7_orders : List (Bool × Nat) := [(false, 198)]
theorem ck_X7_orders : pm_ckB yX7_orders.cls cX7_orders 3 cs_X7_orders bl_X7_orders = true := by decide +kernel
def bk_X7_makeKey_0 : pm_B := ([(0, .aload_n 0, 1, 0, 0, []), (1, .invokevirtual 201, 3, 0, 0, []), (4, .iconst 0, 1, 0, 0, []), (5, .istore_n 1, 1, 0, 0, [])], (6, [0, 1]))
def bk_X7_makeKey_6 : pm_B := ([(6, .iload_n 1, 1, 0, 0, []), (7, .bipush 18, 2, 18, 0, []), (9, .if_icmp .ge 16, 3, 0, 0, [(25, [0])]), (12, .aload_n 0, 1, 0, 0, []), (13, .getfield 75, 3, 7, 28, []), (16, .iload_n 1, 1, 0, 0, []), (17, .iconst 0, 1, 0, 0, []), (18, .bastore, 1, 0, 0, []), (19, .iinc 1 1, 3, 1, 0, []), (22, .goto (-16), 3, 0, 0, [(6, [0, 1])])], (0, []))
def bk_X7_makeKey_25 : pm_B := ([(25, .iconst 4, 1, 4, 0, []), (26, .istore_n 1, 1, 0, 0, []), (27, .iconst 0, 1, 0, 0, []), (28, .istore_n 2, 1, 0, 0, [])], (29, [0, 1, 2]))
def bk_X7_makeKey_29 : pm_B := ([(29, .iload_n 2, 1, 0, 0, []), (30, .aload_n 0, 1, 0, 0, []), (31, .getfield 16, 3, 7, 2, []), (34, .if_icmp .ge 71, 3, 0, 0, [(105, [0])]), (37, .aload_n 0, 1, 0, 0, []), (38, .getfield 78, 3, 7, 29, []), (41, .iload_n 2, 1, 0, 0, []), (42, .iaload, 1, 0, 0, []), (43, .istore_n 3, 1, 0, 0, []), (44, .aload_n 0, 1, 0, 0, []), (45, .getfield 75, 3, 7, 28, []), (48, .iload_n 2, 1, 0, 0, []), (49, .aload_n 0, 1, 0, 0, []), (50, .getfield 48, 3, 7, 18, []), (53, .iload_n 3, 1, 0, 0, []), (54, .iaload, 1, 0, 0, []), (55, .i2b, 1, 0, 0, []), (56, .bastore, 1, 0, 0, []), (57, .iconst 0, 1, 0, 0, []), (58, .istore 4, 2, 0, 0, [])], (60, [0, 1, 2, 3, 4]))
def bk_X7_makeKey_60 : pm_B := ([(60, .iload 4, 2, 0, 0, []), (62, .aload_n 0, 1, 0, 0, []), (63, .getfield 48, 3, 7, 18, []), (66, .iload_n 3, 1, 0, 0, []), (67, .iaload, 1, 0, 0, []), (68, .if_icmp .ge 31, 3, 0, 0, [(99, [0, 1, 2])]), (71, .aload_n 0, 1, 0, 0, []), (72, .getfield 75, 3, 7, 28, []), (75, .iload_n 1, 1, 0, 0, []), (76, .iinc 1 1, 3, 1, 0, []), (79, .aload_n 0, 1, 0, 0, []), (80, .getfield 51, 3, 7, 19, []), (83, .bipush 12, 2, 12, 0, []), (85, .iload_n 3, 1, 0, 0, []), (86, .imul, 1, 0, 0, []), (87, .iload 4, 2, 0, 0, []), (89, .iadd, 1, 0, 0, []), (90, .iaload, 1, 0, 0, []), (91, .i2b, 1, 0, 0, []), (92, .bastore, 1, 0, 0, []), (93, .iinc 4 1, 3, 1, 0, []), (96, .goto (-36), 3, 0, 0, [(60, [0, 1, 2, 3, 4])])], (0, []))
def bk_X7_makeKey_99 : pm_B := ([(99, .iinc 2 1, 3, 1, 0, []), (102, .goto (-73), 3, 0, 0, [(29, [0, 1, 2])])], (0, []))
def bk_X7_makeKey_105 : pm_B := ([(105, .aload_n 0, 1, 0, 0, []), (106, .getfield 152, 3, 7, 22, []), (109, .iconst 2, 1, 2, 0, []), (110, .if_icmp .ne 22, 3, 0, 0, [(132, [0])]), (113, .aload_n 0, 1, 0, 0, []), (114, .getfield 54, 3, 7, 20, []), (117, .iconst 0, 1, 0, 0, []), (118, .iaload, 1, 0, 0, []), (119, .aload_n 0, 1, 0, 0, []), (120, .getfield 54, 3, 7, 20, []), (123, .iconst 1, 1, 1, 0, []), (124, .iaload, 1, 0, 0, []), (125, .if_icmp .le 7, 3, 0, 0, [(132, [0])]), (128, .iconst 1, 1, 1, 0, []), (129, .goto 4, 3, 0, 0, [(133, [0])])], (0, []))
def bk_X7_makeKey_132 : pm_B := ([(132, .iconst 0, 1, 0, 0, [])], (133, [0]))
def bk_X7_makeKey_133 : pm_B := ([(133, .istore_n 2, 1, 0, 0, []), (134, .aload_n 0, 1, 0, 0, []), (135, .getfield 75, 3, 7, 28, []), (138, .bipush 16, 2, 16, 0, []), (140, .iload_n 2, 1, 0, 0, []), (141, .ifCond .eq 12, 3, 0, 0, [(153, [0, 2])]), (144, .aload_n 0, 1, 0, 0, []), (145, .getfield 54, 3, 7, 20, []), (148, .iconst 1, 1, 1, 0, []), (149, .iaload, 1, 0, 0, []), (150, .goto 9, 3, 0, 0, [(159, [0, 2])])], (0, []))
def bk_X7_makeKey_153 : pm_B := ([(153, .aload_n 0, 1, 0, 0, []), (154, .getfield 54, 3, 7, 20, []), (157, .iconst 0, 1, 0, 0, []), (158, .iaload, 1, 0, 0, [])], (159, [0, 2]))
def bk_X7_makeKey_159 : pm_B := ([(159, .i2b, 1, 0, 0, []), (160, .bastore, 1, 0, 0, []), (161, .aload_n 0, 1, 0, 0, []), (162, .getfield 75, 3, 7, 28, []), (165, .bipush 17, 2, 17, 0, []), (167, .iload_n 2, 1, 0, 0, []), (168, .ifCond .eq 12, 3, 0, 0, [(180, [0])]), (171, .aload_n 0, 1, 0, 0, []), (172, .getfield 54, 3, 7, 20, []), (175, .iconst 0, 1, 0, 0, []), (176, .iaload, 1, 0, 0, []), (177, .goto 9, 3, 0, 0, [(186, [])])], (0, []))
def bk_X7_makeKey_180 : pm_B := ([(180, .aload_n 0, 1, 0, 0, []), (181, .getfield 54, 3, 7, 20, []), (184, .iconst 1, 1, 1, 0, []), (185, .iaload, 1, 0, 0, [])], (186, []))
def bk_X7_makeKey_186 : pm_B := ([(186, .i2b, 1, 0, 0, []), (187, .bastore, 1, 0, 0, []), (188, .return_, 1, 0, 0, [])], (0, []))
def bl_X7_makeKey : List (Nat × pm_B) := [(0, bk_X7_makeKey_0), (6, bk_X7_makeKey_6), (25, bk_X7_makeKey_25), (29, bk_X7_makeKey_29), (60, bk_X7_makeKey_60), (99, bk_X7_makeKey_99), (105, bk_X7_makeKey_105), (132, bk_X7_makeKey_132), (133, bk_X7_makeKey_133), (153, bk_X7_makeKey_153), (159, bk_X7_makeKey_159), (180, bk_X7_makeKey_180), (186, bk_X7_makeKey_186)]
def cs_X7_makeKey : List (Bool × Nat) := [(false, 201)]
theorem ck_X7_makeKey : pm_ckB yX7_makeKey.cls cX7_makeKey 5 cs_X7_makeKey bl_X7_makeKey = true := by decide +kernel
def bk_X7_isDone_0 : pm_B := ([(0, .aload_n 0, 1, 0, 0, []), (1, .getfield 75, 3, 7, 28, []), (4, .iconst 0, 1, 0, 0, []), (5, .baload, 1, 0, 0, []), (6, .ifCond .ne 54, 3, 0, 0, [(60, [])]), (9, .aload_n 0, 1, 0, 0, []), (10, .getfield 75, 3, 7, 28, []), (13, .iconst 1, 1, 1, 0, []), (14, .baload, 1, 0, 0, []), (15, .ifCond .ne 45, 3, 0, 0, [(60, [])]), (18, .aload_n 0, 1, 0, 0, []), (19, .getfield 75, 3, 7, 28, []), (22, .iconst 2, 1, 2, 0, []), (23, .baload, 1, 0, 0, []), (24, .ifCond .ne 36, 3, 0, 0, [(60, [])]), (27, .aload_n 0, 1, 0, 0, []), (28, .getfield 75, 3, 7, 28, []), (31, .iconst 3, 1, 3, 0, []), (32, .baload, 1, 0, 0, []), (33, .ifCond .ne 27, 3, 0, 0, [(60, [])]), (36, .aload_n 0, 1, 0, 0, []), (37, .getfield 75, 3, 7, 28, []), (40, .bipush 16, 2, 16, 0, []), (42, .baload, 1, 0, 0, []), (43, .ifCond .ne 17, 3, 0, 0, [(60, [])]), (46, .aload_n 0, 1, 0, 0, []), (47, .getfield 75, 3, 7, 28, []), (50, .bipush 17, 2, 17, 0, []), (52, .baload, 1, 0, 0, []), (53, .ifCond .ne 7, 3, 0, 0, [(60, [])]), (56, .iconst 1, 1, 1, 0, []), (57, .goto 4, 3, 0, 0, [(61, [])])], (0, []))
def bk_X7_isDone_60 : pm_B := ([(60, .iconst 0, 1, 0, 0, [])], (61, []))
def bk_X7_isDone_61 : pm_B := ([(61, .ireturn, 1, 0, 0, [])], (0, []))
def bl_X7_isDone : List (Nat × pm_B) := [(0, bk_X7_isDone_0), (60, bk_X7_isDone_60), (61, bk_X7_isDone_61)]
def cs_X7_isDone : List (Bool × Nat) := []
theorem ck_X7_isDone : pm_ckB yX7_isDone.cls cX7_isDone 1 cs_X7_isDone bl_X7_isDone = true := by decide +kernel
def bk_X7_place_0 : pm_B := ([(0, .bipush 7, 2, 7, 0, []), (2, .istore_n 1, 1, 0, 0, []), (3, .iconst 0, 1, 0, 0, []), (4, .istore_n 2, 1, 0, 0, [])], (5, [0, 1, 2]))
def bk_X7_place_5 : pm_B := ([(5, .iload_n 2, 1, 0, 0, []), (6, .bipush 18, 2, 18, 0, []), (8, .if_icmp .ge 21, 3, 0, 0, [(29, [0, 1])]), (11, .bipush 31, 2, 31, 0, []), (13, .iload_n 1, 1, 0, 0, []), (14, .imul, 1, 0, 0, []), (15, .aload_n 0, 1, 0, 0, []), (16, .getfield 75, 3, 7, 28, []), (19, .iload_n 2, 1, 0, 0, []), (20, .baload, 1, 0, 0, []), (21, .iadd, 1, 0, 0, []), (22, .istore_n 1, 1, 0, 0, []), (23, .iinc 2 1, 3, 1, 0, []), (26, .goto (-21), 3, 0, 0, [(5, [0, 1, 2])])], (0, []))
def bk_X7_place_29 : pm_B := ([(29, .iload_n 1, 1, 0, 0, []), (30, .iload_n 1, 1, 0, 0, []), (31, .bipush 15, 2, 15, 0, []), (33, .iushr, 1, 0, 0, []), (34, .ixor, 1, 0, 0, []), (35, .sipush 16383, 3, 16383, 0, []), (38, .iand, 1, 0, 0, []), (39, .istore_n 2, 1, 0, 0, [])], (40, [0, 2]))
def bk_X7_place_40 : pm_B := ([(40, .aload_n 0, 1, 0, 0, []), (41, .getfield 72, 3, 7, 27, []), (44, .iload_n 2, 1, 0, 0, []), (45, .iaload, 1, 0, 0, []), (46, .ifCond .eq 29, 3, 0, 0, [(75, [2])]), (49, .aload_n 0, 1, 0, 0, []), (50, .aload_n 0, 1, 0, 0, []), (51, .getfield 72, 3, 7, 27, []), (54, .iload_n 2, 1, 0, 0, []), (55, .iaload, 1, 0, 0, []), (56, .iconst 1, 1, 1, 0, []), (57, .isub, 1, 0, 0, []), (58, .invokevirtual 204, 3, 0, 0, []), (61, .ifCond .ne 14, 3, 0, 0, [(75, [2])]), (64, .iload_n 2, 1, 0, 0, []), (65, .iconst 1, 1, 1, 0, []), (66, .iadd, 1, 0, 0, []), (67, .sipush 16383, 3, 16383, 0, []), (70, .iand, 1, 0, 0, []), (71, .istore_n 2, 1, 0, 0, []), (72, .goto (-32), 3, 0, 0, [(40, [0, 2])])], (0, []))
def bk_X7_place_75 : pm_B := ([(75, .iload_n 2, 1, 0, 0, []), (76, .ireturn, 1, 0, 0, [])], (0, []))
def bl_X7_place : List (Nat × pm_B) := [(0, bk_X7_place_0), (5, bk_X7_place_5), (29, bk_X7_place_29), (40, bk_X7_place_40), (75, bk_X7_place_75)]
def cs_X7_place : List (Bool × Nat) := [(false, 204)]
theorem ck_X7_place : pm_ckB yX7_place.cls cX7_place 3 cs_X7_place bl_X7_place = true := by decide +kernel
def bk_X7_isKey_0 : pm_B := ([(0, .iconst 0, 1, 0, 0, []), (1, .istore_n 2, 1, 0, 0, [])], (2, [0, 1, 2]))
def bk_X7_isKey_2 : pm_B := ([(2, .iload_n 2, 1, 0, 0, []), (3, .bipush 18, 2, 18, 0, []), (5, .if_icmp .ge 31, 3, 0, 0, [(36, [])]), (8, .aload_n 0, 1, 0, 0, []), (9, .getfield 61, 3, 7, 24, []), (12, .bipush 18, 2, 18, 0, []), (14, .iload_n 1, 1, 0, 0, []), (15, .imul, 1, 0, 0, []), (16, .iload_n 2, 1, 0, 0, []), (17, .iadd, 1, 0, 0, []), (18, .baload, 1, 0, 0, []), (19, .aload_n 0, 1, 0, 0, []), (20, .getfield 75, 3, 7, 28, []), (23, .iload_n 2, 1, 0, 0, []), (24, .baload, 1, 0, 0, []), (25, .if_icmp .eq 5, 3, 0, 0, [(30, [0, 1, 2])]), (28, .iconst 0, 1, 0, 0, []), (29, .ireturn, 1, 0, 0, [])], (0, []))
def bk_X7_isKey_30 : pm_B := ([(30, .iinc 2 1, 3, 1, 0, []), (33, .goto (-31), 3, 0, 0, [(2, [0, 1, 2])])], (0, []))
def bk_X7_isKey_36 : pm_B := ([(36, .iconst 1, 1, 1, 0, []), (37, .ireturn, 1, 0, 0, [])], (0, []))
def bl_X7_isKey : List (Nat × pm_B) := [(0, bk_X7_isKey_0), (2, bk_X7_isKey_2), (30, bk_X7_isKey_30), (36, bk_X7_isKey_36)]
def cs_X7_isKey : List (Bool × Nat) := []
theorem ck_X7_isKey : pm_ckB yX7_isKey.cls cX7_isKey 3 cs_X7_isKey bl_X7_isKey = true := by decide +kernel
def bk_X7_trying_0 : pm_B := ([(0, .bipush 18, 2, 18, 0, []), (2, .iload_n 1, 1, 0, 0, []), (3, .imul, 1, 0, 0, []), (4, .istore_n 2, 1, 0, 0, []), (5, .iload_n 2, 1, 0, 0, []), (6, .iconst 4, 1, 4, 0, []), (7, .iadd, 1, 0, 0, []), (8, .istore_n 3, 1, 0, 0, []), (9, .iconst 0, 1, 0, 0, []), (10, .istore 4, 2, 0, 0, [])], (12, [0, 2, 3, 4]))
def bk_X7_trying_12 : pm_B := ([(12, .iload 4, 2, 0, 0, []), (14, .iconst 4, 1, 4, 0, []), (15, .if_icmp .ge 33, 3, 0, 0, [(48, [0, 2, 3])]), (18, .aload_n 0, 1, 0, 0, []), (19, .getfield 57, 3, 7, 21, []), (22, .iload 4, 2, 0, 0, []), (24, .iload 4, 2, 0, 0, []), (26, .aload_n 0, 1, 0, 0, []), (27, .getfield 7, 3, 7, 0, []), (30, .if_icmp .ge 10, 3, 0, 0, [(40, [0, 2, 3, 4])]), (33, .aload_n 0, 1, 0, 0, []), (34, .getfield 13, 3, 7, 1, []), (37, .goto 4, 3, 0, 0, [(41, [0, 2, 3, 4])])], (0, []))
def bk_X7_trying_40 : pm_B := ([(40, .iconst 0, 1, 0, 0, [])], (41, [0, 2, 3, 4]))
def bk_X7_trying_41 : pm_B := ([(41, .iastore, 1, 0, 0, []), (42, .iinc 4 1, 3, 1, 0, []), (45, .goto (-33), 3, 0, 0, [(12, [0, 2, 3, 4])])], (0, []))
def bk_X7_trying_48 : pm_B := ([(48, .iconst 0, 1, 0, 0, []), (49, .istore 4, 2, 0, 0, [])], (51, [0, 2, 3, 4]))
def bk_X7_trying_51 : pm_B := ([(51, .iload 4, 2, 0, 0, []), (53, .iconst 4, 1, 4, 0, []), (54, .if_icmp .ge 85, 3, 0, 0, [(139, [0, 2])]), (57, .aload_n 0, 1, 0, 0, []), (58, .getfield 48, 3, 7, 18, []), (61, .iload 4, 2, 0, 0, []), (63, .aload_n 0, 1, 0, 0, []), (64, .getfield 61, 3, 7, 24, []), (67, .iload_n 2, 1, 0, 0, []), (68, .iload 4, 2, 0, 0, []), (70, .iadd, 1, 0, 0, []), (71, .baload, 1, 0, 0, []), (72, .iastore, 1, 0, 0, []), (73, .iconst 0, 1, 0, 0, []), (74, .istore 5, 2, 0, 0, [])], (76, [0, 2, 3, 4, 5]))
def bk_X7_trying_76 : pm_B := ([(76, .iload 5, 2, 0, 0, []), (78, .aload_n 0, 1, 0, 0, []), (79, .getfield 48, 3, 7, 18, []), (82, .iload 4, 2, 0, 0, []), (84, .iaload, 1, 0, 0, []), (85, .if_icmp .ge 48, 3, 0, 0, [(133, [0, 2, 3, 4])]), (88, .aload_n 0, 1, 0, 0, []), (89, .getfield 51, 3, 7, 19, []), (92, .bipush 12, 2, 12, 0, []), (94, .iload 4, 2, 0, 0, []), (96, .imul, 1, 0, 0, []), (97, .iload 5, 2, 0, 0, []), (99, .iadd, 1, 0, 0, []), (100, .aload_n 0, 1, 0, 0, []), (101, .getfield 61, 3, 7, 24, []), (104, .iload_n 3, 1, 0, 0, []), (105, .baload, 1, 0, 0, []), (106, .iastore, 1, 0, 0, []), (107, .aload_n 0, 1, 0, 0, []), (108, .getfield 57, 3, 7, 21, []), (111, .aload_n 0, 1, 0, 0, []), (112, .getfield 61, 3, 7, 24, []), (115, .iload_n 3, 1, 0, 0, []), (116, .baload, 1, 0, 0, []), (117, .iconst 3, 1, 3, 0, []), (118, .ishr, 1, 0, 0, []), (119, .dup2, 1, 0, 0, []), (120, .iaload, 1, 0, 0, []), (121, .iconst 1, 1, 1, 0, []), (122, .isub, 1, 0, 0, []), (123, .iastore, 1, 0, 0, []), (124, .iinc 3 1, 3, 1, 0, []), (127, .iinc 5 1, 3, 1, 0, []), (130, .goto (-54), 3, 0, 0, [(76, [0, 2, 3, 4, 5])])], (0, []))
def bk_X7_trying_133 : pm_B := ([(133, .iinc 4 1, 3, 1, 0, []), (136, .goto (-85), 3, 0, 0, [(51, [0, 2, 3, 4])])], (0, []))
def bk_X7_trying_139 : pm_B := ([(139, .iconst 0, 1, 0, 0, []), (140, .istore 4, 2, 0, 0, [])], (142, [0, 2, 4]))
def bk_X7_trying_142 : pm_B := ([(142, .iload 4, 2, 0, 0, []), (144, .iconst 2, 1, 2, 0, []), (145, .if_icmp .ge 56, 3, 0, 0, [(201, [])]), (148, .aload_n 0, 1, 0, 0, []), (149, .getfield 54, 3, 7, 20, []), (152, .iload 4, 2, 0, 0, []), (154, .aload_n 0, 1, 0, 0, []), (155, .getfield 61, 3, 7, 24, []), (158, .iload_n 2, 1, 0, 0, []), (159, .bipush 16, 2, 16, 0, []), (161, .iadd, 1, 0, 0, []), (162, .iload 4, 2, 0, 0, []), (164, .iadd, 1, 0, 0, []), (165, .baload, 1, 0, 0, []), (166, .iastore, 1, 0, 0, []), (167, .aload_n 0, 1, 0, 0, []), (168, .getfield 54, 3, 7, 20, []), (171, .iload 4, 2, 0, 0, []), (173, .iaload, 1, 0, 0, []), (174, .ifCond .eq 21, 3, 0, 0, [(195, [0, 2, 4])]), (177, .aload_n 0, 1, 0, 0, []), (178, .getfield 57, 3, 7, 21, []), (181, .aload_n 0, 1, 0, 0, []), (182, .getfield 54, 3, 7, 20, []), (185, .iload 4, 2, 0, 0, []), (187, .iaload, 1, 0, 0, []), (188, .iconst 3, 1, 3, 0, []), (189, .ishr, 1, 0, 0, []), (190, .dup2, 1, 0, 0, []), (191, .iaload, 1, 0, 0, []), (192, .iconst 1, 1, 1, 0, []), (193, .isub, 1, 0, 0, []), (194, .iastore, 1, 0, 0, [])], (195, [0, 2, 4]))
def bk_X7_trying_195 : pm_B := ([(195, .iinc 4 1, 3, 1, 0, []), (198, .goto (-56), 3, 0, 0, [(142, [0, 2, 4])])], (0, []))
def bk_X7_trying_201 : pm_B := ([(201, .return_, 1, 0, 0, [])], (0, []))
def bl_X7_trying : List (Nat × pm_B) := [(0, bk_X7_trying_0), (12, bk_X7_trying_12), (40, bk_X7_trying_40), (41, bk_X7_trying_41), (48, bk_X7_trying_48), (51, bk_X7_trying_51), (76, bk_X7_trying_76), (133, bk_X7_trying_133), (139, bk_X7_trying_139), (142, bk_X7_trying_142), (195, bk_X7_trying_195), (201, bk_X7_trying_201)]
def cs_X7_trying : List (Bool × Nat) := []
theorem ck_X7_trying : pm_ckB yX7_trying.cls cX7_trying 6 cs_X7_trying bl_X7_trying = true := by decide +kernel
def bk_X7_search_0 : pm_B := ([(0, .aload_n 0, 1, 0, 0, []), (1, .iconst 0, 1, 0, 0, []), (2, .putfield 207, 3, 7, 23, []), (5, .iconst 0, 1, 0, 0, []), (6, .istore_n 3, 1, 0, 0, [])], (7, [0, 1, 2, 3]))
def bk_X7_search_7 : pm_B := ([(7, .iload_n 3, 1, 0, 0, []), (8, .sipush 16384, 3, 16384, 0, []), (11, .if_icmp .ge 16, 3, 0, 0, [(27, [0, 1, 2])]), (14, .aload_n 0, 1, 0, 0, []), (15, .getfield 72, 3, 7, 27, []), (18, .iload_n 3, 1, 0, 0, []), (19, .iconst 0, 1, 0, 0, []), (20, .iastore, 1, 0, 0, []), (21, .iinc 3 1, 3, 1, 0, []), (24, .goto (-17), 3, 0, 0, [(7, [0, 1, 2, 3])])], (0, []))
def bk_X7_search_27 : pm_B := ([(27, .aload_n 0, 1, 0, 0, []), (28, .invokevirtual 179, 3, 0, 0, []), (31, .aload_n 0, 1, 0, 0, []), (32, .iload_n 1, 1, 0, 0, []), (33, .putfield 152, 3, 7, 22, []), (36, .aload_n 0, 1, 0, 0, []), (37, .invokevirtual 210, 3, 1, 0, []), (40, .aload_n 0, 1, 0, 0, []), (41, .invokevirtual 213, 3, 2, 0, []), (44, .ifCond .eq 5, 3, 0, 0, [(49, [0, 1, 2])]), (47, .iconst 0, 1, 0, 0, []), (48, .ireturn, 1, 0, 0, [])], (0, []))
def bk_X7_search_49 : pm_B := ([(49, .aload_n 0, 1, 0, 0, []), (50, .iconst 0, 1, 0, 0, []), (51, .invokevirtual 217, 3, 3, 0, []), (54, .iconst 0, 1, 0, 0, []), (55, .istore_n 3, 1, 0, 0, []), (56, .iconst 0, 1, 0, 0, []), (57, .istore 4, 2, 0, 0, [])], (59, [0, 1, 2, 3, 4]))
def bk_X7_search_59 : pm_B := ([(59, .iload_n 3, 1, 0, 0, []), (60, .aload_n 0, 1, 0, 0, []), (61, .getfield 207, 3, 7, 23, []), (64, .if_icmp .ge 194, 3, 0, 0, [(258, [])]), (67, .aload_n 0, 1, 0, 0, []), (68, .getfield 207, 3, 7, 23, []), (71, .istore 5, 2, 0, 0, []), (73, .iconst 0, 1, 0, 0, []), (74, .istore 6, 2, 0, 0, []), (76, .iconst 0, 1, 0, 0, []), (77, .istore 7, 2, 0, 0, []), (79, .iload_n 3, 1, 0, 0, []), (80, .istore 8, 2, 0, 0, [])], (82, [0, 1, 2, 4, 5, 6, 7, 8]))
def bk_X7_search_82 : pm_B := ([(82, .iload 8, 2, 0, 0, []), (84, .iload 5, 2, 0, 0, []), (86, .if_icmp .ge 147, 3, 0, 0, [(233, [0, 1, 2, 4, 5, 6, 7])]), (89, .iload 7, 2, 0, 0, []), (91, .ifCond .ne 142, 3, 0, 0, [(233, [0, 1, 2, 4, 5, 6, 7])]), (94, .iconst 0, 1, 0, 0, []), (95, .istore 9, 2, 0, 0, [])], (97, [0, 1, 2, 4, 5, 6, 7, 8, 9]))
def bk_X7_search_97 : pm_B := ([(97, .iload 9, 2, 0, 0, []), (99, .bipush 36, 2, 36, 0, []), (101, .if_icmp .ge 126, 3, 0, 0, [(227, [0, 1, 2, 4, 5, 6, 7, 8])]), (104, .iload 7, 2, 0, 0, []), (106, .ifCond .ne 121, 3, 0, 0, [(227, [0, 1, 2, 4, 5, 6, 7, 8])]), (109, .aload_n 0, 1, 0, 0, []), (110, .iload 9, 2, 0, 0, []), (112, .bipush 6, 2, 6, 0, []), (114, .idiv, 1, 0, 0, []), (115, .iload 9, 2, 0, 0, []), (117, .bipush 6, 2, 6, 0, []), (119, .irem, 1, 0, 0, []), (120, .iload_n 1, 1, 0, 0, []), (121, .invokevirtual 176, 3, 4, 0, []), (124, .ifCond .ne 6, 3, 0, 0, [(130, [0, 1, 2, 4, 5, 6, 7, 8, 9])]), (127, .goto 94, 3, 0, 0, [(221, [0, 1, 2, 4, 5, 6, 7, 8, 9])])], (0, []))
def bk_X7_search_130 : pm_B := ([(130, .aload_n 0, 1, 0, 0, []), (131, .iload 8, 2, 0, 0, []), (133, .invokevirtual 220, 3, 5, 0, []), (136, .aload_n 0, 1, 0, 0, []), (137, .iload 9, 2, 0, 0, []), (139, .bipush 6, 2, 6, 0, []), (141, .idiv, 1, 0, 0, []), (142, .iload 9, 2, 0, 0, []), (144, .bipush 6, 2, 6, 0, []), (146, .irem, 1, 0, 0, []), (147, .invokevirtual 182, 3, 6, 0, []), (150, .ifCond .eq 6, 3, 0, 0, [(156, [0, 1, 2, 4, 5, 6, 7, 8, 9])]), (153, .goto 68, 3, 0, 0, [(221, [0, 1, 2, 4, 5, 6, 7, 8, 9])])], (0, []))
def bk_X7_search_156 : pm_B := ([(156, .aload_n 0, 1, 0, 0, []), (157, .iload 9, 2, 0, 0, []), (159, .bipush 6, 2, 6, 0, []), (161, .idiv, 1, 0, 0, []), (162, .iload 9, 2, 0, 0, []), (164, .bipush 6, 2, 6, 0, []), (166, .irem, 1, 0, 0, []), (167, .invokevirtual 186, 3, 7, 0, []), (170, .aload_n 0, 1, 0, 0, []), (171, .invokevirtual 210, 3, 1, 0, []), (174, .aload_n 0, 1, 0, 0, []), (175, .invokevirtual 213, 3, 2, 0, []), (178, .ifCond .eq 9, 3, 0, 0, [(187, [0, 1, 2, 4, 5, 6, 7, 8, 9])]), (181, .iconst 1, 1, 1, 0, []), (182, .istore 7, 2, 0, 0, []), (184, .goto 37, 3, 0, 0, [(221, [0, 1, 2, 4, 5, 6, 7, 8, 9])])], (0, []))
def bk_X7_search_187 : pm_B := ([(187, .aload_n 0, 1, 0, 0, []), (188, .getfield 72, 3, 7, 27, []), (191, .aload_n 0, 1, 0, 0, []), (192, .invokevirtual 223, 3, 8, 0, []), (195, .iaload, 1, 0, 0, []), (196, .ifCond .ne 25, 3, 0, 0, [(221, [0, 1, 2, 4, 5, 6, 7, 8, 9])]), (199, .aload_n 0, 1, 0, 0, []), (200, .getfield 207, 3, 7, 23, []), (203, .iload_n 2, 1, 0, 0, []), (204, .if_icmp .ge 14, 3, 0, 0, [(218, [0, 1, 2, 4, 5, 7, 8, 9])]), (207, .aload_n 0, 1, 0, 0, []), (208, .iload 4, 2, 0, 0, []), (210, .iconst 1, 1, 1, 0, []), (211, .iadd, 1, 0, 0, []), (212, .invokevirtual 217, 3, 3, 0, []), (215, .goto 6, 3, 0, 0, [(221, [0, 1, 2, 4, 5, 6, 7, 8, 9])])], (0, []))
def bk_X7_search_218 : pm_B := ([(218, .iconst 1, 1, 1, 0, []), (219, .istore 6, 2, 0, 0, [])], (221, [0, 1, 2, 4, 5, 6, 7, 8, 9]))
def bk_X7_search_221 : pm_B := ([(221, .iinc 9 1, 3, 1, 0, []), (224, .goto (-127), 3, 0, 0, [(97, [0, 1, 2, 4, 5, 6, 7, 8, 9])])], (0, []))
def bk_X7_search_227 : pm_B := ([(227, .iinc 8 1, 3, 1, 0, []), (230, .goto (-148), 3, 0, 0, [(82, [0, 1, 2, 4, 5, 6, 7, 8])])], (0, []))
def bk_X7_search_233 : pm_B := ([(233, .iinc 4 1, 3, 1, 0, []), (236, .iload 7, 2, 0, 0, []), (238, .ifCond .eq 6, 3, 0, 0, [(244, [0, 1, 2, 4, 5, 6])]), (241, .iload 4, 2, 0, 0, []), (243, .ireturn, 1, 0, 0, [])], (0, []))
def bk_X7_search_244 : pm_B := ([(244, .iload 6, 2, 0, 0, []), (246, .ifCond .eq 6, 3, 0, 0, [(252, [0, 1, 2, 4, 5])]), (249, .bipush (-3), 2, 3, 1, []), (251, .ireturn, 1, 0, 0, [])], (0, []))
def bk_X7_search_252 : pm_B := ([(252, .iload 5, 2, 0, 0, []), (254, .istore_n 3, 1, 0, 0, []), (255, .goto (-196), 3, 0, 0, [(59, [0, 1, 2, 3, 4])])], (0, []))
def bk_X7_search_258 : pm_B := ([(258, .iconst (-1), 1, 1, 1, []), (259, .ireturn, 1, 0, 0, [])], (0, []))
def bl_X7_search : List (Nat × pm_B) := [(0, bk_X7_search_0), (7, bk_X7_search_7), (27, bk_X7_search_27), (49, bk_X7_search_49), (59, bk_X7_search_59), (82, bk_X7_search_82), (97, bk_X7_search_97), (130, bk_X7_search_130), (156, bk_X7_search_156), (187, bk_X7_search_187), (218, bk_X7_search_218), (221, bk_X7_search_221), (227, bk_X7_search_227), (233, bk_X7_search_233), (244, bk_X7_search_244), (252, bk_X7_search_252), (258, bk_X7_search_258)]
def cs_X7_search : List (Bool × Nat) := [(false, 179), (false, 210), (false, 213), (false, 217), (false, 176), (false, 220), (false, 182), (false, 186), (false, 223)]
theorem ck_X7_search : pm_ckB yX7_search.cls cX7_search 10 cs_X7_search bl_X7_search = true := by decide +kernel
def bk_X7_stores_0 : pm_B := ([(0, .iconst 0, 1, 0, 0, []), (1, .istore_n 2, 1, 0, 0, [])], (2, [0, 1, 2]))
def bk_X7_stores_2 : pm_B := ([(2, .iload_n 2, 1, 0, 0, []), (3, .bipush 18, 2, 18, 0, []), (5, .if_icmp .ge 29, 3, 0, 0, [(34, [0, 1])]), (8, .aload_n 0, 1, 0, 0, []), (9, .getfield 61, 3, 7, 24, []), (12, .bipush 18, 2, 18, 0, []), (14, .aload_n 0, 1, 0, 0, []), (15, .getfield 207, 3, 7, 23, []), (18, .imul, 1, 0, 0, []), (19, .iload_n 2, 1, 0, 0, []), (20, .iadd, 1, 0, 0, []), (21, .aload_n 0, 1, 0, 0, []), (22, .getfield 75, 3, 7, 28, []), (25, .iload_n 2, 1, 0, 0, []), (26, .baload, 1, 0, 0, []), (27, .bastore, 1, 0, 0, []), (28, .iinc 2 1, 3, 1, 0, []), (31, .goto (-29), 3, 0, 0, [(2, [0, 1, 2])])], (0, []))
def bk_X7_stores_34 : pm_B := ([(34, .aload_n 0, 1, 0, 0, []), (35, .getfield 65, 3, 7, 25, []), (38, .aload_n 0, 1, 0, 0, []), (39, .getfield 207, 3, 7, 23, []), (42, .iload_n 1, 1, 0, 0, []), (43, .i2s, 1, 0, 0, []), (44, .sastore, 1, 0, 0, []), (45, .aload_n 0, 1, 0, 0, []), (46, .getfield 69, 3, 7, 26, []), (49, .aload_n 0, 1, 0, 0, []), (50, .getfield 207, 3, 7, 23, []), (53, .iconst 0, 1, 0, 0, []), (54, .bastore, 1, 0, 0, []), (55, .aload_n 0, 1, 0, 0, []), (56, .getfield 72, 3, 7, 27, []), (59, .aload_n 0, 1, 0, 0, []), (60, .invokevirtual 223, 3, 0, 0, []), (63, .aload_n 0, 1, 0, 0, []), (64, .dup, 1, 0, 0, []), (65, .getfield 207, 3, 7, 23, []), (68, .iconst 1, 1, 1, 0, []), (69, .iadd, 1, 0, 0, []), (70, .dup_x1, 1, 0, 0, []), (71, .putfield 207, 3, 7, 23, []), (74, .iastore, 1, 0, 0, []), (75, .return_, 1, 0, 0, [])], (0, []))
def bl_X7_stores : List (Nat × pm_B) := [(0, bk_X7_stores_0), (2, bk_X7_stores_2), (34, bk_X7_stores_34)]
def cs_X7_stores : List (Bool × Nat) := [(false, 223)]
theorem ck_X7_stores : pm_ckB yX7_stores.cls cX7_stores 3 cs_X7_stores bl_X7_stores = true := by decide +kernel
def bk_X7_marks_0 : pm_B := ([(0, .aload_n 0, 1, 0, 0, []), (1, .getfield 207, 3, 7, 23, []), (4, .iconst 1, 1, 1, 0, []), (5, .isub, 1, 0, 0, []), (6, .istore_n 2, 1, 0, 0, [])], (7, [0, 1, 2]))
def bk_X7_marks_7 : pm_B := ([(7, .iload_n 2, 1, 0, 0, []), (8, .ifCond .lt 125, 3, 0, 0, [(133, [])]), (11, .aload_n 0, 1, 0, 0, []), (12, .getfield 65, 3, 7, 25, []), (15, .iload_n 2, 1, 0, 0, []), (16, .saload, 1, 0, 0, []), (17, .iload_n 1, 1, 0, 0, []), (18, .if_icmp .lt 6, 3, 0, 0, [(24, [0, 1, 2])]), (21, .goto 106, 3, 0, 0, [(127, [0, 1, 2])])], (0, []))
def bk_X7_marks_24 : pm_B := ([(24, .iconst 0, 1, 0, 0, []), (25, .istore_n 3, 1, 0, 0, [])], (26, [0, 1, 2, 3]))
def bk_X7_marks_26 : pm_B := ([(26, .iload_n 3, 1, 0, 0, []), (27, .bipush 36, 2, 36, 0, []), (29, .if_icmp .ge 98, 3, 0, 0, [(127, [0, 1, 2])]), (32, .aload_n 0, 1, 0, 0, []), (33, .getfield 69, 3, 7, 26, []), (36, .iload_n 2, 1, 0, 0, []), (37, .baload, 1, 0, 0, []), (38, .ifCond .ne 89, 3, 0, 0, [(127, [0, 1, 2])]), (41, .aload_n 0, 1, 0, 0, []), (42, .iload_n 3, 1, 0, 0, []), (43, .bipush 6, 2, 6, 0, []), (45, .idiv, 1, 0, 0, []), (46, .iload_n 3, 1, 0, 0, []), (47, .bipush 6, 2, 6, 0, []), (49, .irem, 1, 0, 0, []), (50, .aload_n 0, 1, 0, 0, []), (51, .getfield 130, 3, 7, 3, []), (54, .invokevirtual 176, 3, 0, 0, []), (57, .ifCond .ne 6, 3, 0, 0, [(63, [0, 1, 2, 3])]), (60, .goto 61, 3, 0, 0, [(121, [0, 1, 2, 3])])], (0, []))
def bk_X7_marks_63 : pm_B := ([(63, .aload_n 0, 1, 0, 0, []), (64, .iload_n 2, 1, 0, 0, []), (65, .invokevirtual 220, 3, 1, 0, []), (68, .aload_n 0, 1, 0, 0, []), (69, .iload_n 3, 1, 0, 0, []), (70, .bipush 6, 2, 6, 0, []), (72, .idiv, 1, 0, 0, []), (73, .iload_n 3, 1, 0, 0, []), (74, .bipush 6, 2, 6, 0, []), (76, .irem, 1, 0, 0, []), (77, .invokevirtual 182, 3, 2, 0, []), (80, .ifCond .eq 6, 3, 0, 0, [(86, [0, 1, 2, 3])]), (83, .goto 38, 3, 0, 0, [(121, [0, 1, 2, 3])])], (0, []))
def bk_X7_marks_86 : pm_B := ([(86, .aload_n 0, 1, 0, 0, []), (87, .iload_n 3, 1, 0, 0, []), (88, .bipush 6, 2, 6, 0, []), (90, .idiv, 1, 0, 0, []), (91, .iload_n 3, 1, 0, 0, []), (92, .bipush 6, 2, 6, 0, []), (94, .irem, 1, 0, 0, []), (95, .invokevirtual 186, 3, 3, 0, []), (98, .aload_n 0, 1, 0, 0, []), (99, .invokevirtual 210, 3, 4, 0, []), (102, .aload_n 0, 1, 0, 0, []), (103, .getfield 69, 3, 7, 26, []), (106, .iload_n 2, 1, 0, 0, []), (107, .aload_n 0, 1, 0, 0, []), (108, .aload_n 0, 1, 0, 0, []), (109, .getfield 65, 3, 7, 25, []), (112, .iload_n 2, 1, 0, 0, []), (113, .saload, 1, 0, 0, []), (114, .iconst 1, 1, 1, 0, []), (115, .iadd, 1, 0, 0, []), (116, .iload_n 1, 1, 0, 0, []), (117, .invokevirtual 226, 3, 5, 0, []), (120, .bastore, 1, 0, 0, [])], (121, [0, 1, 2, 3]))
def bk_X7_marks_121 : pm_B := ([(121, .iinc 3 1, 3, 1, 0, []), (124, .goto (-98), 3, 0, 0, [(26, [0, 1, 2, 3])])], (0, []))
def bk_X7_marks_127 : pm_B := ([(127, .iinc 2 (-1), 3, 1, 1, []), (130, .goto (-123), 3, 0, 0, [(7, [0, 1, 2])])], (0, []))
def bk_X7_marks_133 : pm_B := ([(133, .return_, 1, 0, 0, [])], (0, []))
def bl_X7_marks : List (Nat × pm_B) := [(0, bk_X7_marks_0), (7, bk_X7_marks_7), (24, bk_X7_marks_24), (26, bk_X7_marks_26), (63, bk_X7_marks_63), (86, bk_X7_marks_86), (121, bk_X7_marks_121), (127, bk_X7_marks_127), (133, bk_X7_marks_133)]
def cs_X7_marks : List (Bool × Nat) := [(false, 176), (false, 220), (false, 182), (false, 186), (false, 210), (false, 226)]
theorem ck_X7_marks : pm_ckB yX7_marks.cls cX7_marks 4 cs_X7_marks bl_X7_marks = true := by decide +kernel
def bk_X7_leadsOn_0 : pm_B := ([(0, .aload_n 0, 1, 0, 0, []), (1, .invokevirtual 213, 3, 0, 0, []), (4, .ifCond .eq 14, 3, 0, 0, [(18, [0, 1])]), (7, .iload_n 1, 1, 0, 0, []), (8, .iload_n 2, 1, 0, 0, []), (9, .if_icmp .ne 7, 3, 0, 0, [(16, [])]), (12, .iconst 1, 1, 1, 0, []), (13, .goto 4, 3, 0, 0, [(17, [])])], (0, []))
def bk_X7_leadsOn_16 : pm_B := ([(16, .iconst 0, 1, 0, 0, [])], (17, []))
def bk_X7_leadsOn_17 : pm_B := ([(17, .ireturn, 1, 0, 0, [])], (0, []))
def bk_X7_leadsOn_18 : pm_B := ([(18, .aload_n 0, 1, 0, 0, []), (19, .invokevirtual 223, 3, 1, 0, []), (22, .istore_n 3, 1, 0, 0, []), (23, .aload_n 0, 1, 0, 0, []), (24, .getfield 72, 3, 7, 27, []), (27, .iload_n 3, 1, 0, 0, []), (28, .iaload, 1, 0, 0, []), (29, .ifCond .eq 40, 3, 0, 0, [(69, [])]), (32, .aload_n 0, 1, 0, 0, []), (33, .getfield 65, 3, 7, 25, []), (36, .aload_n 0, 1, 0, 0, []), (37, .getfield 72, 3, 7, 27, []), (40, .iload_n 3, 1, 0, 0, []), (41, .iaload, 1, 0, 0, []), (42, .iconst 1, 1, 1, 0, []), (43, .isub, 1, 0, 0, []), (44, .saload, 1, 0, 0, []), (45, .iload_n 1, 1, 0, 0, []), (46, .if_icmp .ne 23, 3, 0, 0, [(69, [])]), (49, .aload_n 0, 1, 0, 0, []), (50, .getfield 69, 3, 7, 26, []), (53, .aload_n 0, 1, 0, 0, []), (54, .getfield 72, 3, 7, 27, []), (57, .iload_n 3, 1, 0, 0, []), (58, .iaload, 1, 0, 0, []), (59, .iconst 1, 1, 1, 0, []), (60, .isub, 1, 0, 0, []), (61, .baload, 1, 0, 0, []), (62, .ifCond .eq 7, 3, 0, 0, [(69, [])]), (65, .iconst 1, 1, 1, 0, []), (66, .goto 4, 3, 0, 0, [(70, [])])], (0, []))
def bk_X7_leadsOn_69 : pm_B := ([(69, .iconst 0, 1, 0, 0, [])], (70, []))
def bk_X7_leadsOn_70 : pm_B := ([(70, .ireturn, 1, 0, 0, [])], (0, []))
def bl_X7_leadsOn : List (Nat × pm_B) := [(0, bk_X7_leadsOn_0), (16, bk_X7_leadsOn_16), (17, bk_X7_leadsOn_17), (18, bk_X7_leadsOn_18), (69, bk_X7_leadsOn_69), (70, bk_X7_leadsOn_70)]
def cs_X7_leadsOn : List (Bool × Nat) := [(false, 213), (false, 223)]
theorem ck_X7_leadsOn : pm_ckB yX7_leadsOn.cls cX7_leadsOn 4 cs_X7_leadsOn bl_X7_leadsOn = true := by decide +kernel
def bk_X7_plans_0 : pm_B := ([(0, .aload_n 0, 1, 0, 0, []), (1, .iload_n 1, 1, 0, 0, []), (2, .invokevirtual 229, 3, 0, 0, []), (5, .aload_n 0, 1, 0, 0, []), (6, .iconst 0, 1, 0, 0, []), (7, .putfield 127, 3, 7, 30, []), (10, .aload_n 0, 1, 0, 0, []), (11, .invokevirtual 179, 3, 1, 0, [])], (14, [0, 1]))
def bk_X7_plans_14 : pm_B := ([(14, .aload_n 0, 1, 0, 0, []), (15, .getfield 127, 3, 7, 30, []), (18, .iload_n 1, 1, 0, 0, []), (19, .if_icmp .ge 147, 3, 0, 0, [(166, [])]), (22, .iconst 0, 1, 0, 0, []), (23, .istore_n 2, 1, 0, 0, []), (24, .iconst 0, 1, 0, 0, []), (25, .istore_n 3, 1, 0, 0, [])], (26, [0, 1, 2, 3]))
def bk_X7_plans_26 : pm_B := ([(26, .iload_n 3, 1, 0, 0, []), (27, .bipush 36, 2, 36, 0, []), (29, .if_icmp .ge 129, 3, 0, 0, [(158, [0, 1, 2])]), (32, .iload_n 2, 1, 0, 0, []), (33, .ifCond .ne 125, 3, 0, 0, [(158, [0, 1, 2])]), (36, .aload_n 0, 1, 0, 0, []), (37, .iload_n 3, 1, 0, 0, []), (38, .bipush 6, 2, 6, 0, []), (40, .idiv, 1, 0, 0, []), (41, .iload_n 3, 1, 0, 0, []), (42, .bipush 6, 2, 6, 0, []), (44, .irem, 1, 0, 0, []), (45, .aload_n 0, 1, 0, 0, []), (46, .getfield 130, 3, 7, 3, []), (49, .invokevirtual 176, 3, 2, 0, []), (52, .ifCond .eq 100, 3, 0, 0, [(152, [0, 1, 2, 3])]), (55, .aload_n 0, 1, 0, 0, []), (56, .iload_n 3, 1, 0, 0, []), (57, .bipush 6, 2, 6, 0, []), (59, .idiv, 1, 0, 0, []), (60, .iload_n 3, 1, 0, 0, []), (61, .bipush 6, 2, 6, 0, []), (63, .irem, 1, 0, 0, []), (64, .invokevirtual 182, 3, 3, 0, []), (67, .ifCond .eq 6, 3, 0, 0, [(73, [0, 1, 2, 3])]), (70, .goto 82, 3, 0, 0, [(152, [0, 1, 2, 3])])], (0, []))
def bk_X7_plans_73 : pm_B := ([(73, .aload_n 0, 1, 0, 0, []), (74, .invokevirtual 232, 3, 4, 0, []), (77, .aload_n 0, 1, 0, 0, []), (78, .iload_n 3, 1, 0, 0, []), (79, .bipush 6, 2, 6, 0, []), (81, .idiv, 1, 0, 0, []), (82, .iload_n 3, 1, 0, 0, []), (83, .bipush 6, 2, 6, 0, []), (85, .irem, 1, 0, 0, []), (86, .invokevirtual 186, 3, 5, 0, []), (89, .aload_n 0, 1, 0, 0, []), (90, .invokevirtual 210, 3, 6, 0, []), (93, .aload_n 0, 1, 0, 0, []), (94, .aload_n 0, 1, 0, 0, []), (95, .getfield 127, 3, 7, 30, []), (98, .iconst 1, 1, 1, 0, []), (99, .iadd, 1, 0, 0, []), (100, .iload_n 1, 1, 0, 0, []), (101, .invokevirtual 226, 3, 7, 0, []), (104, .ifCond .eq 44, 3, 0, 0, [(148, [0, 1, 2, 3])]), (107, .aload_n 0, 1, 0, 0, []), (108, .getfield 81, 3, 7, 31, []), (111, .aload_n 0, 1, 0, 0, []), (112, .getfield 127, 3, 7, 30, []), (115, .iload_n 3, 1, 0, 0, []), (116, .bipush 6, 2, 6, 0, []), (118, .idiv, 1, 0, 0, []), (119, .iastore, 1, 0, 0, []), (120, .aload_n 0, 1, 0, 0, []), (121, .getfield 84, 3, 7, 32, []), (124, .aload_n 0, 1, 0, 0, []), (125, .getfield 127, 3, 7, 30, []), (128, .iload_n 3, 1, 0, 0, []), (129, .bipush 6, 2, 6, 0, []), (131, .irem, 1, 0, 0, []), (132, .iastore, 1, 0, 0, []), (133, .aload_n 0, 1, 0, 0, []), (134, .dup, 1, 0, 0, []), (135, .getfield 127, 3, 7, 30, []), (138, .iconst 1, 1, 1, 0, []), (139, .iadd, 1, 0, 0, []), (140, .putfield 127, 3, 7, 30, []), (143, .iconst 1, 1, 1, 0, []), (144, .istore_n 2, 1, 0, 0, []), (145, .goto 7, 3, 0, 0, [(152, [0, 1, 2, 3])])], (0, []))
def bk_X7_plans_148 : pm_B := ([(148, .aload_n 0, 1, 0, 0, []), (149, .invokevirtual 235, 3, 8, 0, [])], (152, [0, 1, 2, 3]))
def bk_X7_plans_152 : pm_B := ([(152, .iinc 3 1, 3, 1, 0, []), (155, .goto (-129), 3, 0, 0, [(26, [0, 1, 2, 3])])], (0, []))
def bk_X7_plans_158 : pm_B := ([(158, .iload_n 2, 1, 0, 0, []), (159, .ifCond .ne 4, 3, 0, 0, [(163, [0, 1])]), (162, .return_, 1, 0, 0, [])], (0, []))
def bk_X7_plans_163 : pm_B := ([(163, .goto (-149), 3, 0, 0, [(14, [0, 1])])], (0, []))
def bk_X7_plans_166 : pm_B := ([(166, .return_, 1, 0, 0, [])], (0, []))
def bl_X7_plans : List (Nat × pm_B) := [(0, bk_X7_plans_0), (14, bk_X7_plans_14), (26, bk_X7_plans_26), (73, bk_X7_plans_73), (148, bk_X7_plans_148), (152, bk_X7_plans_152), (158, bk_X7_plans_158), (163, bk_X7_plans_163), (166, bk_X7_plans_166)]
def cs_X7_plans : List (Bool × Nat) := [(false, 229), (false, 179), (false, 176), (false, 182), (false, 232), (false, 186), (false, 210), (false, 226), (false, 235)]
theorem ck_X7_plans : pm_ckB yX7_plans.cls cX7_plans 4 cs_X7_plans bl_X7_plans = true := by decide +kernel
def bk_X7_remember_0 : pm_B := ([(0, .iconst 0, 1, 0, 0, []), (1, .istore_n 1, 1, 0, 0, [])], (2, [0, 1]))
def bk_X7_remember_2 : pm_B := ([(2, .iload_n 1, 1, 0, 0, []), (3, .iconst 4, 1, 4, 0, []), (4, .if_icmp .ge 33, 3, 0, 0, [(37, [0])]), (7, .aload_n 0, 1, 0, 0, []), (8, .getfield 99, 3, 7, 38, []), (11, .iload_n 1, 1, 0, 0, []), (12, .aload_n 0, 1, 0, 0, []), (13, .getfield 48, 3, 7, 18, []), (16, .iload_n 1, 1, 0, 0, []), (17, .iaload, 1, 0, 0, []), (18, .iastore, 1, 0, 0, []), (19, .aload_n 0, 1, 0, 0, []), (20, .getfield 108, 3, 7, 41, []), (23, .iload_n 1, 1, 0, 0, []), (24, .aload_n 0, 1, 0, 0, []), (25, .getfield 57, 3, 7, 21, []), (28, .iload_n 1, 1, 0, 0, []), (29, .iaload, 1, 0, 0, []), (30, .iastore, 1, 0, 0, []), (31, .iinc 1 1, 3, 1, 0, []), (34, .goto (-32), 3, 0, 0, [(2, [0, 1])])], (0, []))
def bk_X7_remember_37 : pm_B := ([(37, .iconst 0, 1, 0, 0, []), (38, .istore_n 1, 1, 0, 0, [])], (39, [0, 1]))
def bk_X7_remember_39 : pm_B := ([(39, .iload_n 1, 1, 0, 0, []), (40, .bipush 48, 2, 48, 0, []), (42, .if_icmp .ge 21, 3, 0, 0, [(63, [0])]), (45, .aload_n 0, 1, 0, 0, []), (46, .getfield 102, 3, 7, 39, []), (49, .iload_n 1, 1, 0, 0, []), (50, .aload_n 0, 1, 0, 0, []), (51, .getfield 51, 3, 7, 19, []), (54, .iload_n 1, 1, 0, 0, []), (55, .iaload, 1, 0, 0, []), (56, .iastore, 1, 0, 0, []), (57, .iinc 1 1, 3, 1, 0, []), (60, .goto (-21), 3, 0, 0, [(39, [0, 1])])], (0, []))
def bk_X7_remember_63 : pm_B := ([(63, .aload_n 0, 1, 0, 0, []), (64, .getfield 105, 3, 7, 40, []), (67, .iconst 0, 1, 0, 0, []), (68, .aload_n 0, 1, 0, 0, []), (69, .getfield 54, 3, 7, 20, []), (72, .iconst 0, 1, 0, 0, []), (73, .iaload, 1, 0, 0, []), (74, .iastore, 1, 0, 0, []), (75, .aload_n 0, 1, 0, 0, []), (76, .getfield 105, 3, 7, 40, []), (79, .iconst 1, 1, 1, 0, []), (80, .aload_n 0, 1, 0, 0, []), (81, .getfield 54, 3, 7, 20, []), (84, .iconst 1, 1, 1, 0, []), (85, .iaload, 1, 0, 0, []), (86, .iastore, 1, 0, 0, []), (87, .return_, 1, 0, 0, [])], (0, []))
def bl_X7_remember : List (Nat × pm_B) := [(0, bk_X7_remember_0), (2, bk_X7_remember_2), (37, bk_X7_remember_37), (39, bk_X7_remember_39), (63, bk_X7_remember_63)]
def cs_X7_remember : List (Bool × Nat) := []
theorem ck_X7_remember : pm_ckB yX7_remember.cls cX7_remember 2 cs_X7_remember bl_X7_remember = true := by decide +kernel
def bk_X7_recall_0 : pm_B := ([(0, .iconst 0, 1, 0, 0, []), (1, .istore_n 1, 1, 0, 0, [])], (2, [0, 1]))
def bk_X7_recall_2 : pm_B := ([(2, .iload_n 1, 1, 0, 0, []), (3, .iconst 4, 1, 4, 0, []), (4, .if_icmp .ge 33, 3, 0, 0, [(37, [0])]), (7, .aload_n 0, 1, 0, 0, []), (8, .getfield 48, 3, 7, 18, []), (11, .iload_n 1, 1, 0, 0, []), (12, .aload_n 0, 1, 0, 0, []), (13, .getfield 99, 3, 7, 38, []), (16, .iload_n 1, 1, 0, 0, []), (17, .iaload, 1, 0, 0, []), (18, .iastore, 1, 0, 0, []), (19, .aload_n 0, 1, 0, 0, []), (20, .getfield 57, 3, 7, 21, []), (23, .iload_n 1, 1, 0, 0, []), (24, .aload_n 0, 1, 0, 0, []), (25, .getfield 108, 3, 7, 41, []), (28, .iload_n 1, 1, 0, 0, []), (29, .iaload, 1, 0, 0, []), (30, .iastore, 1, 0, 0, []), (31, .iinc 1 1, 3, 1, 0, []), (34, .goto (-32), 3, 0, 0, [(2, [0, 1])])], (0, []))
def bk_X7_recall_37 : pm_B := ([(37, .iconst 0, 1, 0, 0, []), (38, .istore_n 1, 1, 0, 0, [])], (39, [0, 1]))
def bk_X7_recall_39 : pm_B := ([(39, .iload_n 1, 1, 0, 0, []), (40, .bipush 48, 2, 48, 0, []), (42, .if_icmp .ge 21, 3, 0, 0, [(63, [0])]), (45, .aload_n 0, 1, 0, 0, []), (46, .getfield 51, 3, 7, 19, []), (49, .iload_n 1, 1, 0, 0, []), (50, .aload_n 0, 1, 0, 0, []), (51, .getfield 102, 3, 7, 39, []), (54, .iload_n 1, 1, 0, 0, []), (55, .iaload, 1, 0, 0, []), (56, .iastore, 1, 0, 0, []), (57, .iinc 1 1, 3, 1, 0, []), (60, .goto (-21), 3, 0, 0, [(39, [0, 1])])], (0, []))
def bk_X7_recall_63 : pm_B := ([(63, .aload_n 0, 1, 0, 0, []), (64, .getfield 54, 3, 7, 20, []), (67, .iconst 0, 1, 0, 0, []), (68, .aload_n 0, 1, 0, 0, []), (69, .getfield 105, 3, 7, 40, []), (72, .iconst 0, 1, 0, 0, []), (73, .iaload, 1, 0, 0, []), (74, .iastore, 1, 0, 0, []), (75, .aload_n 0, 1, 0, 0, []), (76, .getfield 54, 3, 7, 20, []), (79, .iconst 1, 1, 1, 0, []), (80, .aload_n 0, 1, 0, 0, []), (81, .getfield 105, 3, 7, 40, []), (84, .iconst 1, 1, 1, 0, []), (85, .iaload, 1, 0, 0, []), (86, .iastore, 1, 0, 0, []), (87, .return_, 1, 0, 0, [])], (0, []))
def bl_X7_recall : List (Nat × pm_B) := [(0, bk_X7_recall_0), (2, bk_X7_recall_2), (37, bk_X7_recall_37), (39, bk_X7_recall_39), (63, bk_X7_recall_63)]
def cs_X7_recall : List (Bool × Nat) := []
theorem ck_X7_recall : pm_ckB yX7_recall.cls cX7_recall 2 cs_X7_recall bl_X7_recall = true := by decide +kernel
def bk_X7_solve_0 : pm_B := ([(0, .iload_n 1, 1, 0, 0, []), (1, .iconst 1, 1, 1, 0, []), (2, .sipush 4000, 3, 4000, 0, []), (5, .invokestatic 111, 3, 0, 0, []), (8, .ifCond .ne 6, 3, 0, 0, [(14, [0, 1])]), (11, .bipush (-2), 2, 2, 1, []), (13, .ireturn, 1, 0, 0, [])], (0, []))
def bk_X7_solve_14 : pm_B := ([(14, .aload_n 0, 1, 0, 0, []), (15, .getfield 115, 3, 7, 5, []), (18, .aload_n 0, 1, 0, 0, []), (19, .invokevirtual 139, 3, 1, 0, []), (22, .if_icmp .ge 6, 3, 0, 0, [(28, [0, 1])]), (25, .bipush (-4), 2, 4, 1, []), (27, .ireturn, 1, 0, 0, [])], (0, []))
def bk_X7_solve_28 : pm_B := ([(28, .aload_n 0, 1, 0, 0, []), (29, .aload_n 0, 1, 0, 0, []), (30, .getfield 130, 3, 7, 3, []), (33, .iload_n 1, 1, 0, 0, []), (34, .invokevirtual 238, 3, 2, 0, []), (37, .istore_n 2, 1, 0, 0, []), (38, .iload_n 2, 1, 0, 0, []), (39, .ifCond .lt 8, 3, 0, 0, [(47, [2])]), (42, .aload_n 0, 1, 0, 0, []), (43, .iload_n 2, 1, 0, 0, []), (44, .invokevirtual 241, 3, 3, 0, [])], (47, [2]))
def bk_X7_solve_47 : pm_B := ([(47, .iload_n 2, 1, 0, 0, []), (48, .ireturn, 1, 0, 0, [])], (0, []))
def bl_X7_solve : List (Nat × pm_B) := [(0, bk_X7_solve_0), (14, bk_X7_solve_14), (28, bk_X7_solve_28), (47, bk_X7_solve_47)]
def cs_X7_solve : List (Bool × Nat) := [(true, 111), (false, 139), (false, 238), (false, 241)]
theorem ck_X7_solve : pm_ckB yX7_solve.cls cX7_solve 3 cs_X7_solve bl_X7_solve = true := by decide +kernel
def bk_X7_plan_0 : pm_B := ([(0, .iload_n 2, 1, 0, 0, []), (1, .iconst 0, 1, 0, 0, []), (2, .iconst 1, 1, 1, 0, []), (3, .invokestatic 111, 3, 0, 0, []), (6, .ifCond .ne 6, 3, 0, 0, [(12, [0, 1, 2])]), (9, .bipush (-2), 2, 2, 1, []), (11, .ireturn, 1, 0, 0, [])], (0, []))
def bk_X7_plan_12 : pm_B := ([(12, .iload_n 1, 1, 0, 0, []), (13, .iconst 0, 1, 0, 0, []), (14, .aload_n 0, 1, 0, 0, []), (15, .getfield 127, 3, 7, 30, []), (18, .iconst 1, 1, 1, 0, []), (19, .isub, 1, 0, 0, []), (20, .invokestatic 111, 3, 0, 0, []), (23, .ifCond .ne 5, 3, 0, 0, [(28, [0, 1, 2])]), (26, .iconst (-1), 1, 1, 1, []), (27, .ireturn, 1, 0, 0, [])], (0, []))
def bk_X7_plan_28 : pm_B := ([(28, .iload_n 2, 1, 0, 0, []), (29, .ifCond .ne 12, 3, 0, 0, [(41, [0, 1])]), (32, .aload_n 0, 1, 0, 0, []), (33, .getfield 81, 3, 7, 31, []), (36, .iload_n 1, 1, 0, 0, []), (37, .iaload, 1, 0, 0, []), (38, .goto 9, 3, 0, 0, [(47, [])])], (0, []))
def bk_X7_plan_41 : pm_B := ([(41, .aload_n 0, 1, 0, 0, []), (42, .getfield 84, 3, 7, 32, []), (45, .iload_n 1, 1, 0, 0, []), (46, .iaload, 1, 0, 0, [])], (47, []))
def bk_X7_plan_47 : pm_B := ([(47, .ireturn, 1, 0, 0, [])], (0, []))
def bl_X7_plan : List (Nat × pm_B) := [(0, bk_X7_plan_0), (12, bk_X7_plan_12), (28, bk_X7_plan_28), (41, bk_X7_plan_41), (47, bk_X7_plan_47)]
def cs_X7_plan : List (Bool × Nat) := [(true, 111)]
theorem ck_X7_plan : pm_ckB yX7_plan.cls cX7_plan 3 cs_X7_plan bl_X7_plan = true := by decide +kernel
def bk_X7_needs_0 : pm_B := ([(0, .iload_n 1, 1, 0, 0, []), (1, .iconst 1, 1, 1, 0, []), (2, .sipush 4000, 3, 4000, 0, []), (5, .invokestatic 111, 3, 0, 0, []), (8, .ifCond .ne 6, 3, 0, 0, [(14, [0, 1])]), (11, .bipush (-2), 2, 2, 1, []), (13, .ireturn, 1, 0, 0, [])], (0, []))
def bk_X7_needs_14 : pm_B := ([(14, .aload_n 0, 1, 0, 0, []), (15, .getfield 115, 3, 7, 5, []), (18, .aload_n 0, 1, 0, 0, []), (19, .invokevirtual 139, 3, 1, 0, []), (22, .if_icmp .lt 21, 3, 0, 0, [(43, [])]), (25, .aload_n 0, 1, 0, 0, []), (26, .getfield 30, 3, 7, 10, []), (29, .iconst 0, 1, 0, 0, []), (30, .iaload, 1, 0, 0, []), (31, .ifCond .ne 12, 3, 0, 0, [(43, [])]), (34, .aload_n 0, 1, 0, 0, []), (35, .getfield 30, 3, 7, 10, []), (38, .iconst 1, 1, 1, 0, []), (39, .iaload, 1, 0, 0, []), (40, .ifCond .eq 6, 3, 0, 0, [(46, [0, 1])])], (43, []))
def bk_X7_needs_43 : pm_B := ([(43, .bipush (-4), 2, 4, 1, []), (45, .ireturn, 1, 0, 0, [])], (0, []))
def bk_X7_needs_46 : pm_B := ([(46, .iconst 0, 1, 0, 0, []), (47, .istore_n 2, 1, 0, 0, [])], (48, [0, 1, 2]))
def bk_X7_needs_48 : pm_B := ([(48, .iload_n 2, 1, 0, 0, []), (49, .iconst 2, 1, 2, 0, []), (50, .if_icmp .gt 31, 3, 0, 0, [(81, [])]), (53, .aload_n 0, 1, 0, 0, []), (54, .iload_n 2, 1, 0, 0, []), (55, .iload_n 1, 1, 0, 0, []), (56, .invokevirtual 238, 3, 2, 0, []), (59, .istore_n 3, 1, 0, 0, []), (60, .iload_n 3, 1, 0, 0, []), (61, .ifCond .lt 5, 3, 0, 0, [(66, [0, 1, 2, 3])]), (64, .iload_n 2, 1, 0, 0, []), (65, .ireturn, 1, 0, 0, [])], (0, []))
def bk_X7_needs_66 : pm_B := ([(66, .iload_n 3, 1, 0, 0, []), (67, .bipush (-3), 2, 3, 1, []), (69, .if_icmp .ne 6, 3, 0, 0, [(75, [0, 1, 2])]), (72, .bipush (-3), 2, 3, 1, []), (74, .ireturn, 1, 0, 0, [])], (0, []))
def bk_X7_needs_75 : pm_B := ([(75, .iinc 2 1, 3, 1, 0, []), (78, .goto (-30), 3, 0, 0, [(48, [0, 1, 2])])], (0, []))
def bk_X7_needs_81 : pm_B := ([(81, .iconst (-1), 1, 1, 1, []), (82, .ireturn, 1, 0, 0, [])], (0, []))
def bl_X7_needs : List (Nat × pm_B) := [(0, bk_X7_needs_0), (14, bk_X7_needs_14), (43, bk_X7_needs_43), (46, bk_X7_needs_46), (48, bk_X7_needs_48), (66, bk_X7_needs_66), (75, bk_X7_needs_75), (81, bk_X7_needs_81)]
def cs_X7_needs : List (Bool × Nat) := [(true, 111), (false, 139), (false, 238)]
theorem ck_X7_needs : pm_ckB yX7_needs.cls cX7_needs 4 cs_X7_needs bl_X7_needs = true := by decide +kernel
def bk_X7_tells_0 : pm_B := ([(0, .aload_n 0, 1, 0, 0, []), (1, .invokevirtual 179, 3, 0, 0, []), (4, .aload_n 0, 1, 0, 0, []), (5, .invokevirtual 201, 3, 1, 0, []), (8, .iconst 0, 1, 0, 0, []), (9, .istore_n 1, 1, 0, 0, []), (10, .iconst 0, 1, 0, 0, []), (11, .istore_n 2, 1, 0, 0, [])], (12, [0, 1, 2]))
def bk_X7_tells_12 : pm_B := ([(12, .iload_n 2, 1, 0, 0, []), (13, .aload_n 0, 1, 0, 0, []), (14, .getfield 16, 3, 7, 2, []), (17, .if_icmp .ge 72, 3, 0, 0, [(89, [0, 1])]), (20, .aload_n 0, 1, 0, 0, []), (21, .getfield 78, 3, 7, 29, []), (24, .iload_n 2, 1, 0, 0, []), (25, .iaload, 1, 0, 0, []), (26, .istore_n 3, 1, 0, 0, []), (27, .aload_n 0, 1, 0, 0, []), (28, .getfield 96, 3, 7, 36, []), (31, .iload_n 1, 1, 0, 0, []), (32, .iinc 1 1, 3, 1, 0, []), (35, .aload_n 0, 1, 0, 0, []), (36, .getfield 48, 3, 7, 18, []), (39, .iload_n 3, 1, 0, 0, []), (40, .iaload, 1, 0, 0, []), (41, .iastore, 1, 0, 0, []), (42, .iconst 0, 1, 0, 0, []), (43, .istore 4, 2, 0, 0, [])], (45, [0, 1, 2, 3, 4]))
def bk_X7_tells_45 : pm_B := ([(45, .iload 4, 2, 0, 0, []), (47, .aload_n 0, 1, 0, 0, []), (48, .getfield 48, 3, 7, 18, []), (51, .iload_n 3, 1, 0, 0, []), (52, .iaload, 1, 0, 0, []), (53, .if_icmp .ge 30, 3, 0, 0, [(83, [0, 1, 2])]), (56, .aload_n 0, 1, 0, 0, []), (57, .getfield 96, 3, 7, 36, []), (60, .iload_n 1, 1, 0, 0, []), (61, .iinc 1 1, 3, 1, 0, []), (64, .aload_n 0, 1, 0, 0, []), (65, .getfield 51, 3, 7, 19, []), (68, .bipush 12, 2, 12, 0, []), (70, .iload_n 3, 1, 0, 0, []), (71, .imul, 1, 0, 0, []), (72, .iload 4, 2, 0, 0, []), (74, .iadd, 1, 0, 0, []), (75, .iaload, 1, 0, 0, []), (76, .iastore, 1, 0, 0, []), (77, .iinc 4 1, 3, 1, 0, []), (80, .goto (-35), 3, 0, 0, [(45, [0, 1, 2, 3, 4])])], (0, []))
def bk_X7_tells_83 : pm_B := ([(83, .iinc 2 1, 3, 1, 0, []), (86, .goto (-74), 3, 0, 0, [(12, [0, 1, 2])])], (0, []))
def bk_X7_tells_89 : pm_B := ([(89, .aload_n 0, 1, 0, 0, []), (90, .getfield 130, 3, 7, 3, []), (93, .iconst 2, 1, 2, 0, []), (94, .if_icmp .ne 22, 3, 0, 0, [(116, [0, 1])]), (97, .aload_n 0, 1, 0, 0, []), (98, .getfield 30, 3, 7, 10, []), (101, .iconst 0, 1, 0, 0, []), (102, .iaload, 1, 0, 0, []), (103, .aload_n 0, 1, 0, 0, []), (104, .getfield 30, 3, 7, 10, []), (107, .iconst 1, 1, 1, 0, []), (108, .iaload, 1, 0, 0, []), (109, .if_icmp .le 7, 3, 0, 0, [(116, [0, 1])]), (112, .iconst 1, 1, 1, 0, []), (113, .goto 4, 3, 0, 0, [(117, [0, 1])])], (0, []))
def bk_X7_tells_116 : pm_B := ([(116, .iconst 0, 1, 0, 0, [])], (117, [0, 1]))
def bk_X7_tells_117 : pm_B := ([(117, .istore_n 2, 1, 0, 0, []), (118, .iconst 0, 1, 0, 0, []), (119, .istore_n 3, 1, 0, 0, [])], (120, [0, 1, 2, 3]))
def bk_X7_tells_120 : pm_B := ([(120, .iload_n 3, 1, 0, 0, []), (121, .aload_n 0, 1, 0, 0, []), (122, .getfield 130, 3, 7, 3, []), (125, .if_icmp .ge 34, 3, 0, 0, [(159, [1])]), (128, .aload_n 0, 1, 0, 0, []), (129, .getfield 96, 3, 7, 36, []), (132, .iload_n 1, 1, 0, 0, []), (133, .iinc 1 1, 3, 1, 0, []), (136, .aload_n 0, 1, 0, 0, []), (137, .getfield 30, 3, 7, 10, []), (140, .iload_n 2, 1, 0, 0, []), (141, .ifCond .eq 9, 3, 0, 0, [(150, [0, 1, 2, 3])]), (144, .iconst 1, 1, 1, 0, []), (145, .iload_n 3, 1, 0, 0, []), (146, .isub, 1, 0, 0, []), (147, .goto 4, 3, 0, 0, [(151, [0, 1, 2, 3])])], (0, []))
def bk_X7_tells_150 : pm_B := ([(150, .iload_n 3, 1, 0, 0, [])], (151, [0, 1, 2, 3]))
def bk_X7_tells_151 : pm_B := ([(151, .iaload, 1, 0, 0, []), (152, .iastore, 1, 0, 0, []), (153, .iinc 3 1, 3, 1, 0, []), (156, .goto (-36), 3, 0, 0, [(120, [0, 1, 2, 3])])], (0, []))
def bk_X7_tells_159 : pm_B := ([(159, .iload_n 1, 1, 0, 0, []), (160, .ireturn, 1, 0, 0, [])], (0, []))
def bl_X7_tells : List (Nat × pm_B) := [(0, bk_X7_tells_0), (12, bk_X7_tells_12), (45, bk_X7_tells_45), (83, bk_X7_tells_83), (89, bk_X7_tells_89), (116, bk_X7_tells_116), (117, bk_X7_tells_117), (120, bk_X7_tells_120), (150, bk_X7_tells_150), (151, bk_X7_tells_151), (159, bk_X7_tells_159)]
def cs_X7_tells : List (Bool × Nat) := [(false, 179), (false, 201)]
theorem ck_X7_tells : pm_ckB yX7_tells.cls cX7_tells 5 cs_X7_tells bl_X7_tells = true := by decide +kernel
def bk_X7_form_0 : pm_B := ([(0, .aload_n 0, 1, 0, 0, []), (1, .invokevirtual 244, 3, 0, 0, []), (4, .istore_n 2, 1, 0, 0, []), (5, .iload_n 1, 1, 0, 0, []), (6, .iconst 0, 1, 0, 0, []), (7, .iload_n 2, 1, 0, 0, []), (8, .iconst 1, 1, 1, 0, []), (9, .isub, 1, 0, 0, []), (10, .invokestatic 111, 3, 1, 0, []), (13, .ifCond .eq 12, 3, 0, 0, [(25, [])]), (16, .aload_n 0, 1, 0, 0, []), (17, .getfield 96, 3, 7, 36, []), (20, .iload_n 1, 1, 0, 0, []), (21, .iaload, 1, 0, 0, []), (22, .goto 4, 3, 0, 0, [(26, [])])], (0, []))
def bk_X7_form_25 : pm_B := ([(25, .iconst (-1), 1, 1, 1, [])], (26, []))
def bk_X7_form_26 : pm_B := ([(26, .ireturn, 1, 0, 0, [])], (0, []))
def bl_X7_form : List (Nat × pm_B) := [(0, bk_X7_form_0), (25, bk_X7_form_25), (26, bk_X7_form_26)]
def cs_X7_form : List (Bool × Nat) := [(false, 244), (true, 111)]
theorem ck_X7_form : pm_ckB yX7_form.cls cX7_form 3 cs_X7_form bl_X7_form = true := by decide +kernel
def bk_X7_refused_0 : pm_B := ([(0, .aload_n 0, 1, 0, 0, []), (1, .iload_n 1, 1, 0, 0, []), (2, .putfield 247, 3, 7, 37, []), (5, .iconst (-1), 1, 1, 1, []), (6, .ireturn, 1, 0, 0, [])], (0, []))
def bl_X7_refused : List (Nat × pm_B) := [(0, bk_X7_refused_0)]
def cs_X7_refused : List (Bool × Nat) := []
theorem ck_X7_refused : pm_ckB yX7_refused.cls cX7_refused 2 cs_X7_refused bl_X7_refused = true := by decide +kernel
def bk_X7_fine_0 : pm_B := ([(0, .aload_n 0, 1, 0, 0, []), (1, .iconst 0, 1, 0, 0, []), (2, .putfield 247, 3, 7, 37, []), (5, .iload_n 1, 1, 0, 0, []), (6, .ireturn, 1, 0, 0, [])], (0, []))
def bl_X7_fine : List (Nat × pm_B) := [(0, bk_X7_fine_0)]
def cs_X7_fine : List (Bool × Nat) := []
theorem ck_X7_fine : pm_ckB yX7_fine.cls cX7_fine 2 cs_X7_fine bl_X7_fine = true := by decide +kernel
def bk_X7_put_0 : pm_B := ([(0, .iload_n 1, 1, 0, 0, []), (1, .iconst 0, 1, 0, 0, []), (2, .iconst 5, 1, 5, 0, []), (3, .invokestatic 111, 3, 0, 0, []), (6, .ifCond .eq 31, 3, 0, 0, [(37, [0])]), (9, .iload_n 2, 1, 0, 0, []), (10, .iconst 0, 1, 0, 0, []), (11, .iconst 4, 1, 4, 0, []), (12, .invokestatic 111, 3, 0, 0, []), (15, .ifCond .eq 22, 3, 0, 0, [(37, [0])]), (18, .iload_n 2, 1, 0, 0, []), (19, .iconst 2, 1, 2, 0, []), (20, .if_icmp .ne 23, 3, 0, 0, [(43, [0, 1, 2, 3])]), (23, .iload_n 3, 1, 0, 0, []), (24, .iconst 0, 1, 0, 0, []), (25, .aload_n 0, 1, 0, 0, []), (26, .getfield 16, 3, 7, 2, []), (29, .iconst 1, 1, 1, 0, []), (30, .isub, 1, 0, 0, []), (31, .invokestatic 111, 3, 0, 0, []), (34, .ifCond .ne 9, 3, 0, 0, [(43, [0, 1, 2, 3])])], (37, [0]))
def bk_X7_put_37 : pm_B := ([(37, .aload_n 0, 1, 0, 0, []), (38, .iconst 1, 1, 1, 0, []), (39, .invokevirtual 250, 3, 1, 0, []), (42, .ireturn, 1, 0, 0, [])], (0, []))
def bk_X7_put_43 : pm_B := ([(43, .aload_n 0, 1, 0, 0, []), (44, .getfield 87, 3, 7, 33, []), (47, .iload_n 1, 1, 0, 0, []), (48, .iload_n 2, 1, 0, 0, []), (49, .iastore, 1, 0, 0, []), (50, .aload_n 0, 1, 0, 0, []), (51, .getfield 90, 3, 7, 34, []), (54, .iload_n 1, 1, 0, 0, []), (55, .iconst 0, 1, 0, 0, []), (56, .iastore, 1, 0, 0, []), (57, .bipush 32, 2, 32, 0, []), (59, .iload_n 1, 1, 0, 0, []), (60, .imul, 1, 0, 0, []), (61, .istore 4, 2, 0, 0, []), (63, .iload_n 2, 1, 0, 0, []), (64, .tableswitch 219 1 4 #[32, 45, 99, 150], 32, 0, 0, [(283, [0]), (96, [0, 1]), (109, [0, 1, 3, 4]), (163, [0, 1, 4]), (214, [0, 1, 4])])], (0, []))
def bk_X7_put_96 : pm_B := ([(96, .aload_n 0, 1, 0, 0, []), (97, .getfield 90, 3, 7, 34, []), (100, .iload_n 1, 1, 0, 0, []), (101, .aload_n 0, 1, 0, 0, []), (102, .getfield 133, 3, 7, 4, []), (105, .iastore, 1, 0, 0, []), (106, .goto 177, 3, 0, 0, [(283, [0])])], (0, []))
def bk_X7_put_109 : pm_B := ([(109, .iconst 0, 1, 0, 0, []), (110, .istore 5, 2, 0, 0, [])], (112, [0, 1, 3, 4, 5]))
def bk_X7_put_112 : pm_B := ([(112, .iload 5, 2, 0, 0, []), (114, .aload_n 0, 1, 0, 0, []), (115, .getfield 23, 3, 7, 8, []), (118, .iload_n 3, 1, 0, 0, []), (119, .iaload, 1, 0, 0, []), (120, .if_icmp .ge 40, 3, 0, 0, [(160, [0])]), (123, .aload_n 0, 1, 0, 0, []), (124, .getfield 93, 3, 7, 35, []), (127, .iload 4, 2, 0, 0, []), (129, .aload_n 0, 1, 0, 0, []), (130, .getfield 90, 3, 7, 34, []), (133, .iload_n 1, 1, 0, 0, []), (134, .dup2, 1, 0, 0, []), (135, .iaload, 1, 0, 0, []), (136, .dup_x2, 1, 0, 0, []), (137, .iconst 1, 1, 1, 0, []), (138, .iadd, 1, 0, 0, []), (139, .iastore, 1, 0, 0, []), (140, .iadd, 1, 0, 0, []), (141, .aload_n 0, 1, 0, 0, []), (142, .getfield 27, 3, 7, 9, []), (145, .bipush 12, 2, 12, 0, []), (147, .iload_n 3, 1, 0, 0, []), (148, .imul, 1, 0, 0, []), (149, .iload 5, 2, 0, 0, []), (151, .iadd, 1, 0, 0, []), (152, .iaload, 1, 0, 0, []), (153, .iastore, 1, 0, 0, []), (154, .iinc 5 1, 3, 1, 0, []), (157, .goto (-45), 3, 0, 0, [(112, [0, 1, 3, 4, 5])])], (0, []))
def bk_X7_put_160 : pm_B := ([(160, .goto 123, 3, 0, 0, [(283, [0])])], (0, []))
def bk_X7_put_163 : pm_B := ([(163, .aload_n 0, 1, 0, 0, []), (164, .invokevirtual 244, 3, 2, 0, []), (167, .istore 5, 2, 0, 0, []), (169, .iconst 0, 1, 0, 0, []), (170, .istore 6, 2, 0, 0, [])], (172, [0, 1, 4, 5, 6]))
def bk_X7_put_172 : pm_B := ([(172, .iload 6, 2, 0, 0, []), (174, .iload 5, 2, 0, 0, []), (176, .if_icmp .ge 35, 3, 0, 0, [(211, [0])]), (179, .aload_n 0, 1, 0, 0, []), (180, .getfield 93, 3, 7, 35, []), (183, .iload 4, 2, 0, 0, []), (185, .aload_n 0, 1, 0, 0, []), (186, .getfield 90, 3, 7, 34, []), (189, .iload_n 1, 1, 0, 0, []), (190, .dup2, 1, 0, 0, []), (191, .iaload, 1, 0, 0, []), (192, .dup_x2, 1, 0, 0, []), (193, .iconst 1, 1, 1, 0, []), (194, .iadd, 1, 0, 0, []), (195, .iastore, 1, 0, 0, []), (196, .iadd, 1, 0, 0, []), (197, .aload_n 0, 1, 0, 0, []), (198, .getfield 96, 3, 7, 36, []), (201, .iload 6, 2, 0, 0, []), (203, .iaload, 1, 0, 0, []), (204, .iastore, 1, 0, 0, []), (205, .iinc 6 1, 3, 1, 0, []), (208, .goto (-36), 3, 0, 0, [(172, [0, 1, 4, 5, 6])])], (0, []))
def bk_X7_put_211 : pm_B := ([(211, .goto 72, 3, 0, 0, [(283, [0])])], (0, []))
def bk_X7_put_214 : pm_B := ([(214, .iconst 0, 1, 0, 0, []), (215, .istore 5, 2, 0, 0, [])], (217, [0, 1, 4, 5]))
def bk_X7_put_217 : pm_B := ([(217, .iload 5, 2, 0, 0, []), (219, .bipush 32, 2, 32, 0, []), (221, .if_icmp .ge 59, 3, 0, 0, [(280, [0])]), (224, .aload_n 0, 1, 0, 0, []), (225, .getfield 93, 3, 7, 35, []), (228, .iload 4, 2, 0, 0, []), (230, .aload_n 0, 1, 0, 0, []), (231, .getfield 90, 3, 7, 34, []), (234, .iload_n 1, 1, 0, 0, []), (235, .dup2, 1, 0, 0, []), (236, .iaload, 1, 0, 0, []), (237, .dup_x2, 1, 0, 0, []), (238, .iconst 1, 1, 1, 0, []), (239, .iadd, 1, 0, 0, []), (240, .iastore, 1, 0, 0, []), (241, .iadd, 1, 0, 0, []), (242, .aload_n 0, 1, 0, 0, []), (243, .iload 5, 2, 0, 0, []), (245, .invokevirtual 144, 3, 3, 0, []), (248, .ifCond .eq 24, 3, 0, 0, [(272, [0, 1, 4, 5])]), (251, .aload_n 0, 1, 0, 0, []), (252, .getfield 33, 3, 7, 11, []), (255, .iload 5, 2, 0, 0, []), (257, .iconst 3, 1, 3, 0, []), (258, .ishr, 1, 0, 0, []), (259, .iaload, 1, 0, 0, []), (260, .iload 5, 2, 0, 0, []), (262, .bipush 7, 2, 7, 0, []), (264, .iand, 1, 0, 0, []), (265, .if_icmp .lt 7, 3, 0, 0, [(272, [0, 1, 4, 5])]), (268, .iconst 1, 1, 1, 0, []), (269, .goto 4, 3, 0, 0, [(273, [0, 1, 4, 5])])], (0, []))
def bk_X7_put_272 : pm_B := ([(272, .iconst 0, 1, 0, 0, [])], (273, [0, 1, 4, 5]))
def bk_X7_put_273 : pm_B := ([(273, .iastore, 1, 0, 0, []), (274, .iinc 5 1, 3, 1, 0, []), (277, .goto (-60), 3, 0, 0, [(217, [0, 1, 4, 5])])], (0, []))
def bk_X7_put_280 : pm_B := ([(280, .goto 3, 3, 0, 0, [(283, [0])])], (0, []))
def bk_X7_put_283 : pm_B := ([(283, .aload_n 0, 1, 0, 0, []), (284, .iconst 1, 1, 1, 0, []), (285, .invokevirtual 253, 3, 4, 0, []), (288, .ireturn, 1, 0, 0, [])], (0, []))
def bl_X7_put : List (Nat × pm_B) := [(0, bk_X7_put_0), (37, bk_X7_put_37), (43, bk_X7_put_43), (96, bk_X7_put_96), (109, bk_X7_put_109), (112, bk_X7_put_112), (160, bk_X7_put_160), (163, bk_X7_put_163), (172, bk_X7_put_172), (211, bk_X7_put_211), (214, bk_X7_put_214), (217, bk_X7_put_217), (272, bk_X7_put_272), (273, bk_X7_put_273), (280, bk_X7_put_280), (283, bk_X7_put_283)]
def cs_X7_put : List (Bool × Nat) := [(true, 111), (false, 250), (false, 244), (false, 144), (false, 253)]
theorem ck_X7_put : pm_ckB yX7_put.cls cX7_put 7 cs_X7_put bl_X7_put = true := by decide +kernel
def bk_X7_forge_0 : pm_B := ([(0, .iload_n 1, 1, 0, 0, []), (1, .iconst 0, 1, 0, 0, []), (2, .iconst 5, 1, 5, 0, []), (3, .invokestatic 111, 3, 0, 0, []), (6, .ifCond .eq 24, 3, 0, 0, [(30, [0])]), (9, .iload_n 2, 1, 0, 0, []), (10, .iconst 0, 1, 0, 0, []), (11, .bipush 8, 2, 8, 0, []), (13, .invokestatic 111, 3, 0, 0, []), (16, .ifCond .eq 14, 3, 0, 0, [(30, [0])]), (19, .iload_n 3, 1, 0, 0, []), (20, .bipush (-100), 2, 100, 1, []), (22, .bipush 100, 2, 100, 0, []), (24, .invokestatic 111, 3, 0, 0, []), (27, .ifCond .ne 9, 3, 0, 0, [(36, [0, 1, 2, 3])])], (30, [0]))
def bk_X7_forge_30 : pm_B := ([(30, .aload_n 0, 1, 0, 0, []), (31, .iconst 1, 1, 1, 0, []), (32, .invokevirtual 250, 3, 1, 0, []), (35, .ireturn, 1, 0, 0, [])], (0, []))
def bk_X7_forge_36 : pm_B := ([(36, .aload_n 0, 1, 0, 0, []), (37, .getfield 87, 3, 7, 33, []), (40, .iload_n 1, 1, 0, 0, []), (41, .iaload, 1, 0, 0, []), (42, .istore 4, 2, 0, 0, []), (44, .bipush 32, 2, 32, 0, []), (46, .iload_n 1, 1, 0, 0, []), (47, .imul, 1, 0, 0, []), (48, .istore 5, 2, 0, 0, []), (50, .iload_n 2, 1, 0, 0, []), (51, .iconst 3, 1, 3, 0, []), (52, .if_icmp .le 8, 3, 0, 0, [(60, [0, 1, 2, 3, 4, 5])]), (55, .iload_n 2, 1, 0, 0, []), (56, .iconst 5, 1, 5, 0, []), (57, .if_icmp .ne 39, 3, 0, 0, [(96, [0, 1, 2, 3, 4, 5])])], (60, [0, 1, 2, 3, 4, 5]))
def bk_X7_forge_60 : pm_B := ([(60, .iload 4, 2, 0, 0, []), (62, .ifCond .ne 10, 3, 0, 0, [(72, [0, 1, 2, 3, 4, 5])]), (65, .aload_n 0, 1, 0, 0, []), (66, .bipush 10, 2, 10, 0, []), (68, .invokevirtual 250, 3, 1, 0, []), (71, .ireturn, 1, 0, 0, [])], (0, []))
def bk_X7_forge_72 : pm_B := ([(72, .iload 4, 2, 0, 0, []), (74, .iload_n 2, 1, 0, 0, []), (75, .iconst 5, 1, 5, 0, []), (76, .if_icmp .ne 7, 3, 0, 0, [(83, [0, 1, 2, 3, 4, 5])]), (79, .iconst 2, 1, 2, 0, []), (80, .goto 6, 3, 0, 0, [(86, [0, 1, 2, 3, 4, 5])])], (0, []))
def bk_X7_forge_83 : pm_B := ([(83, .iload_n 2, 1, 0, 0, []), (84, .iconst 1, 1, 1, 0, []), (85, .iadd, 1, 0, 0, [])], (86, [0, 1, 2, 3, 4, 5]))
def bk_X7_forge_86 : pm_B := ([(86, .if_icmp .eq 10, 3, 0, 0, [(96, [0, 1, 2, 3, 4, 5])]), (89, .aload_n 0, 1, 0, 0, []), (90, .bipush 11, 2, 11, 0, []), (92, .invokevirtual 250, 3, 1, 0, []), (95, .ireturn, 1, 0, 0, [])], (0, []))
def bk_X7_forge_96 : pm_B := ([(96, .iload_n 2, 1, 0, 0, []), (97, .tableswitch 333 0 7 #[47, 120, 120, 120, 159, 178, 251, 310], 47, 0, 0, [(430, [0]), (144, [0, 1, 3]), (217, [0, 1, 3, 5]), (217, [0, 1, 3, 5]), (217, [0, 1, 3, 5]), (256, [0, 3]), (275, [0, 1, 3, 5]), (348, [0, 1, 4]), (407, [0, 3])])], (0, []))
def bk_X7_forge_144 : pm_B := ([(144, .iload_n 3, 1, 0, 0, []), (145, .iconst 5, 1, 5, 0, []), (146, .irem, 1, 0, 0, []), (147, .istore 6, 2, 0, 0, []), (149, .iload 6, 2, 0, 0, []), (151, .ifCond .ge 6, 3, 0, 0, [(157, [0, 1, 6])]), (154, .iinc 6 5, 3, 5, 0, [])], (157, [0, 1, 6]))
def bk_X7_forge_157 : pm_B := ([(157, .aload_n 0, 1, 0, 0, []), (158, .getfield 90, 3, 7, 34, []), (161, .iload_n 1, 1, 0, 0, []), (162, .iaload, 1, 0, 0, []), (163, .istore 7, 2, 0, 0, []), (165, .iload 6, 2, 0, 0, []), (167, .ifCond .eq 34, 3, 0, 0, [(201, [0, 7])]), (170, .iload 7, 2, 0, 0, []), (172, .iload 6, 2, 0, 0, []), (174, .if_icmp .eq 27, 3, 0, 0, [(201, [0, 7])]), (177, .iload 6, 2, 0, 0, []), (179, .iconst 1, 1, 1, 0, []), (180, .if_icmp .ne 9, 3, 0, 0, [(189, [0, 6, 7])]), (183, .iload 7, 2, 0, 0, []), (185, .iconst 3, 1, 3, 0, []), (186, .if_icmp .eq 15, 3, 0, 0, [(201, [0, 7])])], (189, [0, 6, 7]))
def bk_X7_forge_189 : pm_B := ([(189, .iload 6, 2, 0, 0, []), (191, .iconst 2, 1, 2, 0, []), (192, .if_icmp .ne 18, 3, 0, 0, [(210, [0])]), (195, .iload 7, 2, 0, 0, []), (197, .iconst 4, 1, 4, 0, []), (198, .if_icmp .ne 12, 3, 0, 0, [(210, [0])])], (201, [0, 7]))
def bk_X7_forge_201 : pm_B := ([(201, .aload_n 0, 1, 0, 0, []), (202, .iload 7, 2, 0, 0, []), (204, .invokevirtual 253, 3, 2, 0, []), (207, .goto 9, 3, 0, 0, [(216, [])])], (0, []))
def bk_X7_forge_210 : pm_B := ([(210, .aload_n 0, 1, 0, 0, []), (211, .bipush 11, 2, 11, 0, []), (213, .invokevirtual 250, 3, 1, 0, [])], (216, []))
def bk_X7_forge_216 : pm_B := ([(216, .ireturn, 1, 0, 0, [])], (0, []))
def bk_X7_forge_217 : pm_B := ([(217, .iload_n 3, 1, 0, 0, []), (218, .iconst 0, 1, 0, 0, []), (219, .aload_n 0, 1, 0, 0, []), (220, .getfield 90, 3, 7, 34, []), (223, .iload_n 1, 1, 0, 0, []), (224, .iaload, 1, 0, 0, []), (225, .iconst 1, 1, 1, 0, []), (226, .isub, 1, 0, 0, []), (227, .invokestatic 111, 3, 0, 0, []), (230, .ifCond .eq 19, 3, 0, 0, [(249, [0])]), (233, .aload_n 0, 1, 0, 0, []), (234, .aload_n 0, 1, 0, 0, []), (235, .getfield 93, 3, 7, 35, []), (238, .iload 5, 2, 0, 0, []), (240, .iload_n 3, 1, 0, 0, []), (241, .iadd, 1, 0, 0, []), (242, .iaload, 1, 0, 0, []), (243, .invokevirtual 253, 3, 2, 0, []), (246, .goto 9, 3, 0, 0, [(255, [])])], (0, []))
def bk_X7_forge_249 : pm_B := ([(249, .aload_n 0, 1, 0, 0, []), (250, .bipush 12, 2, 12, 0, []), (252, .invokevirtual 250, 3, 1, 0, [])], (255, []))
def bk_X7_forge_255 : pm_B := ([(255, .ireturn, 1, 0, 0, [])], (0, []))
def bk_X7_forge_256 : pm_B := ([(256, .iload_n 3, 1, 0, 0, []), (257, .ifCond .ge 12, 3, 0, 0, [(269, [0, 3])]), (260, .aload_n 0, 1, 0, 0, []), (261, .bipush 13, 2, 13, 0, []), (263, .invokevirtual 250, 3, 1, 0, []), (266, .goto 8, 3, 0, 0, [(274, [])])], (0, []))
def bk_X7_forge_269 : pm_B := ([(269, .aload_n 0, 1, 0, 0, []), (270, .iload_n 3, 1, 0, 0, []), (271, .invokevirtual 253, 3, 2, 0, [])], (274, []))
def bk_X7_forge_274 : pm_B := ([(274, .ireturn, 1, 0, 0, [])], (0, []))
def bk_X7_forge_275 : pm_B := ([(275, .iload_n 3, 1, 0, 0, []), (276, .ifCond .lt 23, 3, 0, 0, [(299, [0])]), (279, .iconst 1, 1, 1, 0, []), (280, .iload_n 3, 1, 0, 0, []), (281, .iadd, 1, 0, 0, []), (282, .aload_n 0, 1, 0, 0, []), (283, .getfield 90, 3, 7, 34, []), (286, .iload_n 1, 1, 0, 0, []), (287, .iaload, 1, 0, 0, []), (288, .if_icmp .gt 11, 3, 0, 0, [(299, [0])]), (291, .iload_n 3, 1, 0, 0, []), (292, .iload_n 3, 1, 0, 0, []), (293, .iadd, 1, 0, 0, []), (294, .bipush 7, 2, 7, 0, []), (296, .if_icmp .le 10, 3, 0, 0, [(306, [0, 3, 5])])], (299, [0]))
def bk_X7_forge_299 : pm_B := ([(299, .aload_n 0, 1, 0, 0, []), (300, .bipush 12, 2, 12, 0, []), (302, .invokevirtual 250, 3, 1, 0, []), (305, .ireturn, 1, 0, 0, [])], (0, []))
def bk_X7_forge_306 : pm_B := ([(306, .iconst 0, 1, 0, 0, []), (307, .istore 6, 2, 0, 0, []), (309, .iconst 0, 1, 0, 0, []), (310, .istore 7, 2, 0, 0, [])], (312, [0, 3, 5, 6, 7]))
def bk_X7_forge_312 : pm_B := ([(312, .iload 7, 2, 0, 0, []), (314, .iload_n 3, 1, 0, 0, []), (315, .if_icmp .ge 26, 3, 0, 0, [(341, [0, 6])]), (318, .iload 6, 2, 0, 0, []), (320, .aload_n 0, 1, 0, 0, []), (321, .getfield 93, 3, 7, 35, []), (324, .iload 5, 2, 0, 0, []), (326, .iconst 1, 1, 1, 0, []), (327, .iadd, 1, 0, 0, []), (328, .iload 7, 2, 0, 0, []), (330, .iadd, 1, 0, 0, []), (331, .iaload, 1, 0, 0, []), (332, .iadd, 1, 0, 0, []), (333, .istore 6, 2, 0, 0, []), (335, .iinc 7 1, 3, 1, 0, []), (338, .goto (-26), 3, 0, 0, [(312, [0, 3, 5, 6, 7])])], (0, []))
def bk_X7_forge_341 : pm_B := ([(341, .aload_n 0, 1, 0, 0, []), (342, .iload 6, 2, 0, 0, []), (344, .invokevirtual 253, 3, 2, 0, []), (347, .ireturn, 1, 0, 0, [])], (0, []))
def bk_X7_forge_348 : pm_B := ([(348, .iload 4, 2, 0, 0, []), (350, .ifCond .ne 11, 3, 0, 0, [(361, [0, 1, 4])]), (353, .aload_n 0, 1, 0, 0, []), (354, .iconst 0, 1, 0, 0, []), (355, .invokevirtual 253, 3, 2, 0, []), (358, .goto 48, 3, 0, 0, [(406, [])])], (0, []))
def bk_X7_forge_361 : pm_B := ([(361, .iload 4, 2, 0, 0, []), (363, .iconst 1, 1, 1, 0, []), (364, .if_icmp .ne 36, 3, 0, 0, [(400, [0])]), (367, .aload_n 0, 1, 0, 0, []), (368, .getfield 90, 3, 7, 34, []), (371, .iload_n 1, 1, 0, 0, []), (372, .iaload, 1, 0, 0, []), (373, .iconst 1, 1, 1, 0, []), (374, .if_icmp .eq 13, 3, 0, 0, [(387, [0, 1])]), (377, .aload_n 0, 1, 0, 0, []), (378, .getfield 90, 3, 7, 34, []), (381, .iload_n 1, 1, 0, 0, []), (382, .iaload, 1, 0, 0, []), (383, .iconst 3, 1, 3, 0, []), (384, .if_icmp .ne 16, 3, 0, 0, [(400, [0])])], (387, [0, 1]))
def bk_X7_forge_387 : pm_B := ([(387, .aload_n 0, 1, 0, 0, []), (388, .aload_n 0, 1, 0, 0, []), (389, .getfield 90, 3, 7, 34, []), (392, .iload_n 1, 1, 0, 0, []), (393, .iaload, 1, 0, 0, []), (394, .invokevirtual 253, 3, 2, 0, []), (397, .goto 9, 3, 0, 0, [(406, [])])], (0, []))
def bk_X7_forge_400 : pm_B := ([(400, .aload_n 0, 1, 0, 0, []), (401, .bipush 14, 2, 14, 0, []), (403, .invokevirtual 250, 3, 1, 0, [])], (406, []))
def bk_X7_forge_406 : pm_B := ([(406, .ireturn, 1, 0, 0, [])], (0, []))
def bk_X7_forge_407 : pm_B := ([(407, .iload_n 3, 1, 0, 0, []), (408, .ifCond .ne 12, 3, 0, 0, [(420, [0, 3])]), (411, .aload_n 0, 1, 0, 0, []), (412, .bipush 15, 2, 15, 0, []), (414, .invokevirtual 250, 3, 1, 0, []), (417, .goto 12, 3, 0, 0, [(429, [])])], (0, []))
def bk_X7_forge_420 : pm_B := ([(420, .aload_n 0, 1, 0, 0, []), (421, .sipush 1000, 3, 1000, 0, []), (424, .iload_n 3, 1, 0, 0, []), (425, .idiv, 1, 0, 0, []), (426, .invokevirtual 253, 3, 2, 0, [])], (429, []))
def bk_X7_forge_429 : pm_B := ([(429, .ireturn, 1, 0, 0, [])], (0, []))
def bk_X7_forge_430 : pm_B := ([(430, .aload_n 0, 1, 0, 0, []), (431, .bipush 10, 2, 10, 0, []), (433, .invokevirtual 250, 3, 1, 0, []), (436, .ireturn, 1, 0, 0, [])], (0, []))
def bl_X7_forge : List (Nat × pm_B) := [(0, bk_X7_forge_0), (30, bk_X7_forge_30), (36, bk_X7_forge_36), (60, bk_X7_forge_60), (72, bk_X7_forge_72), (83, bk_X7_forge_83), (86, bk_X7_forge_86), (96, bk_X7_forge_96), (144, bk_X7_forge_144), (157, bk_X7_forge_157), (189, bk_X7_forge_189), (201, bk_X7_forge_201), (210, bk_X7_forge_210), (216, bk_X7_forge_216), (217, bk_X7_forge_217), (249, bk_X7_forge_249), (255, bk_X7_forge_255), (256, bk_X7_forge_256), (269, bk_X7_forge_269), (274, bk_X7_forge_274), (275, bk_X7_forge_275), (299, bk_X7_forge_299), (306, bk_X7_forge_306), (312, bk_X7_forge_312), (341, bk_X7_forge_341), (348, bk_X7_forge_348), (361, bk_X7_forge_361), (387, bk_X7_forge_387), (400, bk_X7_forge_400), (406, bk_X7_forge_406), (407, bk_X7_forge_407), (420, bk_X7_forge_420), (429, bk_X7_forge_429), (430, bk_X7_forge_430)]
def cs_X7_forge : List (Bool × Nat) := [(true, 111), (false, 250), (false, 253)]
theorem ck_X7_forge : pm_ckB yX7_forge.cls cX7_forge 8 cs_X7_forge bl_X7_forge = true := by decide +kernel
def bk_X7_status_0 : pm_B := ([(0, .aload_n 0, 1, 0, 0, []), (1, .getfield 247, 3, 7, 37, []), (4, .ireturn, 1, 0, 0, [])], (0, []))
def bl_X7_status : List (Nat × pm_B) := [(0, bk_X7_status_0)]
def cs_X7_status : List (Bool × Nat) := []
theorem ck_X7_status : pm_ckB yX7_status.cls cX7_status 1 cs_X7_status bl_X7_status = true := by decide +kernel
end
section
theorem pm_s_aload_n {SH : List pm_S} {CT : List pm_C} {ret : Option FieldType} {X : pm_X} {k : Option Value → pm_M → Prop} {pc n a b : Nat} {ts : List (Nat × List Nat)} {lv : pm_L} {st : List Value} {M : pm_M} {K : pm_K} {j : Fin 4} : pm_step SH CT ret X k (pc, (.aload_n j), n, a, b, ts) lv st M K = (pm_ldr lv j.val (fun q => K lv (.ref q :: st) M)) := rfl
theorem pm_s_aload {SH : List pm_S} {CT : List pm_C} {ret : Option FieldType} {X : pm_X} {k : Option Value → pm_M → Prop} {pc n a b : Nat} {ts : List (Nat × List Nat)} {lv : pm_L} {st : List Value} {M : pm_M} {K : pm_K} {j : Nat} : pm_step SH CT ret X k (pc, (.aload j), n, a, b, ts) lv st M K = (pm_ldr lv j (fun q => K lv (.ref q :: st) M)) := rfl
theorem pm_s_iload_n {SH : List pm_S} {CT : List pm_C} {ret : Option FieldType} {X : pm_X} {k : Option Value → pm_M → Prop} {pc n a b : Nat} {ts : List (Nat × List Nat)} {lv : pm_L} {st : List Value} {M : pm_M} {K : pm_K} {j : Fin 4} : pm_step SH CT ret X k (pc, (.iload_n j), n, a, b, ts) lv st M K = (pm_ldi lv j.val (fun x => K lv (.int x :: st) M)) := rfl
theorem pm_s_iload {SH : List pm_S} {CT : List pm_C} {ret : Option FieldType} {X : pm_X} {k : Option Value → pm_M → Prop} {pc n a b : Nat} {ts : List (Nat × List Nat)} {lv : pm_L} {st : List Value} {M : pm_M} {K : pm_K} {j : Nat} : pm_step SH CT ret X k (pc, (.iload j), n, a, b, ts) lv st M K = (pm_ldi lv j (fun x => K lv (.int x :: st) M)) := rfl
theorem pm_s_lload_n {SH : List pm_S} {CT : List pm_C} {ret : Option FieldType} {X : pm_X} {k : Option Value → pm_M → Prop} {pc n a b : Nat} {ts : List (Nat × List Nat)} {lv : pm_L} {st : List Value} {M : pm_M} {K : pm_K} {j : Fin 4} : pm_step SH CT ret X k (pc, (.lload_n j), n, a, b, ts) lv st M K = (pm_ldl lv j.val (fun x => K lv (.long x :: st) M)) := rfl
theorem pm_s_lload {SH : List pm_S} {CT : List pm_C} {ret : Option FieldType} {X : pm_X} {k : Option Value → pm_M → Prop} {pc n a b : Nat} {ts : List (Nat × List Nat)} {lv : pm_L} {st : List Value} {M : pm_M} {K : pm_K} {j : Nat} : pm_step SH CT ret X k (pc, (.lload j), n, a, b, ts) lv st M K = (pm_ldl lv j (fun x => K lv (.long x :: st) M)) := rfl
theorem pm_s_istore_n {SH : List pm_S} {CT : List pm_C} {ret : Option FieldType} {X : pm_X} {k : Option Value → pm_M → Prop} {pc n a b : Nat} {ts : List (Nat × List Nat)} {lv : pm_L} {st : List Value} {M : pm_M} {K : pm_K} {j : Fin 4} : pm_step SH CT ret X k (pc, (.istore_n j), n, a, b, ts) lv st M K = (pm_i st (fun x r => K ((j.val, .int x) :: pm_rm j.val lv) r M)) := rfl
theorem pm_s_istore {SH : List pm_S} {CT : List pm_C} {ret : Option FieldType} {X : pm_X} {k : Option Value → pm_M → Prop} {pc n a b : Nat} {ts : List (Nat × List Nat)} {lv : pm_L} {st : List Value} {M : pm_M} {K : pm_K} {j : Nat} : pm_step SH CT ret X k (pc, (.istore j), n, a, b, ts) lv st M K = (pm_i st (fun x r => K ((j, .int x) :: pm_rm j lv) r M)) := rfl
theorem pm_s_lstore_n {SH : List pm_S} {CT : List pm_C} {ret : Option FieldType} {X : pm_X} {k : Option Value → pm_M → Prop} {pc n a b : Nat} {ts : List (Nat × List Nat)} {lv : pm_L} {st : List Value} {M : pm_M} {K : pm_K} {j : Fin 4} : pm_step SH CT ret X k (pc, (.lstore_n j), n, a, b, ts) lv st M K = (pm_l st (fun x r => K ((j.val, .long x) :: pm_rm (j.val + 1) (pm_rm j.val lv)) r M)) := rfl
theorem pm_s_lstore {SH : List pm_S} {CT : List pm_C} {ret : Option FieldType} {X : pm_X} {k : Option Value → pm_M → Prop} {pc n a b : Nat} {ts : List (Nat × List Nat)} {lv : pm_L} {st : List Value} {M : pm_M} {K : pm_K} {j : Nat} : pm_step SH CT ret X k (pc, (.lstore j), n, a, b, ts) lv st M K = (pm_l st (fun x r => K ((j, .long x) :: pm_rm (j + 1) (pm_rm j lv)) r M)) := rfl
theorem pm_s_astore_n {SH : List pm_S} {CT : List pm_C} {ret : Option FieldType} {X : pm_X} {k : Option Value → pm_M → Prop} {pc n a b : Nat} {ts : List (Nat × List Nat)} {lv : pm_L} {st : List Value} {M : pm_M} {K : pm_K} {j : Fin 4} : pm_step SH CT ret X k (pc, (.astore_n j), n, a, b, ts) lv st M K = (pm_r st (fun q r => K ((j.val, .ref q) :: pm_rm j.val lv) r M)) := rfl
theorem pm_s_astore {SH : List pm_S} {CT : List pm_C} {ret : Option FieldType} {X : pm_X} {k : Option Value → pm_M → Prop} {pc n a b : Nat} {ts : List (Nat × List Nat)} {lv : pm_L} {st : List Value} {M : pm_M} {K : pm_K} {j : Nat} : pm_step SH CT ret X k (pc, (.astore j), n, a, b, ts) lv st M K = (pm_r st (fun q r => K ((j, .ref q) :: pm_rm j lv) r M)) := rfl
theorem pm_s_iinc {SH : List pm_S} {CT : List pm_C} {ret : Option FieldType} {X : pm_X} {k : Option Value → pm_M → Prop} {pc n a b : Nat} {ts : List (Nat × List Nat)} {lv : pm_L} {st : List Value} {M : pm_M} {K : pm_K} {j : Nat} {w1 : Int} : pm_step SH CT ret X k (pc, (.iinc j w1), n, a, b, ts) lv st M K = (pm_ldi lv j (fun x => K ((j, .int (x + pm_c a b)) :: pm_rm j lv) st M)) := rfl
theorem pm_s_iconst {SH : List pm_S} {CT : List pm_C} {ret : Option FieldType} {X : pm_X} {k : Option Value → pm_M → Prop} {pc n a b : Nat} {ts : List (Nat × List Nat)} {lv : pm_L} {st : List Value} {M : pm_M} {K : pm_K} {w0 : Int} : pm_step SH CT ret X k (pc, (.iconst w0), n, a, b, ts) lv st M K = (K lv (.int (pm_c a b) :: st) M) := rfl
theorem pm_s_bipush {SH : List pm_S} {CT : List pm_C} {ret : Option FieldType} {X : pm_X} {k : Option Value → pm_M → Prop} {pc n a b : Nat} {ts : List (Nat × List Nat)} {lv : pm_L} {st : List Value} {M : pm_M} {K : pm_K} {w0 : Int} : pm_step SH CT ret X k (pc, (.bipush w0), n, a, b, ts) lv st M K = (K lv (.int (pm_c a b) :: st) M) := rfl
theorem pm_s_sipush {SH : List pm_S} {CT : List pm_C} {ret : Option FieldType} {X : pm_X} {k : Option Value → pm_M → Prop} {pc n a b : Nat} {ts : List (Nat × List Nat)} {lv : pm_L} {st : List Value} {M : pm_M} {K : pm_K} {w0 : Int} : pm_step SH CT ret X k (pc, (.sipush w0), n, a, b, ts) lv st M K = (K lv (.int (pm_c a b) :: st) M) := rfl
theorem pm_s_ldc {SH : List pm_S} {CT : List pm_C} {ret : Option FieldType} {X : pm_X} {k : Option Value → pm_M → Prop} {pc n a b : Nat} {ts : List (Nat × List Nat)} {lv : pm_L} {st : List Value} {M : pm_M} {K : pm_K} {w0 : Nat} : pm_step SH CT ret X k (pc, (.ldc w0), n, a, b, ts) lv st M K = (K lv (.int (pm_c a b) :: st) M) := rfl
theorem pm_s_ldc_w {SH : List pm_S} {CT : List pm_C} {ret : Option FieldType} {X : pm_X} {k : Option Value → pm_M → Prop} {pc n a b : Nat} {ts : List (Nat × List Nat)} {lv : pm_L} {st : List Value} {M : pm_M} {K : pm_K} {w0 : Nat} : pm_step SH CT ret X k (pc, (.ldc_w w0), n, a, b, ts) lv st M K = (K lv (.int (pm_c a b) :: st) M) := rfl
theorem pm_s_lconst {SH : List pm_S} {CT : List pm_C} {ret : Option FieldType} {X : pm_X} {k : Option Value → pm_M → Prop} {pc n a b : Nat} {ts : List (Nat × List Nat)} {lv : pm_L} {st : List Value} {M : pm_M} {K : pm_K} {w0 : Fin 2} : pm_step SH CT ret X k (pc, (.lconst w0), n, a, b, ts) lv st M K = (K lv (.long (lN a) :: st) M) := rfl
theorem pm_s_ldc2_w {SH : List pm_S} {CT : List pm_C} {ret : Option FieldType} {X : pm_X} {k : Option Value → pm_M → Prop} {pc n a b : Nat} {ts : List (Nat × List Nat)} {lv : pm_L} {st : List Value} {M : pm_M} {K : pm_K} {w0 : Nat} : pm_step SH CT ret X k (pc, (.ldc2_w w0), n, a, b, ts) lv st M K = (K lv (.long (lN a) :: st) M) := rfl
theorem pm_s_iadd {SH : List pm_S} {CT : List pm_C} {ret : Option FieldType} {X : pm_X} {k : Option Value → pm_M → Prop} {pc n a b : Nat} {ts : List (Nat × List Nat)} {lv : pm_L} {st : List Value} {M : pm_M} {K : pm_K}  : pm_step SH CT ret X k (pc, .iadd, n, a, b, ts) lv st M K = (pm_ii st (fun x y r => K lv (.int (x + y) :: r) M)) := rfl
theorem pm_s_isub {SH : List pm_S} {CT : List pm_C} {ret : Option FieldType} {X : pm_X} {k : Option Value → pm_M → Prop} {pc n a b : Nat} {ts : List (Nat × List Nat)} {lv : pm_L} {st : List Value} {M : pm_M} {K : pm_K}  : pm_step SH CT ret X k (pc, .isub, n, a, b, ts) lv st M K = (pm_ii st (fun x y r => K lv (.int (x - y) :: r) M)) := rfl
theorem pm_s_imul {SH : List pm_S} {CT : List pm_C} {ret : Option FieldType} {X : pm_X} {k : Option Value → pm_M → Prop} {pc n a b : Nat} {ts : List (Nat × List Nat)} {lv : pm_L} {st : List Value} {M : pm_M} {K : pm_K}  : pm_step SH CT ret X k (pc, .imul, n, a, b, ts) lv st M K = (pm_ii st (fun x y r => K lv (.int (x * y) :: r) M)) := rfl
theorem pm_s_iand {SH : List pm_S} {CT : List pm_C} {ret : Option FieldType} {X : pm_X} {k : Option Value → pm_M → Prop} {pc n a b : Nat} {ts : List (Nat × List Nat)} {lv : pm_L} {st : List Value} {M : pm_M} {K : pm_K}  : pm_step SH CT ret X k (pc, .iand, n, a, b, ts) lv st M K = (pm_ii st (fun x y r => K lv (.int (x &&& y) :: r) M)) := rfl
theorem pm_s_ior {SH : List pm_S} {CT : List pm_C} {ret : Option FieldType} {X : pm_X} {k : Option Value → pm_M → Prop} {pc n a b : Nat} {ts : List (Nat × List Nat)} {lv : pm_L} {st : List Value} {M : pm_M} {K : pm_K}  : pm_step SH CT ret X k (pc, .ior, n, a, b, ts) lv st M K = (pm_ii st (fun x y r => K lv (.int (x ||| y) :: r) M)) := rfl
theorem pm_s_ixor {SH : List pm_S} {CT : List pm_C} {ret : Option FieldType} {X : pm_X} {k : Option Value → pm_M → Prop} {pc n a b : Nat} {ts : List (Nat × List Nat)} {lv : pm_L} {st : List Value} {M : pm_M} {K : pm_K}  : pm_step SH CT ret X k (pc, .ixor, n, a, b, ts) lv st M K = (pm_ii st (fun x y r => K lv (.int (x ^^^ y) :: r) M)) := rfl
theorem pm_s_idiv {SH : List pm_S} {CT : List pm_C} {ret : Option FieldType} {X : pm_X} {k : Option Value → pm_M → Prop} {pc n a b : Nat} {ts : List (Nat × List Nat)} {lv : pm_L} {st : List Value} {M : pm_M} {K : pm_K}  : pm_step SH CT ret X k (pc, .idiv, n, a, b, ts) lv st M K = (pm_ii st (fun x y r => ¬ y = 0 ∧ K lv (.int (x / y) :: r) M)) := rfl
theorem pm_s_irem {SH : List pm_S} {CT : List pm_C} {ret : Option FieldType} {X : pm_X} {k : Option Value → pm_M → Prop} {pc n a b : Nat} {ts : List (Nat × List Nat)} {lv : pm_L} {st : List Value} {M : pm_M} {K : pm_K}  : pm_step SH CT ret X k (pc, .irem, n, a, b, ts) lv st M K = (pm_ii st (fun x y r => ¬ y = 0 ∧ K lv (.int (x - x / y * y) :: r) M)) := rfl
theorem pm_s_ishl {SH : List pm_S} {CT : List pm_C} {ret : Option FieldType} {X : pm_X} {k : Option Value → pm_M → Prop} {pc n a b : Nat} {ts : List (Nat × List Nat)} {lv : pm_L} {st : List Value} {M : pm_M} {K : pm_K}  : pm_step SH CT ret X k (pc, .ishl, n, a, b, ts) lv st M K = (pm_ii st (fun x y r => K lv (.int (x <<< (y &&& 31)) :: r) M)) := rfl
theorem pm_s_ishr {SH : List pm_S} {CT : List pm_C} {ret : Option FieldType} {X : pm_X} {k : Option Value → pm_M → Prop} {pc n a b : Nat} {ts : List (Nat × List Nat)} {lv : pm_L} {st : List Value} {M : pm_M} {K : pm_K}  : pm_step SH CT ret X k (pc, .ishr, n, a, b, ts) lv st M K = (pm_ii st (fun x y r => K lv (.int (x >>> (y &&& 31)) :: r) M)) := rfl
theorem pm_s_iushr {SH : List pm_S} {CT : List pm_C} {ret : Option FieldType} {X : pm_X} {k : Option Value → pm_M → Prop} {pc n a b : Nat} {ts : List (Nat × List Nat)} {lv : pm_L} {st : List Value} {M : pm_M} {K : pm_K}  : pm_step SH CT ret X k (pc, .iushr, n, a, b, ts) lv st M K = (pm_ii st (fun x y r => K lv (.int (x.toUInt32 >>> (y.toUInt32 &&& Int32.toUInt32 31)).toInt32 :: r) M)) := rfl
theorem pm_s_lsub {SH : List pm_S} {CT : List pm_C} {ret : Option FieldType} {X : pm_X} {k : Option Value → pm_M → Prop} {pc n a b : Nat} {ts : List (Nat × List Nat)} {lv : pm_L} {st : List Value} {M : pm_M} {K : pm_K}  : pm_step SH CT ret X k (pc, .lsub, n, a, b, ts) lv st M K = (pm_ll st (fun x y r => K lv (.long (x - y) :: r) M)) := rfl
theorem pm_s_lmul {SH : List pm_S} {CT : List pm_C} {ret : Option FieldType} {X : pm_X} {k : Option Value → pm_M → Prop} {pc n a b : Nat} {ts : List (Nat × List Nat)} {lv : pm_L} {st : List Value} {M : pm_M} {K : pm_K}  : pm_step SH CT ret X k (pc, .lmul, n, a, b, ts) lv st M K = (pm_ll st (fun x y r => K lv (.long (x * y) :: r) M)) := rfl
theorem pm_s_land {SH : List pm_S} {CT : List pm_C} {ret : Option FieldType} {X : pm_X} {k : Option Value → pm_M → Prop} {pc n a b : Nat} {ts : List (Nat × List Nat)} {lv : pm_L} {st : List Value} {M : pm_M} {K : pm_K}  : pm_step SH CT ret X k (pc, .land, n, a, b, ts) lv st M K = (pm_ll st (fun x y r => K lv (.long (x &&& y) :: r) M)) := rfl
theorem pm_s_lor {SH : List pm_S} {CT : List pm_C} {ret : Option FieldType} {X : pm_X} {k : Option Value → pm_M → Prop} {pc n a b : Nat} {ts : List (Nat × List Nat)} {lv : pm_L} {st : List Value} {M : pm_M} {K : pm_K}  : pm_step SH CT ret X k (pc, .lor, n, a, b, ts) lv st M K = (pm_ll st (fun x y r => K lv (.long (x ||| y) :: r) M)) := rfl
theorem pm_s_lxor {SH : List pm_S} {CT : List pm_C} {ret : Option FieldType} {X : pm_X} {k : Option Value → pm_M → Prop} {pc n a b : Nat} {ts : List (Nat × List Nat)} {lv : pm_L} {st : List Value} {M : pm_M} {K : pm_K}  : pm_step SH CT ret X k (pc, .lxor, n, a, b, ts) lv st M K = (pm_ll st (fun x y r => K lv (.long (x ^^^ y) :: r) M)) := rfl
theorem pm_s_lcmp {SH : List pm_S} {CT : List pm_C} {ret : Option FieldType} {X : pm_X} {k : Option Value → pm_M → Prop} {pc n a b : Nat} {ts : List (Nat × List Nat)} {lv : pm_L} {st : List Value} {M : pm_M} {K : pm_K}  : pm_step SH CT ret X k (pc, .lcmp, n, a, b, ts) lv st M K = (pm_ll st (fun x y r => K lv (.int (lg_cmp x y) :: r) M)) := rfl
theorem pm_s_lshl {SH : List pm_S} {CT : List pm_C} {ret : Option FieldType} {X : pm_X} {k : Option Value → pm_M → Prop} {pc n a b : Nat} {ts : List (Nat × List Nat)} {lv : pm_L} {st : List Value} {M : pm_M} {K : pm_K}  : pm_step SH CT ret X k (pc, .lshl, n, a, b, ts) lv st M K = (pm_li st (fun x y r => K lv (.long (x <<< (y.toInt64 &&& 63)) :: r) M)) := rfl
theorem pm_s_lushr {SH : List pm_S} {CT : List pm_C} {ret : Option FieldType} {X : pm_X} {k : Option Value → pm_M → Prop} {pc n a b : Nat} {ts : List (Nat × List Nat)} {lv : pm_L} {st : List Value} {M : pm_M} {K : pm_K}  : pm_step SH CT ret X k (pc, .lushr, n, a, b, ts) lv st M K = (pm_li st (fun x y r => K lv (.long (x.toUInt64 >>> (y.toInt64.toUInt64 &&& Int64.toUInt64 63)).toInt64 :: r) M)) := rfl
theorem pm_s_i2l {SH : List pm_S} {CT : List pm_C} {ret : Option FieldType} {X : pm_X} {k : Option Value → pm_M → Prop} {pc n a b : Nat} {ts : List (Nat × List Nat)} {lv : pm_L} {st : List Value} {M : pm_M} {K : pm_K}  : pm_step SH CT ret X k (pc, .i2l, n, a, b, ts) lv st M K = (pm_i st (fun x r => K lv (.long x.toInt64 :: r) M)) := rfl
theorem pm_s_l2i {SH : List pm_S} {CT : List pm_C} {ret : Option FieldType} {X : pm_X} {k : Option Value → pm_M → Prop} {pc n a b : Nat} {ts : List (Nat × List Nat)} {lv : pm_L} {st : List Value} {M : pm_M} {K : pm_K}  : pm_step SH CT ret X k (pc, .l2i, n, a, b, ts) lv st M K = (pm_l st (fun x r => K lv (.int x.toInt32 :: r) M)) := rfl
theorem pm_s_i2b {SH : List pm_S} {CT : List pm_C} {ret : Option FieldType} {X : pm_X} {k : Option Value → pm_M → Prop} {pc n a b : Nat} {ts : List (Nat × List Nat)} {lv : pm_L} {st : List Value} {M : pm_M} {K : pm_K}  : pm_step SH CT ret X k (pc, .i2b, n, a, b, ts) lv st M K = (pm_i st (fun x r => K lv (.int x.toInt8.toInt32 :: r) M)) := rfl
theorem pm_s_i2s {SH : List pm_S} {CT : List pm_C} {ret : Option FieldType} {X : pm_X} {k : Option Value → pm_M → Prop} {pc n a b : Nat} {ts : List (Nat × List Nat)} {lv : pm_L} {st : List Value} {M : pm_M} {K : pm_K}  : pm_step SH CT ret X k (pc, .i2s, n, a, b, ts) lv st M K = (pm_i st (fun x r => K lv (.int x.toInt16.toInt32 :: r) M)) := rfl
theorem pm_s_dup {SH : List pm_S} {CT : List pm_C} {ret : Option FieldType} {X : pm_X} {k : Option Value → pm_M → Prop} {pc n a b : Nat} {ts : List (Nat × List Nat)} {lv : pm_L} {st : List Value} {M : pm_M} {K : pm_K}  : pm_step SH CT ret X k (pc, .dup, n, a, b, ts) lv st M K = (pm_v1 st (fun v r => K lv (v :: v :: r) M)) := rfl
theorem pm_s_pop {SH : List pm_S} {CT : List pm_C} {ret : Option FieldType} {X : pm_X} {k : Option Value → pm_M → Prop} {pc n a b : Nat} {ts : List (Nat × List Nat)} {lv : pm_L} {st : List Value} {M : pm_M} {K : pm_K}  : pm_step SH CT ret X k (pc, .pop, n, a, b, ts) lv st M K = (pm_v1 st (fun _ r => K lv r M)) := rfl
theorem pm_s_dup_x1 {SH : List pm_S} {CT : List pm_C} {ret : Option FieldType} {X : pm_X} {k : Option Value → pm_M → Prop} {pc n a b : Nat} {ts : List (Nat × List Nat)} {lv : pm_L} {st : List Value} {M : pm_M} {K : pm_K}  : pm_step SH CT ret X k (pc, .dup_x1, n, a, b, ts) lv st M K = (pm_v2 st (fun v w r => K lv (v :: w :: v :: r) M)) := rfl
theorem pm_s_dup_x2 {SH : List pm_S} {CT : List pm_C} {ret : Option FieldType} {X : pm_X} {k : Option Value → pm_M → Prop} {pc n a b : Nat} {ts : List (Nat × List Nat)} {lv : pm_L} {st : List Value} {M : pm_M} {K : pm_K}  : pm_step SH CT ret X k (pc, .dup_x2, n, a, b, ts) lv st M K = (pm_v3 st (fun v w x r => K lv (v :: w :: x :: v :: r) M)) := rfl
theorem pm_s_dup2 {SH : List pm_S} {CT : List pm_C} {ret : Option FieldType} {X : pm_X} {k : Option Value → pm_M → Prop} {pc n a b : Nat} {ts : List (Nat × List Nat)} {lv : pm_L} {st : List Value} {M : pm_M} {K : pm_K}  : pm_step SH CT ret X k (pc, .dup2, n, a, b, ts) lv st M K = (pm_v2 st (fun v w r => K lv (v :: w :: v :: w :: r) M)) := rfl
theorem pm_s_ifCond_eq {SH : List pm_S} {CT : List pm_C} {ret : Option FieldType} {X : pm_X} {k : Option Value → pm_M → Prop} {pc n a b : Nat} {ts : List (Nat × List Nat)} {lv : pm_L} {st : List Value} {M : pm_M} {K : pm_K} {w1 : Int} : pm_step SH CT ret X k (pc, (.ifCond .eq w1), n, a, b, ts) lv st M K = (pm_i st (fun x r => (x = 0 → pm_go X ts lv r M) ∧ (¬ x = 0 → K lv r M))) := rfl
theorem pm_s_ifCond_ne {SH : List pm_S} {CT : List pm_C} {ret : Option FieldType} {X : pm_X} {k : Option Value → pm_M → Prop} {pc n a b : Nat} {ts : List (Nat × List Nat)} {lv : pm_L} {st : List Value} {M : pm_M} {K : pm_K} {w1 : Int} : pm_step SH CT ret X k (pc, (.ifCond .ne w1), n, a, b, ts) lv st M K = (pm_i st (fun x r => (¬ x = 0 → pm_go X ts lv r M) ∧ (x = 0 → K lv r M))) := rfl
theorem pm_s_ifCond_lt {SH : List pm_S} {CT : List pm_C} {ret : Option FieldType} {X : pm_X} {k : Option Value → pm_M → Prop} {pc n a b : Nat} {ts : List (Nat × List Nat)} {lv : pm_L} {st : List Value} {M : pm_M} {K : pm_K} {w1 : Int} : pm_step SH CT ret X k (pc, (.ifCond .lt w1), n, a, b, ts) lv st M K = (pm_i st (fun x r => (x < 0 → pm_go X ts lv r M) ∧ (¬ x < 0 → K lv r M))) := rfl
theorem pm_s_ifCond_ge {SH : List pm_S} {CT : List pm_C} {ret : Option FieldType} {X : pm_X} {k : Option Value → pm_M → Prop} {pc n a b : Nat} {ts : List (Nat × List Nat)} {lv : pm_L} {st : List Value} {M : pm_M} {K : pm_K} {w1 : Int} : pm_step SH CT ret X k (pc, (.ifCond .ge w1), n, a, b, ts) lv st M K = (pm_i st (fun x r => (0 ≤ x → pm_go X ts lv r M) ∧ (¬ 0 ≤ x → K lv r M))) := rfl
theorem pm_s_ifCond_gt {SH : List pm_S} {CT : List pm_C} {ret : Option FieldType} {X : pm_X} {k : Option Value → pm_M → Prop} {pc n a b : Nat} {ts : List (Nat × List Nat)} {lv : pm_L} {st : List Value} {M : pm_M} {K : pm_K} {w1 : Int} : pm_step SH CT ret X k (pc, (.ifCond .gt w1), n, a, b, ts) lv st M K = (pm_i st (fun x r => (0 < x → pm_go X ts lv r M) ∧ (¬ 0 < x → K lv r M))) := rfl
theorem pm_s_ifCond_le {SH : List pm_S} {CT : List pm_C} {ret : Option FieldType} {X : pm_X} {k : Option Value → pm_M → Prop} {pc n a b : Nat} {ts : List (Nat × List Nat)} {lv : pm_L} {st : List Value} {M : pm_M} {K : pm_K} {w1 : Int} : pm_step SH CT ret X k (pc, (.ifCond .le w1), n, a, b, ts) lv st M K = (pm_i st (fun x r => (x ≤ 0 → pm_go X ts lv r M) ∧ (¬ x ≤ 0 → K lv r M))) := rfl
theorem pm_s_if_icmp_eq {SH : List pm_S} {CT : List pm_C} {ret : Option FieldType} {X : pm_X} {k : Option Value → pm_M → Prop} {pc n a b : Nat} {ts : List (Nat × List Nat)} {lv : pm_L} {st : List Value} {M : pm_M} {K : pm_K} {w1 : Int} : pm_step SH CT ret X k (pc, (.if_icmp .eq w1), n, a, b, ts) lv st M K = (pm_ii st (fun x y r => (x = y → pm_go X ts lv r M) ∧ (¬ x = y → K lv r M))) := rfl
theorem pm_s_if_icmp_ne {SH : List pm_S} {CT : List pm_C} {ret : Option FieldType} {X : pm_X} {k : Option Value → pm_M → Prop} {pc n a b : Nat} {ts : List (Nat × List Nat)} {lv : pm_L} {st : List Value} {M : pm_M} {K : pm_K} {w1 : Int} : pm_step SH CT ret X k (pc, (.if_icmp .ne w1), n, a, b, ts) lv st M K = (pm_ii st (fun x y r => (¬ x = y → pm_go X ts lv r M) ∧ (x = y → K lv r M))) := rfl
theorem pm_s_if_icmp_lt {SH : List pm_S} {CT : List pm_C} {ret : Option FieldType} {X : pm_X} {k : Option Value → pm_M → Prop} {pc n a b : Nat} {ts : List (Nat × List Nat)} {lv : pm_L} {st : List Value} {M : pm_M} {K : pm_K} {w1 : Int} : pm_step SH CT ret X k (pc, (.if_icmp .lt w1), n, a, b, ts) lv st M K = (pm_ii st (fun x y r => (x < y → pm_go X ts lv r M) ∧ (¬ x < y → K lv r M))) := rfl
theorem pm_s_if_icmp_ge {SH : List pm_S} {CT : List pm_C} {ret : Option FieldType} {X : pm_X} {k : Option Value → pm_M → Prop} {pc n a b : Nat} {ts : List (Nat × List Nat)} {lv : pm_L} {st : List Value} {M : pm_M} {K : pm_K} {w1 : Int} : pm_step SH CT ret X k (pc, (.if_icmp .ge w1), n, a, b, ts) lv st M K = (pm_ii st (fun x y r => (y ≤ x → pm_go X ts lv r M) ∧ (¬ y ≤ x → K lv r M))) := rfl
theorem pm_s_if_icmp_gt {SH : List pm_S} {CT : List pm_C} {ret : Option FieldType} {X : pm_X} {k : Option Value → pm_M → Prop} {pc n a b : Nat} {ts : List (Nat × List Nat)} {lv : pm_L} {st : List Value} {M : pm_M} {K : pm_K} {w1 : Int} : pm_step SH CT ret X k (pc, (.if_icmp .gt w1), n, a, b, ts) lv st M K = (pm_ii st (fun x y r => (y < x → pm_go X ts lv r M) ∧ (¬ y < x → K lv r M))) := rfl
theorem pm_s_if_icmp_le {SH : List pm_S} {CT : List pm_C} {ret : Option FieldType} {X : pm_X} {k : Option Value → pm_M → Prop} {pc n a b : Nat} {ts : List (Nat × List Nat)} {lv : pm_L} {st : List Value} {M : pm_M} {K : pm_K} {w1 : Int} : pm_step SH CT ret X k (pc, (.if_icmp .le w1), n, a, b, ts) lv st M K = (pm_ii st (fun x y r => (x ≤ y → pm_go X ts lv r M) ∧ (¬ x ≤ y → K lv r M))) := rfl
theorem pm_s_goto {SH : List pm_S} {CT : List pm_C} {ret : Option FieldType} {X : pm_X} {k : Option Value → pm_M → Prop} {pc n a b : Nat} {ts : List (Nat × List Nat)} {lv : pm_L} {st : List Value} {M : pm_M} {K : pm_K} {w0 : Int} : pm_step SH CT ret X k (pc, (.goto w0), n, a, b, ts) lv st M K = (pm_go X ts lv st M) := rfl
theorem pm_s_tableswitch {SH : List pm_S} {CT : List pm_C} {ret : Option FieldType} {X : pm_X} {k : Option Value → pm_M → Prop} {pc n a b : Nat} {ts : List (Nat × List Nat)} {lv : pm_L} {st : List Value} {M : pm_M} {K : pm_K} {w0 : Int} {lo : Int} {hi : Int} {w3 : Array Int} : pm_step SH CT ret X k (pc, (.tableswitch w0 lo hi w3), n, a, b, ts) lv st M K = (pm_i st (fun x r => (x.toInt < lo ∨ hi < x.toInt → pm_go X ts lv r M) ∧ pm_sw X x lo (ts.drop 1) lv r M)) := rfl
theorem pm_s_getfield {SH : List pm_S} {CT : List pm_C} {ret : Option FieldType} {X : pm_X} {k : Option Value → pm_M → Prop} {pc n a b : Nat} {ts : List (Nat × List Nat)} {lv : pm_L} {st : List Value} {M : pm_M} {K : pm_K} {w0 : Nat} : pm_step SH CT ret X k (pc, (.getfield w0), n, a, b, ts) lv st M K = (pm_r st (fun q r => pm_obj SH q a (fun fs => pm_fld fs b (fun f => K lv (pm_fv M q b f :: r) M)))) := rfl
theorem pm_s_getstatic {SH : List pm_S} {CT : List pm_C} {ret : Option FieldType} {X : pm_X} {k : Option Value → pm_M → Prop} {pc n a b : Nat} {ts : List (Nat × List Nat)} {lv : pm_L} {st : List Value} {M : pm_M} {K : pm_K} {w0 : Nat} : pm_step SH CT ret X k (pc, (.getstatic w0), n, a, b, ts) lv st M K = (K lv (.retAddr 0 :: st) M) := rfl
theorem pm_s_baload {SH : List pm_S} {CT : List pm_C} {ret : Option FieldType} {X : pm_X} {k : Option Value → pm_M → Prop} {pc n a b : Nat} {ts : List (Nat × List Nat)} {lv : pm_L} {st : List Value} {M : pm_M} {K : pm_K}  : pm_step SH CT ret X k (pc, .baload, n, a, b, ts) lv st M K = (pm_ri st (fun q i r => pm_arr SH q (fun t n => (t = 1 ∨ t = 2) ∧ vp_in i n ∧ K lv (.int (M.1 q i.toNatClampNeg) :: r) M))) := rfl
theorem pm_s_saload {SH : List pm_S} {CT : List pm_C} {ret : Option FieldType} {X : pm_X} {k : Option Value → pm_M → Prop} {pc n a b : Nat} {ts : List (Nat × List Nat)} {lv : pm_L} {st : List Value} {M : pm_M} {K : pm_K}  : pm_step SH CT ret X k (pc, .saload, n, a, b, ts) lv st M K = (pm_ri st (fun q i r => pm_arr SH q (fun t n => t = 3 ∧ vp_in i n ∧ K lv (.int (M.1 q i.toNatClampNeg) :: r) M))) := rfl
theorem pm_s_laload {SH : List pm_S} {CT : List pm_C} {ret : Option FieldType} {X : pm_X} {k : Option Value → pm_M → Prop} {pc n a b : Nat} {ts : List (Nat × List Nat)} {lv : pm_L} {st : List Value} {M : pm_M} {K : pm_K}  : pm_step SH CT ret X k (pc, .laload, n, a, b, ts) lv st M K = (pm_ri st (fun q i r => pm_arr SH q (fun t n => t = 4 ∧ vp_in i n ∧ K lv (.long (M.2 q i.toNatClampNeg) :: r) M))) := rfl
theorem pm_s_aaload {SH : List pm_S} {CT : List pm_C} {ret : Option FieldType} {X : pm_X} {k : Option Value → pm_M → Prop} {pc n a b : Nat} {ts : List (Nat × List Nat)} {lv : pm_L} {st : List Value} {M : pm_M} {K : pm_K}  : pm_step SH CT ret X k (pc, .aaload, n, a, b, ts) lv st M K = (pm_ri st (fun q i r => pm_refs SH q (fun ps => vp_in i ps.length ∧ K lv (.ref (ps.getD i.toNatClampNeg 0) :: r) M))) := rfl
theorem pm_s_iastore {SH : List pm_S} {CT : List pm_C} {ret : Option FieldType} {X : pm_X} {k : Option Value → pm_M → Prop} {pc n a b : Nat} {ts : List (Nat × List Nat)} {lv : pm_L} {st : List Value} {M : pm_M} {K : pm_K}  : pm_step SH CT ret X k (pc, .iastore, n, a, b, ts) lv st M K = (pm_rii st (fun q i x r => pm_arr SH q (fun t n => t = 0 ∧ vp_in i n ∧ K lv r (pm_set M q i.toNatClampNeg x)))) := rfl
theorem pm_s_bastore {SH : List pm_S} {CT : List pm_C} {ret : Option FieldType} {X : pm_X} {k : Option Value → pm_M → Prop} {pc n a b : Nat} {ts : List (Nat × List Nat)} {lv : pm_L} {st : List Value} {M : pm_M} {K : pm_K}  : pm_step SH CT ret X k (pc, .bastore, n, a, b, ts) lv st M K = (pm_rii st (fun q i x r => pm_arr SH q (fun t n => (t = 1 ∧ vp_in i n ∧ K lv r (pm_set M q i.toNatClampNeg x.toInt8.toInt32)) ∨ (t = 2 ∧ (x = 0 ∨ x = 1) ∧ vp_in i n ∧ K lv r (pm_set M q i.toNatClampNeg x))))) := rfl
theorem pm_s_sastore {SH : List pm_S} {CT : List pm_C} {ret : Option FieldType} {X : pm_X} {k : Option Value → pm_M → Prop} {pc n a b : Nat} {ts : List (Nat × List Nat)} {lv : pm_L} {st : List Value} {M : pm_M} {K : pm_K}  : pm_step SH CT ret X k (pc, .sastore, n, a, b, ts) lv st M K = (pm_rii st (fun q i x r => pm_arr SH q (fun t n => t = 3 ∧ vp_in i n ∧ K lv r (pm_set M q i.toNatClampNeg x.toInt16.toInt32)))) := rfl
theorem pm_s_lastore {SH : List pm_S} {CT : List pm_C} {ret : Option FieldType} {X : pm_X} {k : Option Value → pm_M → Prop} {pc n a b : Nat} {ts : List (Nat × List Nat)} {lv : pm_L} {st : List Value} {M : pm_M} {K : pm_K}  : pm_step SH CT ret X k (pc, .lastore, n, a, b, ts) lv st M K = (pm_ril st (fun q i x r => pm_arr SH q (fun t n => t = 4 ∧ vp_in i n ∧ K lv r (pm_setL M q i.toNatClampNeg x)))) := rfl
theorem pm_s_arraylength {SH : List pm_S} {CT : List pm_C} {ret : Option FieldType} {X : pm_X} {k : Option Value → pm_M → Prop} {pc n a b : Nat} {ts : List (Nat × List Nat)} {lv : pm_L} {st : List Value} {M : pm_M} {K : pm_K}  : pm_step SH CT ret X k (pc, .arraylength, n, a, b, ts) lv st M K = (pm_r st (fun q r => pm_arr SH q (fun t n => t < 5 ∧ K lv (.int (nI n) :: r) M))) := rfl
theorem pm_s_putfield {SH : List pm_S} {CT : List pm_C} {ret : Option FieldType} {X : pm_X} {k : Option Value → pm_M → Prop} {pc n a b : Nat} {ts : List (Nat × List Nat)} {lv : pm_L} {st : List Value} {M : pm_M} {K : pm_K} {j q : Nat} {x : Int32} {r : List Value} : pm_step SH CT ret X k (pc, (.putfield j), n, a, b, ts) lv (.int x :: .ref q :: r) M K = (pm_obj SH q (a % 100) (fun fs => pm_fld fs b (fun f => f = none ∧ (100 ≤ a → x = 0 ∨ x = 1) ∧ K lv r (pm_set M q b x)))) := rfl
theorem pm_s_iaload {SH : List pm_S} {CT : List pm_C} {ret : Option FieldType} {X : pm_X} {k : Option Value → pm_M → Prop} {pc n a b : Nat} {ts : List (Nat × List Nat)} {lv : pm_L} {st : List Value} {M : pm_M} {K : pm_K}  : pm_step SH CT ret X k (pc, .iaload, n, 0, b, ts) lv st M K = (pm_ri st (fun q i r => pm_arr SH q (fun t n => t = 0 ∧ vp_in i n ∧ K lv (.int (M.1 q i.toNatClampNeg) :: r) M))) := rfl
theorem pm_s_iaload1 {SH : List pm_S} {CT : List pm_C} {ret : Option FieldType} {X : pm_X} {k : Option Value → pm_M → Prop} {pc n a b : Nat} {ts : List (Nat × List Nat)} {lv : pm_L} {st : List Value} {M : pm_M} {K : pm_K}  : pm_step SH CT ret X k (pc, .iaload, n, 1, b, ts) lv st M K = (pm_si st (fun i r => vp_in i 5 ∧ K lv (.int (pm_laws.getD i.toNatClampNeg 0) :: r) M)) := rfl
theorem pm_s_invokevirtual {SH : List pm_S} {CT : List pm_C} {ret : Option FieldType} {X : pm_X} {k : Option Value → pm_M → Prop} {pc n a b : Nat} {ts : List (Nat × List Nat)} {lv : pm_L} {st : List Value} {M : pm_M} {K : pm_K} {j : Nat} : pm_step SH CT ret X k (pc, (.invokevirtual j), n, a, b, ts) lv st M K = (match CT[a]? with | some c => pm_call SH c st M (fun st M => K lv st M) | none => False) := rfl
theorem pm_s_invokestatic {SH : List pm_S} {CT : List pm_C} {ret : Option FieldType} {X : pm_X} {k : Option Value → pm_M → Prop} {pc n a b : Nat} {ts : List (Nat × List Nat)} {lv : pm_L} {st : List Value} {M : pm_M} {K : pm_K} {j : Nat} : pm_step SH CT ret X k (pc, (.invokestatic j), n, a, 0, ts) lv st M K = (match CT[a]? with | some c => pm_call SH c st M (fun st M => K lv st M) | none => False) := rfl
theorem pm_s_copy {SH : List pm_S} {CT : List pm_C} {ret : Option FieldType} {X : pm_X} {k : Option Value → pm_M → Prop} {pc n a b : Nat} {ts : List (Nat × List Nat)} {lv : pm_L} {st : List Value} {M : pm_M} {K : pm_K} {j : Nat} : pm_step SH CT ret X k (pc, (.invokestatic j), n, a, 1, ts) lv st M K = (pm_cp st (fun q0 x q1 y n r => pm_arr SH q0 (fun t0 n0 => pm_arr SH q1 (fun t1 n1 => t0 = 0 ∧ t1 = 0 ∧ ¬ x < 0 ∧ ¬ y < 0 ∧ ¬ n < 0 ∧ x.toNatClampNeg + n.toNatClampNeg ≤ n0 ∧ y.toNatClampNeg + n.toNatClampNeg ≤ n1 ∧ (r.map fun v => v.category).sum ≤ 8 ∧ K lv r (pm_cpy M q0 x.toNatClampNeg q1 y.toNatClampNeg n.toNatClampNeg))))) := rfl
theorem pm_s_copyL {SH : List pm_S} {CT : List pm_C} {ret : Option FieldType} {X : pm_X} {k : Option Value → pm_M → Prop} {pc n a b : Nat} {ts : List (Nat × List Nat)} {lv : pm_L} {st : List Value} {M : pm_M} {K : pm_K} {j : Nat} : pm_step SH CT ret X k (pc, (.invokestatic j), n, a, 2, ts) lv st M K = (pm_cp st (fun q0 x q1 y n r => pm_arr SH q0 (fun t0 n0 => pm_arr SH q1 (fun t1 n1 => t0 = 4 ∧ t1 = 4 ∧ ¬ x < 0 ∧ ¬ y < 0 ∧ ¬ n < 0 ∧ x.toNatClampNeg + n.toNatClampNeg ≤ n0 ∧ y.toNatClampNeg + n.toNatClampNeg ≤ n1 ∧ (r.map fun v => v.category).sum ≤ 8 ∧ K lv r (pm_cpyL M q0 x.toNatClampNeg q1 y.toNatClampNeg n.toNatClampNeg))))) := rfl
theorem pm_s_ireturn {SH : List pm_S} {CT : List pm_C} {ret : Option FieldType} {X : pm_X} {k : Option Value → pm_M → Prop} {pc n a b : Nat} {ts : List (Nat × List Nat)} {lv : pm_L} {st : List Value} {M : pm_M} {K : pm_K} {x : Int32} : pm_step SH CT ret X k (pc, .ireturn, n, a, b, ts) lv [.int x] M K = ((ret = some .int ∨ (ret = some .boolean ∧ (x = 0 ∨ x = 1))) ∧ k (some (.int x)) M) := rfl
theorem pm_s_lreturn {SH : List pm_S} {CT : List pm_C} {ret : Option FieldType} {X : pm_X} {k : Option Value → pm_M → Prop} {pc n a b : Nat} {ts : List (Nat × List Nat)} {lv : pm_L} {st : List Value} {M : pm_M} {K : pm_K} {x : Int64} : pm_step SH CT ret X k (pc, .lreturn, n, a, b, ts) lv [.long x] M K = (ret = some .long ∧ k (some (.long x)) M) := rfl
theorem pm_s_return {SH : List pm_S} {CT : List pm_C} {ret : Option FieldType} {X : pm_X} {k : Option Value → pm_M → Prop} {pc n a b : Nat} {ts : List (Nat × List Nat)} {lv : pm_L} {st : List Value} {M : pm_M} {K : pm_K}  : pm_step SH CT ret X k (pc, .return_, n, a, b, ts) lv [] M K = (ret = none ∧ k none M) := rfl
theorem pm_e_i {x : Int32} {r : List Value} {f : Int32 → List Value → Prop} : pm_i (.int x :: r) f = (f x r) := rfl
theorem pm_e_ii {x y : Int32} {r : List Value} {f : Int32 → Int32 → List Value → Prop} : pm_ii (.int y :: .int x :: r) f = (f x y r) := rfl
theorem pm_e_l {x : Int64} {r : List Value} {f : Int64 → List Value → Prop} : pm_l (.long x :: r) f = (f x r) := rfl
theorem pm_e_ll {x y : Int64} {r : List Value} {f : Int64 → Int64 → List Value → Prop} : pm_ll (.long y :: .long x :: r) f = (f x y r) := rfl
theorem pm_e_li {x : Int64} {y : Int32} {r : List Value} {f : Int64 → Int32 → List Value → Prop} : pm_li (.int y :: .long x :: r) f = (f x y r) := rfl
theorem pm_e_r {q : Nat} {r : List Value} {f : Nat → List Value → Prop} : pm_r (.ref q :: r) f = (f q r) := rfl
theorem pm_e_ri {q : Nat} {i : Int32} {r : List Value} {f : Nat → Int32 → List Value → Prop} : pm_ri (.int i :: .ref q :: r) f = (f q i r) := rfl
theorem pm_e_rii {q : Nat} {i x : Int32} {r : List Value} {f : Nat → Int32 → Int32 → List Value → Prop} : pm_rii (.int x :: .int i :: .ref q :: r) f = (f q i x r) := rfl
theorem pm_e_ril {q : Nat} {i : Int32} {x : Int64} {r : List Value} {f : Nat → Int32 → Int64 → List Value → Prop} : pm_ril (.long x :: .int i :: .ref q :: r) f = (f q i x r) := rfl
theorem pm_e_si {m : Nat} {i : Int32} {r : List Value} {f : Int32 → List Value → Prop} : pm_si (.int i :: .retAddr m :: r) f = (f i r) := rfl
theorem pm_e_cp {q0 q1 : Nat} {x y n : Int32} {r : List Value} {f : Nat → Int32 → Nat → Int32 → Int32 → List Value → Prop} : pm_cp (.int n :: .int y :: .ref q1 :: .int x :: .ref q0 :: r) f = (f q0 x q1 y n r) := rfl
theorem pm_e_v1 {v : Value} {r : List Value} {f : Value → List Value → Prop} : pm_v1 (v :: r) f = (v.category = 1 ∧ f v r) := rfl
theorem pm_e_v2 {v w : Value} {r : List Value} {f : Value → Value → List Value → Prop} : pm_v2 (v :: w :: r) f = (v.category = 1 ∧ w.category = 1 ∧ f v w r) := rfl
theorem pm_e_v3 {v w x : Value} {r : List Value} {f : Value → Value → Value → List Value → Prop} : pm_v3 (v :: w :: x :: r) f = (v.category = 1 ∧ w.category = 1 ∧ x.category = 1 ∧ f v w x r) := rfl
theorem pm_e_wp0 {SH : List pm_S} {CT : List pm_C} {ret : Option FieldType} {X : pm_X} {k : Option Value → pm_M → Prop} {nx : Nat × List Nat} {lv : pm_L} {st : List Value} {M : pm_M} : pm_wp SH CT ret X k nx [] lv st M = (X nx.1 (pm_rs nx.2 lv) st M) := rfl
theorem pm_e_wp1 {SH : List pm_S} {CT : List pm_C} {ret : Option FieldType} {X : pm_X} {k : Option Value → pm_M → Prop} {nx : Nat × List Nat} {it : pm_I} {is : List pm_I} {lv : pm_L} {st : List Value} {M : pm_M} : pm_wp SH CT ret X k nx (it :: is) lv st M = (pm_step SH CT ret X k it lv st M (fun lv st M => pm_wp SH CT ret X k nx is lv st M)) := rfl
theorem pm_e_go {X : pm_X} {t : Nat} {is : List Nat} {ts : List (Nat × List Nat)} {lv : pm_L} {st : List Value} {M : pm_M} : pm_go X ((t, is) :: ts) lv st M = (X t (pm_rs is lv) st M) := rfl
theorem pm_e_lk {j i : Nat} {v : Value} {r : pm_L} : pm_lk ((j, v) :: r) i = (if i = j then some v else pm_lk r i) := rfl
theorem pm_e_rs0 {lv : pm_L} : pm_rs [] lv = ([]) := rfl
theorem pm_e_rm0 {i : Nat} : pm_rm i [] = ([]) := rfl
theorem pm_e_rm1 {i j : Nat} {v : Value} {r : pm_L} : pm_rm i ((j, v) :: r) = (if j = i then pm_rm i r else if j + 1 = i then (if v.category = 2 then pm_rm i r else (j, v) :: pm_rm i r) else (j, v) :: pm_rm i r) := rfl
theorem pm_e_fvn {M : pm_M} {q k : Nat} : pm_fv M q k none = (.int (M.1 q k)) := rfl
theorem pm_e_fvs {M : pm_M} {q k r : Nat} : pm_fv M q k (some r) = (.ref r) := rfl
theorem pm_e_cti {x : Int32} : (Value.int x).category = (1) := rfl
theorem pm_e_ctl {x : Int64} : (Value.long x).category = (2) := rfl
theorem pm_e_ctr {x : Nat} : (Value.ref x).category = (1) := rfl
theorem pm_e_sw0 {X : pm_X} {x : Int32} {lo : Int} {lv : pm_L} {st : List Value} {M : pm_M} : pm_sw X x lo [] lv st M = (True) := rfl
theorem pm_e_sw1 {X : pm_X} {x : Int32} {lo : Int} {t : Nat} {is : List Nat} {ts : List (Nat × List Nat)} {lv : pm_L} {st : List Value} {M : pm_M} : pm_sw X x lo ((t, is) :: ts) lv st M = ((x.toInt = lo → X t (pm_rs is lv) st M) ∧ pm_sw X x (lo + 1) ts lv st M) := rfl
theorem pm_e_c0 {a : Nat} : pm_c a 0 = nI a := rfl
theorem pm_e_c1 {a : Nat} : pm_c a 1 = -nI a := rfl
theorem pm_e_rs1 {i : Nat} {is : List Nat} {lv : pm_L} : pm_rs (i :: is) lv = (match pm_lk lv i with | some v => (i, v) :: pm_rs is lv | none => pm_rs is lv) := rfl
theorem pm_e_ldi {lv : pm_L} {i : Nat} {f : Int32 → Prop} : pm_ldi lv i f = (match pm_lk lv i with | some (.int x) => f x | _ => False) := rfl
theorem pm_e_ldl {lv : pm_L} {i : Nat} {f : Int64 → Prop} : pm_ldl lv i f = (match pm_lk lv i with | some (.long x) => f x | _ => False) := rfl
theorem pm_e_ldr {lv : pm_L} {i : Nat} {f : Nat → Prop} : pm_ldr lv i f = (match pm_lk lv i with | some (.ref x) => f x | _ => False) := rfl
theorem pm_e_arr {SH : List pm_S} {q t n : Nat} {f : Nat → Nat → Prop} (h : SH[q]? = some (.inl (t, n))) : pm_arr SH q f = f t n := by simp [pm_arr, h]
theorem pm_e_refs {SH : List pm_S} {q : Nat} {ps : List Nat} {f : List Nat → Prop} (h : SH[q]? = some (.inr (.inl ps))) : pm_refs SH q f = f ps := by simp [pm_refs, h]
theorem pm_e_obj {SH : List pm_S} {q ci : Nat} {fs : List (Option Nat)} {f : List (Option Nat) → Prop} (h : SH[q]? = some (.inr (.inr (ci, fs)))) : pm_obj SH q ci f = f fs := by simp [pm_obj, h]
end
section
set_option maxRecDepth 20000 in
theorem cm_X0_choose : Cond.code yX0_choose cX0_choose 9 none ∈ pm_TB := pm_TB_of (List.mem_of_getElem? (i := 300) rfl) rfl
set_option maxRecDepth 20000 in
theorem cm_X0_size : Cond.code yX0_size cX0_size 1 (some .int) ∈ pm_TB := pm_TB_of (List.mem_of_getElem? (i := 308) rfl) rfl
set_option maxRecDepth 20000 in
theorem cm_X0_has : Cond.code yX0_has cX0_has 3 (some .boolean) ∈ pm_TB := pm_TB_of (List.mem_of_getElem? (i := 419) rfl) rfl
set_option maxRecDepth 20000 in
theorem cm_X0_hasCode : Cond.code yX0_hasCode cX0_hasCode 2 (some .boolean) ∈ pm_TB := pm_TB_of (List.mem_of_getElem? (i := 626) rfl) rfl
set_option maxRecDepth 20000 in
theorem cm_X0_cardOf : Cond.code yX0_cardOf cX0_cardOf 3 (some .int) ∈ pm_TB := pm_TB_of (List.mem_of_getElem? (i := 304) rfl) rfl
set_option maxRecDepth 20000 in
theorem cm_X0_cardOfCode : Cond.code yX0_cardOfCode cX0_cardOfCode 2 (some .int) ∈ pm_TB := pm_TB_of (List.mem_of_getElem? (i := 631) rfl) rfl
set_option maxRecDepth 20000 in
theorem cm_X0_codeOf : Cond.code yX0_codeOf cX0_codeOf 2 (some .int) ∈ pm_TB := pm_TB_of (List.mem_of_getElem? (i := 610) rfl) rfl
set_option maxRecDepth 20000 in
theorem cm_X0_allows : Cond.code yX0_allows cX0_allows 3 (some .boolean) ∈ pm_TB := pm_TB_of (List.mem_of_getElem? (i := 477) rfl) rfl
set_option maxRecDepth 20000 in
theorem cm_X0_targetsOf : Cond.code yX0_targetsOf cX0_targetsOf 4 (some .int) ∈ pm_TB := pm_TB_of (List.mem_of_getElem? (i := 312) rfl) rfl
set_option maxRecDepth 20000 in
theorem cm_X0_lawLets : Cond.code yX0_lawLets cX0_lawLets 5 (some .boolean) ∈ pm_TB := pm_TB_of (List.mem_of_getElem? (i := 316) rfl) rfl
set_option maxRecDepth 20000 in
theorem cm_X0_closesRound : Cond.code yX0_closesRound cX0_closesRound 3 (some .boolean) ∈ pm_TB := pm_TB_of (List.mem_of_getElem? (i := 320) rfl) rfl
set_option maxRecDepth 20000 in
theorem cm_X0_suitsTurn : Cond.code yX0_suitsTurn cX0_suitsTurn 3 (some .boolean) ∈ pm_TB := pm_TB_of (List.mem_of_getElem? (i := 324) rfl) rfl
set_option maxRecDepth 20000 in
theorem cm_X1_restart : Cond.code yX1_restart cX1_restart 2 none ∈ pm_TB := pm_TB_of (List.mem_of_getElem? (i := 342) rfl) rfl
set_option maxRecDepth 20000 in
theorem cm_X1_keep : Cond.code yX1_keep cX1_keep 2 none ∈ pm_TB := pm_TB_of (List.mem_of_getElem? (i := 494) rfl) rfl
set_option maxRecDepth 20000 in
theorem cm_X1_canGoBack : Cond.code yX1_canGoBack cX1_canGoBack 1 (some .int) ∈ pm_TB := pm_TB_of (List.mem_of_getElem? (i := 595) rfl) rfl
set_option maxRecDepth 20000 in
theorem cm_X1_goBack : Cond.code yX1_goBack cX1_goBack 2 (some .boolean) ∈ pm_TB := pm_TB_of (List.mem_of_getElem? (i := 549) rfl) rfl
set_option maxRecDepth 20000 in
theorem cm_X1_goOn : Cond.code yX1_goOn cX1_goOn 2 (some .boolean) ∈ pm_TB := pm_TB_of (List.mem_of_getElem? (i := 566) rfl) rfl
set_option maxRecDepth 20000 in
theorem cm_X1_write : Cond.code yX1_write cX1_write 2 none ∈ pm_TB := pm_TB_of (List.mem_of_getElem? (i := 346) rfl) rfl
set_option maxRecDepth 20000 in
theorem cm_X2_write : Cond.code yX2_write cX2_write 6 none ∈ pm_TB := pm_TB_of (List.mem_of_getElem? (i := 689) rfl) rfl
set_option maxRecDepth 20000 in
theorem cm_X2_moveAt : Cond.code yX2_moveAt cX2_moveAt 2 (some .int) ∈ pm_TB := pm_TB_of (List.mem_of_getElem? (i := 703) rfl) rfl
set_option maxRecDepth 20000 in
theorem cm_X2_fromAt : Cond.code yX2_fromAt cX2_fromAt 2 (some .int) ∈ pm_TB := pm_TB_of (List.mem_of_getElem? (i := 699) rfl) rfl
set_option maxRecDepth 20000 in
theorem cm_X2_toAt : Cond.code yX2_toAt cX2_toAt 2 (some .int) ∈ pm_TB := pm_TB_of (List.mem_of_getElem? (i := 707) rfl) rfl
set_option maxRecDepth 20000 in
theorem cm_X3_fewestMoves : Cond.code yX3_fewestMoves cX3_fewestMoves 7 (some .int) ∈ pm_TB := pm_TB_of (List.mem_of_getElem? (i := 640) rfl) rfl
set_option maxRecDepth 20000 in
theorem cm_X3_restart : Cond.code yX3_restart cX3_restart 4 none ∈ pm_TB := pm_TB_of (List.mem_of_getElem? (i := 645) rfl) rfl
set_option maxRecDepth 20000 in
theorem cm_X3_leadsToEnd : Cond.code yX3_leadsToEnd cX3_leadsToEnd 6 (some .boolean) ∈ pm_TB := pm_TB_of (List.mem_of_getElem? (i := 665) rfl) rfl
set_option maxRecDepth 20000 in
theorem cm_X3_endsBy : Cond.code yX3_endsBy cX3_endsBy 7 (some .boolean) ∈ pm_TB := pm_TB_of (List.mem_of_getElem? (i := 672) rfl) rfl
set_option maxRecDepth 20000 in
theorem cm_X3_meet : Cond.code yX3_meet cX3_meet 6 none ∈ pm_TB := pm_TB_of (List.mem_of_getElem? (i := 656) rfl) rfl
set_option maxRecDepth 20000 in
theorem cm_X3_isMet : Cond.code yX3_isMet cX3_isMet 6 (some .boolean) ∈ pm_TB := pm_TB_of (List.mem_of_getElem? (i := 661) rfl) rfl
set_option maxRecDepth 20000 in
theorem cm_X3_writePlan : Cond.code yX3_writePlan cX3_writePlan 6 none ∈ pm_TB := pm_TB_of (List.mem_of_getElem? (i := 685) rfl) rfl
set_option maxRecDepth 20000 in
theorem cm_X4_clear : Cond.code yX4_clear cX4_clear 2 none ∈ pm_TB := pm_TB_of (List.mem_of_getElem? (i := 332) rfl) rfl
set_option maxRecDepth 20000 in
theorem cm_X4_push : Cond.code yX4_push cX4_push 3 none ∈ pm_TB := pm_TB_of (List.mem_of_getElem? (i := 425) rfl) rfl
set_option maxRecDepth 20000 in
theorem cm_X4_pop : Cond.code yX4_pop cX4_pop 2 none ∈ pm_TB := pm_TB_of (List.mem_of_getElem? (i := 485) rfl) rfl
set_option maxRecDepth 20000 in
theorem cm_X4_lastOf : Cond.code yX4_lastOf cX4_lastOf 2 (some .int) ∈ pm_TB := pm_TB_of (List.mem_of_getElem? (i := 465) rfl) rfl
set_option maxRecDepth 20000 in
theorem cm_X4_insert : Cond.code yX4_insert cX4_insert 7 none ∈ pm_TB := pm_TB_of (List.mem_of_getElem? (i := 440) rfl) rfl
set_option maxRecDepth 20000 in
theorem cm_X4_cardAt : Cond.code yX4_cardAt cX4_cardAt 3 (some .int) ∈ pm_TB := pm_TB_of (List.mem_of_getElem? (i := 521) rfl) rfl
set_option maxRecDepth 20000 in
theorem cm_X4_cardsInHouses : Cond.code yX4_cardsInHouses cX4_cardsInHouses 1 (some .int) ∈ pm_TB := pm_TB_of (List.mem_of_getElem? (i := 574) rfl) rfl
set_option maxRecDepth 20000 in
theorem cm_X4_isDone : Cond.code yX4_isDone cX4_isDone 1 (some .boolean) ∈ pm_TB := pm_TB_of (List.mem_of_getElem? (i := 599) rfl) rfl
set_option maxRecDepth 20000 in
theorem cm_X4_firstFreeCell : Cond.code yX4_firstFreeCell cX4_firstFreeCell 2 (some .int) ∈ pm_TB := pm_TB_of (List.mem_of_getElem? (i := 469) rfl) rfl
set_option maxRecDepth 20000 in
theorem cm_X4_freeCells : Cond.code yX4_freeCells cX4_freeCells 3 (some .int) ∈ pm_TB := pm_TB_of (List.mem_of_getElem? (i := 517) rfl) rfl
set_option maxRecDepth 20000 in
theorem cm_X4_emptyColumns : Cond.code yX4_emptyColumns cX4_emptyColumns 3 (some .int) ∈ pm_TB := pm_TB_of (List.mem_of_getElem? (i := 579) rfl) rfl
set_option maxRecDepth 20000 in
theorem cm_X4_buriedCards : Cond.code yX4_buriedCards cX4_buriedCards 4 (some .int) ∈ pm_TB := pm_TB_of (List.mem_of_getElem? (i := 583) rfl) rfl
set_option maxRecDepth 20000 in
theorem cm_X4_isBuried : Cond.code yX4_isBuried cX4_isBuried 6 (some .boolean) ∈ pm_TB := pm_TB_of (List.mem_of_getElem? (i := 587) rfl) rfl
set_option maxRecDepth 20000 in
theorem cm_X4_isNamed : Cond.code yX4_isNamed cX4_isNamed 6 (some .boolean) ∈ pm_TB := pm_TB_of (List.mem_of_getElem? (i := 448) rfl) rfl
set_option maxRecDepth 20000 in
theorem cm_X4_cardFrom : Cond.code yX4_cardFrom cX4_cardFrom 2 (some .int) ∈ pm_TB := pm_TB_of (List.mem_of_getElem? (i := 461) rfl) rfl
set_option maxRecDepth 20000 in
theorem cm_X4_whyNot : Cond.code yX4_whyNot cX4_whyNot 4 (some .int) ∈ pm_TB := pm_TB_of (List.mem_of_getElem? (i := 457) rfl) rfl
set_option maxRecDepth 20000 in
theorem cm_X4_isNextInHouse : Cond.code yX4_isNextInHouse cX4_isNextInHouse 2 (some .boolean) ∈ pm_TB := pm_TB_of (List.mem_of_getElem? (i := 473) rfl) rfl
set_option maxRecDepth 20000 in
theorem cm_X4_possibleMoves : Cond.code yX4_possibleMoves cX4_possibleMoves 4 (some .int) ∈ pm_TB := pm_TB_of (List.mem_of_getElem? (i := 591) rfl) rfl
set_option maxRecDepth 20000 in
theorem cm_X4_shift : Cond.code yX4_shift cX4_shift 4 (some .int) ∈ pm_TB := pm_TB_of (List.mem_of_getElem? (i := 481) rfl) rfl
set_option maxRecDepth 20000 in
theorem cm_X4_shiftBack : Cond.code yX4_shiftBack cX4_shiftBack 4 none ∈ pm_TB := pm_TB_of (List.mem_of_getElem? (i := 677) rfl) rfl
set_option maxRecDepth 20000 in
theorem cm_X4_fillFreeCell : Cond.code yX4_fillFreeCell cX4_fillFreeCell 3 none ∈ pm_TB := pm_TB_of (List.mem_of_getElem? (i := 489) rfl) rfl
set_option maxRecDepth 20000 in
theorem cm_X4_emptyCellOf : Cond.code yX4_emptyCellOf cX4_emptyCellOf 3 none ∈ pm_TB := pm_TB_of (List.mem_of_getElem? (i := 681) rfl) rfl
set_option maxRecDepth 20000 in
theorem cm_X4_canShiftRow : Cond.code yX4_canShiftRow cX4_canShiftRow 6 (some .boolean) ∈ pm_TB := pm_TB_of (List.mem_of_getElem? (i := 509) rfl) rfl
set_option maxRecDepth 20000 in
theorem cm_X4_longestRow : Cond.code yX4_longestRow cX4_longestRow 6 (some .int) ∈ pm_TB := pm_TB_of (List.mem_of_getElem? (i := 513) rfl) rfl
set_option maxRecDepth 20000 in
theorem cm_X4_shiftRow : Cond.code yX4_shiftRow cX4_shiftRow 7 none ∈ pm_TB := pm_TB_of (List.mem_of_getElem? (i := 525) rfl) rfl
set_option maxRecDepth 20000 in
theorem cm_X4_sendSafeCard : Cond.code yX4_sendSafeCard cX4_sendSafeCard 3 (some .boolean) ∈ pm_TB := pm_TB_of (List.mem_of_getElem? (i := 533) rfl) rfl
set_option maxRecDepth 20000 in
theorem cm_X4_isSafe : Cond.code yX4_isSafe cX4_isSafe 4 (some .boolean) ∈ pm_TB := pm_TB_of (List.mem_of_getElem? (i := 539) rfl) rfl
set_option maxRecDepth 20000 in
theorem cm_X4_writeColumn : Cond.code yX4_writeColumn cX4_writeColumn 5 (some .int) ∈ pm_TB := pm_TB_of (List.mem_of_getElem? (i := 723) rfl) rfl
set_option maxRecDepth 20000 in
theorem cm_X4_writeHoused : Cond.code yX4_writeHoused cX4_writeHoused 4 (some .int) ∈ pm_TB := pm_TB_of (List.mem_of_getElem? (i := 741) rfl) rfl
set_option maxRecDepth 20000 in
theorem cm_X4_writeForm : Cond.code yX4_writeForm cX4_writeForm 5 (some .int) ∈ pm_TB := pm_TB_of (List.mem_of_getElem? (i := 719) rfl) rfl
set_option maxRecDepth 20000 in
theorem cm_X4_sortColumns : Cond.code yX4_sortColumns cX4_sortColumns 7 none ∈ pm_TB := pm_TB_of (List.mem_of_getElem? (i := 354) rfl) rfl
set_option maxRecDepth 20000 in
theorem cm_X4_inOrder : Cond.code yX4_inOrder cX4_inOrder 2 (some .int) ∈ pm_TB := pm_TB_of (List.mem_of_getElem? (i := 358) rfl) rfl
set_option maxRecDepth 20000 in
theorem cm_X4_formKey : Cond.code yX4_formKey cX4_formKey 8 (some .long) ∈ pm_TB := pm_TB_of (List.mem_of_getElem? (i := 350) rfl) rfl
set_option maxRecDepth 20000 in
theorem cm_X4_arrangement : Cond.code yX4_arrangement cX4_arrangement 3 (some .int) ∈ pm_TB := pm_TB_of (List.mem_of_getElem? (i := 368) rfl) rfl
set_option maxRecDepth 20000 in
theorem cm_X4_unpack : Cond.code yX4_unpack cX4_unpack 9 none ∈ pm_TB := pm_TB_of (List.mem_of_getElem? (i := 553) rfl) rfl
set_option maxRecDepth 20000 in
theorem cm_X4_takeFromHouse : Cond.code yX4_takeFromHouse cX4_takeFromHouse 2 none ∈ pm_TB := pm_TB_of (List.mem_of_getElem? (i := 558) rfl) rfl
set_option maxRecDepth 20000 in
theorem cm_X6_begin : Cond.code yX6_begin cX6_begin 8 (some .int) ∈ pm_TB := pm_TB_of (List.mem_of_getElem? (i := 403) rfl) rfl
set_option maxRecDepth 20000 in
theorem cm_X6_lay : Cond.code yX6_lay cX6_lay 5 (some .int) ∈ pm_TB := pm_TB_of (List.mem_of_getElem? (i := 411) rfl) rfl
set_option maxRecDepth 20000 in
theorem cm_X6_make : Cond.code yX6_make cX6_make 6 (some .int) ∈ pm_TB := pm_TB_of (List.mem_of_getElem? (i := 435) rfl) rfl
set_option maxRecDepth 20000 in
theorem cm_X6_move : Cond.code yX6_move cX6_move 3 (some .int) ∈ pm_TB := pm_TB_of (List.mem_of_getElem? (i := 444) rfl) rfl
set_option maxRecDepth 20000 in
theorem cm_X6_why : Cond.code yX6_why cX6_why 1 (some .int) ∈ pm_TB := pm_TB_of (List.mem_of_getElem? (i := 501) rfl) rfl
set_option maxRecDepth 20000 in
theorem cm_X6_carry : Cond.code yX6_carry cX6_carry 4 (some .int) ∈ pm_TB := pm_TB_of (List.mem_of_getElem? (i := 505) rfl) rfl
set_option maxRecDepth 20000 in
theorem cm_X6_auto : Cond.code yX6_auto cX6_auto 2 (some .int) ∈ pm_TB := pm_TB_of (List.mem_of_getElem? (i := 529) rfl) rfl
set_option maxRecDepth 20000 in
theorem cm_X6_undo : Cond.code yX6_undo cX6_undo 1 (some .int) ∈ pm_TB := pm_TB_of (List.mem_of_getElem? (i := 545) rfl) rfl
set_option maxRecDepth 20000 in
theorem cm_X6_redo : Cond.code yX6_redo cX6_redo 1 (some .int) ∈ pm_TB := pm_TB_of (List.mem_of_getElem? (i := 562) rfl) rfl
set_option maxRecDepth 20000 in
theorem cm_X6_count : Cond.code yX6_count cX6_count 2 (some .int) ∈ pm_TB := pm_TB_of (List.mem_of_getElem? (i := 570) rfl) rfl
set_option maxRecDepth 20000 in
theorem cm_X6_card : Cond.code yX6_card cX6_card 3 (some .int) ∈ pm_TB := pm_TB_of (List.mem_of_getElem? (i := 605) rfl) rfl
set_option maxRecDepth 20000 in
theorem cm_X6_cell : Cond.code yX6_cell cX6_cell 2 (some .int) ∈ pm_TB := pm_TB_of (List.mem_of_getElem? (i := 614) rfl) rfl
set_option maxRecDepth 20000 in
theorem cm_X6_house : Cond.code yX6_house cX6_house 2 (some .int) ∈ pm_TB := pm_TB_of (List.mem_of_getElem? (i := 618) rfl) rfl
set_option maxRecDepth 20000 in
theorem cm_X6_lets : Cond.code yX6_lets cX6_lets 4 (some .int) ∈ pm_TB := pm_TB_of (List.mem_of_getElem? (i := 622) rfl) rfl
set_option maxRecDepth 20000 in
theorem cm_X6_solve : Cond.code yX6_solve cX6_solve 3 (some .int) ∈ pm_TB := pm_TB_of (List.mem_of_getElem? (i := 636) rfl) rfl
set_option maxRecDepth 20000 in
theorem cm_X6_plan : Cond.code yX6_plan cX6_plan 3 (some .int) ∈ pm_TB := pm_TB_of (List.mem_of_getElem? (i := 695) rfl) rfl
set_option maxRecDepth 20000 in
theorem cm_X6_needs : Cond.code yX6_needs cX6_needs 4 (some .int) ∈ pm_TB := pm_TB_of (List.mem_of_getElem? (i := 711) rfl) rfl
set_option maxRecDepth 20000 in
theorem cm_X6_form : Cond.code yX6_form cX6_form 3 (some .int) ∈ pm_TB := pm_TB_of (List.mem_of_getElem? (i := 715) rfl) rfl
set_option maxRecDepth 20000 in
theorem cm_X6_put : Cond.code yX6_put cX6_put 5 (some .int) ∈ pm_TB := pm_TB_of (List.mem_of_getElem? (i := 728) rfl) rfl
set_option maxRecDepth 20000 in
theorem cm_X6_forge : Cond.code yX6_forge cX6_forge 5 (some .int) ∈ pm_TB := pm_TB_of (List.mem_of_getElem? (i := 746) rfl) rfl
set_option maxRecDepth 20000 in
theorem cm_X6_status : Cond.code yX6_status cX6_status 1 (some .int) ∈ pm_TB := pm_TB_of (List.mem_of_getElem? (i := 775) rfl) rfl
set_option maxRecDepth 20000 in
theorem cm_X6_isWithin : Cond.code yX6_isWithin cX6_isWithin 3 (some .boolean) ∈ pm_TB := pm_TB_of (List.mem_of_getElem? (i := 406) rfl) rfl
set_option maxRecDepth 20000 in
theorem cm_X6_isColumn : Cond.code yX6_isColumn cX6_isColumn 2 (some .boolean) ∈ pm_TB := pm_TB_of (List.mem_of_getElem? (i := 415) rfl) rfl
set_option maxRecDepth 20000 in
theorem cm_X6_allLaid : Cond.code yX6_allLaid cX6_allLaid 1 (some .boolean) ∈ pm_TB := pm_TB_of (List.mem_of_getElem? (i := 453) rfl) rfl
set_option maxRecDepth 20000 in
theorem cm_X6_emptyTable : Cond.code yX6_emptyTable cX6_emptyTable 1 none ∈ pm_TB := pm_TB_of (List.mem_of_getElem? (i := 328) rfl) rfl
set_option maxRecDepth 20000 in
theorem cm_X6_fill : Cond.code yX6_fill cX6_fill 4 none ∈ pm_TB := pm_TB_of (List.mem_of_getElem? (i := 736) rfl) rfl
set_option maxRecDepth 20000 in
theorem cm_X6_refuse : Cond.code yX6_refuse cX6_refuse 2 (some .int) ∈ pm_TB := pm_TB_of (List.mem_of_getElem? (i := 732) rfl) rfl
set_option maxRecDepth 20000 in
theorem cm_X6_refusalOf : Cond.code yX6_refusalOf cX6_refusalOf 3 (some .int) ∈ pm_TB := pm_TB_of (List.mem_of_getElem? (i := 757) rfl) rfl
set_option maxRecDepth 20000 in
theorem cm_X6_kindTakenFor : Cond.code yX6_kindTakenFor cX6_kindTakenFor 5 (some .int) ∈ pm_TB := pm_TB_of (List.mem_of_getElem? (i := 753) rfl) rfl
set_option maxRecDepth 20000 in
theorem cm_X6_numberTakenFrom : Cond.code yX6_numberTakenFrom cX6_numberTakenFrom 5 (some .int) ∈ pm_TB := pm_TB_of (List.mem_of_getElem? (i := 763) rfl) rfl
set_option maxRecDepth 20000 in
theorem cm_X6_sumOfCopy : Cond.code yX6_sumOfCopy cX6_sumOfCopy 6 (some .int) ∈ pm_TB := pm_TB_of (List.mem_of_getElem? (i := 767) rfl) rfl
set_option maxRecDepth 20000 in
theorem cm_X6_kindInSuitedRow : Cond.code yX6_kindInSuitedRow cX6_kindInSuitedRow 3 (some .int) ∈ pm_TB := pm_TB_of (List.mem_of_getElem? (i := 771) rfl) rfl
set_option maxRecDepth 20000 in
theorem cm_X7_in : Cond.code yX7_in cX7_in 3 (some .boolean) ∈ pm_TB := pm_TB_of (List.mem_of_getElem? (i := 918) rfl) rfl
set_option maxRecDepth 20000 in
theorem cm_X7_cards : Cond.code yX7_cards cX7_cards 1 (some .int) ∈ pm_TB := pm_TB_of (List.mem_of_getElem? (i := 926) rfl) rfl
set_option maxRecDepth 20000 in
theorem cm_X7_isCode : Cond.code yX7_isCode cX7_isCode 2 (some .boolean) ∈ pm_TB := pm_TB_of (List.mem_of_getElem? (i := 943) rfl) rfl
set_option maxRecDepth 20000 in
theorem cm_X7_empties : Cond.code yX7_empties cX7_empties 2 none ∈ pm_TB := pm_TB_of (List.mem_of_getElem? (i := 922) rfl) rfl
set_option maxRecDepth 20000 in
theorem cm_X7_begin : Cond.code yX7_begin cX7_begin 6 (some .int) ∈ pm_TB := pm_TB_of (List.mem_of_getElem? (i := 915) rfl) rfl
set_option maxRecDepth 20000 in
theorem cm_X7_lay : Cond.code yX7_lay cX7_lay 5 (some .int) ∈ pm_TB := pm_TB_of (List.mem_of_getElem? (i := 930) rfl) rfl
set_option maxRecDepth 20000 in
theorem cm_X7_make : Cond.code yX7_make cX7_make 8 (some .int) ∈ pm_TB := pm_TB_of (List.mem_of_getElem? (i := 934) rfl) rfl
set_option maxRecDepth 20000 in
theorem cm_X7_isLet : Cond.code yX7_isLet cX7_isLet 5 (some .boolean) ∈ pm_TB := pm_TB_of (List.mem_of_getElem? (i := 947) rfl) rfl
set_option maxRecDepth 20000 in
theorem cm_X7_lets : Cond.code yX7_lets cX7_lets 3 (some .int) ∈ pm_TB := pm_TB_of (List.mem_of_getElem? (i := 939) rfl) rfl
set_option maxRecDepth 20000 in
theorem cm_X7_tryStand : Cond.code yX7_tryStand cX7_tryStand 2 none ∈ pm_TB := pm_TB_of (List.mem_of_getElem? (i := 975) rfl) rfl
set_option maxRecDepth 20000 in
theorem cm_X7_keepsTried : Cond.code yX7_keepsTried cX7_keepsTried 2 none ∈ pm_TB := pm_TB_of (List.mem_of_getElem? (i := 1003) rfl) rfl
set_option maxRecDepth 20000 in
theorem cm_X7_lastOf : Cond.code yX7_lastOf cX7_lastOf 2 (some .int) ∈ pm_TB := pm_TB_of (List.mem_of_getElem? (i := 983) rfl) rfl
set_option maxRecDepth 20000 in
theorem cm_X7_freeCell : Cond.code yX7_freeCell cX7_freeCell 2 (some .int) ∈ pm_TB := pm_TB_of (List.mem_of_getElem? (i := 987) rfl) rfl
set_option maxRecDepth 20000 in
theorem cm_X7_whyNot : Cond.code yX7_whyNot cX7_whyNot 4 (some .int) ∈ pm_TB := pm_TB_of (List.mem_of_getElem? (i := 979) rfl) rfl
set_option maxRecDepth 20000 in
theorem cm_X7_doMove : Cond.code yX7_doMove cX7_doMove 4 none ∈ pm_TB := pm_TB_of (List.mem_of_getElem? (i := 991) rfl) rfl
set_option maxRecDepth 20000 in
theorem cm_X7_isMove : Cond.code yX7_isMove cX7_isMove 4 (some .boolean) ∈ pm_TB := pm_TB_of (List.mem_of_getElem? (i := 971) rfl) rfl
set_option maxRecDepth 20000 in
theorem cm_X7_saves : Cond.code yX7_saves cX7_saves 3 none ∈ pm_TB := pm_TB_of (List.mem_of_getElem? (i := 955) rfl) rfl
set_option maxRecDepth 20000 in
theorem cm_X7_brings : Cond.code yX7_brings cX7_brings 3 none ∈ pm_TB := pm_TB_of (List.mem_of_getElem? (i := 959) rfl) rfl
set_option maxRecDepth 20000 in
theorem cm_X7_moves : Cond.code yX7_moves cX7_moves 4 none ∈ pm_TB := pm_TB_of (List.mem_of_getElem? (i := 999) rfl) rfl
set_option maxRecDepth 20000 in
theorem cm_X7_done : Cond.code yX7_done cX7_done 2 none ∈ pm_TB := pm_TB_of (List.mem_of_getElem? (i := 995) rfl) rfl
set_option maxRecDepth 20000 in
theorem cm_X7_undo : Cond.code yX7_undo cX7_undo 1 (some .int) ∈ pm_TB := pm_TB_of (List.mem_of_getElem? (i := 951) rfl) rfl
set_option maxRecDepth 20000 in
theorem cm_X7_redo : Cond.code yX7_redo cX7_redo 1 (some .int) ∈ pm_TB := pm_TB_of (List.mem_of_getElem? (i := 963) rfl) rfl
set_option maxRecDepth 20000 in
theorem cm_X7_move : Cond.code yX7_move cX7_move 3 (some .int) ∈ pm_TB := pm_TB_of (List.mem_of_getElem? (i := 967) rfl) rfl
set_option maxRecDepth 20000 in
theorem cm_X7_why : Cond.code yX7_why cX7_why 1 (some .int) ∈ pm_TB := pm_TB_of (List.mem_of_getElem? (i := 1007) rfl) rfl
set_option maxRecDepth 20000 in
theorem cm_X7_carry : Cond.code yX7_carry cX7_carry 7 (some .int) ∈ pm_TB := pm_TB_of (List.mem_of_getElem? (i := 1011) rfl) rfl
set_option maxRecDepth 20000 in
theorem cm_X7_isSafe : Cond.code yX7_isSafe cX7_isSafe 3 (some .boolean) ∈ pm_TB := pm_TB_of (List.mem_of_getElem? (i := 1019) rfl) rfl
set_option maxRecDepth 20000 in
theorem cm_X7_auto : Cond.code yX7_auto cX7_auto 4 (some .int) ∈ pm_TB := pm_TB_of (List.mem_of_getElem? (i := 1015) rfl) rfl
set_option maxRecDepth 20000 in
theorem cm_X7_count : Cond.code yX7_count cX7_count 5 (some .int) ∈ pm_TB := pm_TB_of (List.mem_of_getElem? (i := 1023) rfl) rfl
set_option maxRecDepth 20000 in
theorem cm_X7_isBuried : Cond.code yX7_isBuried cX7_isBuried 6 (some .boolean) ∈ pm_TB := pm_TB_of (List.mem_of_getElem? (i := 1027) rfl) rfl
set_option maxRecDepth 20000 in
theorem cm_X7_card : Cond.code yX7_card cX7_card 3 (some .int) ∈ pm_TB := pm_TB_of (List.mem_of_getElem? (i := 1031) rfl) rfl
set_option maxRecDepth 20000 in
theorem cm_X7_cell : Cond.code yX7_cell cX7_cell 2 (some .int) ∈ pm_TB := pm_TB_of (List.mem_of_getElem? (i := 1035) rfl) rfl
set_option maxRecDepth 20000 in
theorem cm_X7_house : Cond.code yX7_house cX7_house 2 (some .int) ∈ pm_TB := pm_TB_of (List.mem_of_getElem? (i := 1039) rfl) rfl
set_option maxRecDepth 20000 in
theorem cm_X7_isAhead : Cond.code yX7_isAhead cX7_isAhead 4 (some .boolean) ∈ pm_TB := pm_TB_of (List.mem_of_getElem? (i := 1059) rfl) rfl
set_option maxRecDepth 20000 in
theorem cm_X7_orders : Cond.code yX7_orders cX7_orders 3 none ∈ pm_TB := pm_TB_of (List.mem_of_getElem? (i := 1055) rfl) rfl
set_option maxRecDepth 20000 in
theorem cm_X7_makeKey : Cond.code yX7_makeKey cX7_makeKey 5 none ∈ pm_TB := pm_TB_of (List.mem_of_getElem? (i := 1051) rfl) rfl
set_option maxRecDepth 20000 in
theorem cm_X7_isDone : Cond.code yX7_isDone cX7_isDone 1 (some .boolean) ∈ pm_TB := pm_TB_of (List.mem_of_getElem? (i := 1063) rfl) rfl
set_option maxRecDepth 20000 in
theorem cm_X7_place : Cond.code yX7_place cX7_place 3 (some .int) ∈ pm_TB := pm_TB_of (List.mem_of_getElem? (i := 1071) rfl) rfl
set_option maxRecDepth 20000 in
theorem cm_X7_isKey : Cond.code yX7_isKey cX7_isKey 3 (some .boolean) ∈ pm_TB := pm_TB_of (List.mem_of_getElem? (i := 1075) rfl) rfl
set_option maxRecDepth 20000 in
theorem cm_X7_trying : Cond.code yX7_trying cX7_trying 6 none ∈ pm_TB := pm_TB_of (List.mem_of_getElem? (i := 1079) rfl) rfl
set_option maxRecDepth 20000 in
theorem cm_X7_search : Cond.code yX7_search cX7_search 10 (some .int) ∈ pm_TB := pm_TB_of (List.mem_of_getElem? (i := 1047) rfl) rfl
set_option maxRecDepth 20000 in
theorem cm_X7_stores : Cond.code yX7_stores cX7_stores 3 none ∈ pm_TB := pm_TB_of (List.mem_of_getElem? (i := 1067) rfl) rfl
set_option maxRecDepth 20000 in
theorem cm_X7_marks : Cond.code yX7_marks cX7_marks 4 none ∈ pm_TB := pm_TB_of (List.mem_of_getElem? (i := 1087) rfl) rfl
set_option maxRecDepth 20000 in
theorem cm_X7_leadsOn : Cond.code yX7_leadsOn cX7_leadsOn 4 (some .boolean) ∈ pm_TB := pm_TB_of (List.mem_of_getElem? (i := 1091) rfl) rfl
set_option maxRecDepth 20000 in
theorem cm_X7_plans : Cond.code yX7_plans cX7_plans 4 none ∈ pm_TB := pm_TB_of (List.mem_of_getElem? (i := 1083) rfl) rfl
set_option maxRecDepth 20000 in
theorem cm_X7_remember : Cond.code yX7_remember cX7_remember 2 none ∈ pm_TB := pm_TB_of (List.mem_of_getElem? (i := 1095) rfl) rfl
set_option maxRecDepth 20000 in
theorem cm_X7_recall : Cond.code yX7_recall cX7_recall 2 none ∈ pm_TB := pm_TB_of (List.mem_of_getElem? (i := 1099) rfl) rfl
set_option maxRecDepth 20000 in
theorem cm_X7_solve : Cond.code yX7_solve cX7_solve 3 (some .int) ∈ pm_TB := pm_TB_of (List.mem_of_getElem? (i := 1043) rfl) rfl
set_option maxRecDepth 20000 in
theorem cm_X7_plan : Cond.code yX7_plan cX7_plan 3 (some .int) ∈ pm_TB := pm_TB_of (List.mem_of_getElem? (i := 1103) rfl) rfl
set_option maxRecDepth 20000 in
theorem cm_X7_needs : Cond.code yX7_needs cX7_needs 4 (some .int) ∈ pm_TB := pm_TB_of (List.mem_of_getElem? (i := 1107) rfl) rfl
set_option maxRecDepth 20000 in
theorem cm_X7_tells : Cond.code yX7_tells cX7_tells 5 (some .int) ∈ pm_TB := pm_TB_of (List.mem_of_getElem? (i := 1115) rfl) rfl
set_option maxRecDepth 20000 in
theorem cm_X7_form : Cond.code yX7_form cX7_form 3 (some .int) ∈ pm_TB := pm_TB_of (List.mem_of_getElem? (i := 1111) rfl) rfl
set_option maxRecDepth 20000 in
theorem cm_X7_refused : Cond.code yX7_refused cX7_refused 2 (some .int) ∈ pm_TB := pm_TB_of (List.mem_of_getElem? (i := 1123) rfl) rfl
set_option maxRecDepth 20000 in
theorem cm_X7_fine : Cond.code yX7_fine cX7_fine 2 (some .int) ∈ pm_TB := pm_TB_of (List.mem_of_getElem? (i := 1127) rfl) rfl
set_option maxRecDepth 20000 in
theorem cm_X7_put : Cond.code yX7_put cX7_put 7 (some .int) ∈ pm_TB := pm_TB_of (List.mem_of_getElem? (i := 1119) rfl) rfl
set_option maxRecDepth 20000 in
theorem cm_X7_forge : Cond.code yX7_forge cX7_forge 8 (some .int) ∈ pm_TB := pm_TB_of (List.mem_of_getElem? (i := 1131) rfl) rfl
set_option maxRecDepth 20000 in
theorem cm_X7_status : Cond.code yX7_status cX7_status 1 (some .int) ∈ pm_TB := pm_TB_of (List.mem_of_getElem? (i := 1135) rfl) rfl
set_option maxRecDepth 20000 in
theorem cm_J6_bitCount_0f7a4 : Cond.code yJ6_bitCount_0f7a4 cJ6_bitCount_0f7a4 1 (some .int) ∈ pm_TB := pm_TB_of (List.mem_of_getElem? (i := 428) rfl) rfl
set_option maxRecDepth 20000 in
theorem cm_J9_floorMod_7cf53 : Cond.code yJ9_floorMod_7cf53 cJ9_floorMod_7cf53 3 (some .int) ∈ pm_TB := pm_TB_of (List.mem_of_getElem? (i := 749) rfl) rfl
set_option maxRecDepth 20000 in
theorem cm_J9_max_7cf53 : Cond.code yJ9_max_7cf53 cJ9_max_7cf53 2 (some .int) ∈ pm_TB := pm_TB_of (List.mem_of_getElem? (i := 361) rfl) rfl
set_option maxRecDepth 20000 in
theorem cm_J9_min_7cf53 : Cond.code yJ9_min_7cf53 cJ9_min_7cf53 2 (some .int) ∈ pm_TB := pm_TB_of (List.mem_of_getElem? (i := 364) rfl) rfl
set_option maxRecDepth 20000 in
theorem cm_J7_fill_d0a16 : Cond.code yJ7_fill_d0a16 cJ7_fill_d0a16 5 none ∈ pm_TB := pm_TB_of (List.mem_of_getElem? (i := 335) rfl) rfl
set_option maxRecDepth 20000 in
theorem cm_J7_fill_53178 : Cond.code yJ7_fill_53178 cJ7_fill_53178 4 none ∈ pm_TB := pm_TB_of (List.mem_of_getElem? (i := 338) rfl) rfl
set_option maxRecDepth 20000 in
theorem cm_J7_fill_fb410 : Cond.code yJ7_fill_fb410 cJ7_fill_fb410 4 none ∈ pm_TB := pm_TB_of (List.mem_of_getElem? (i := 648) rfl) rfl
end
section
/-! numbers: nI, lN; the rows that carry a bound take it by omega -/
theorem ni_eq0 {a : Nat} (h : a < 2 ^ 31) : (nI a = 0) = (a = 0) := propext (by rw [← nI_0]; exact nI_eq h (by omega))
theorem ni_eq1 {a : Nat} (h : a < 2 ^ 31) : (nI a = 1) = (a = 1) := propext (by rw [show (1 : Int32) = nI 1 from rfl]; exact nI_eq h (by omega))
theorem ni_lt0 {a : Nat} (h : a < 2 ^ 31) : (nI a < 0) = False := propext (by rw [← nI_0, nI_ltI h (by omega)]; simp)
theorem ni_0le {a : Nat} (h : a < 2 ^ 31) : (0 ≤ nI a) = True := propext (by rw [← nI_0, nI_leI (by omega) h]; simp)
theorem ni_0lt {a : Nat} (h : a < 2 ^ 31) : (0 < nI a) = (0 < a) := propext (by rw [← nI_0, nI_ltI (by omega) h])
theorem ni_le0 {a : Nat} (h : a < 2 ^ 31) : (nI a ≤ 0) = (a = 0) := propext (by rw [← nI_0, nI_leI h (by omega)]; omega)
theorem ni_lt {a b : Nat} (ha : a < 2 ^ 31) (hb : b < 2 ^ 31) : (nI a < nI b) = (a < b) := propext (nI_ltI ha hb)
theorem ni_le {a b : Nat} (ha : a < 2 ^ 31) (hb : b < 2 ^ 31) : (nI a ≤ nI b) = (a ≤ b) := propext (nI_leI ha hb)
theorem ni_eq {a b : Nat} (ha : a < 2 ^ 31) (hb : b < 2 ^ 31) : (nI a = nI b) = (a = b) := propext (nI_eq ha hb)
theorem ni_in {a n : Nat} (h : a < 2 ^ 31) : vp_in (nI a) n = (a < n) := propext (by rw [vp_in_iff, nI_toInt h]; omega)
theorem ni_cl {a : Nat} (h : a < 2 ^ 31) : (nI a).toNatClampNeg = a := nI_clamp h
theorem ni_add (a b : Nat) : nI a + nI b = nI (a + b) := nI_add a b
theorem ni_mul (a b : Nat) : nI a * nI b = nI (a * b) := pk_mul a b
theorem ni_sub {a b : Nat} (h : b ≤ a) : nI a - nI b = nI (a - b) := pk_sub h
theorem ni_div {a d : Nat} (ha : a < 2 ^ 31) (h0 : 0 < d) (hd : d < 2 ^ 31) : nI a / nI d = nI (a / d) := pk_div ha h0 hd
theorem ni_rem {a d : Nat} (ha : a < 2 ^ 31) (h0 : 0 < d) (hd : d < 2 ^ 31) : nI a - nI a / nI d * nI d = nI (a % d) := pk_rem ha h0 hd
theorem ni_ne0 {a : Nat} (h : a < 2 ^ 31) (h0 : 0 < a) : (nI a = 0) = False := by rw [ni_eq0 h]; exact propext ⟨fun x => by omega, False.elim⟩
theorem ni_neg_lt {a b : Nat} (ha : a < 2 ^ 31) (hb : b < 2 ^ 31) : (nI b < -nI a) = False := propext (by
  rw [Int32.lt_iff_toInt_lt, sb_negT ha, nI_toInt hb]; constructor <;> intro h <;> first | omega | exact h.elim)
theorem ni_eq_neg {a b : Nat} (ha : a < 2 ^ 31) (hb : b < 2 ^ 31) (h0 : 0 < a) : (nI b = -nI a) = False := propext (by
  rw [← Int32.toInt_inj, sb_negT ha, nI_toInt hb]; constructor <;> intro h <;> first | omega | exact h.elim)
theorem ni_neg_eq {a b : Nat} (ha : a < 2 ^ 31) (hb : b < 2 ^ 31) (h0 : 0 < a) : (-nI a = nI b) = False := by rw [show (-nI a = nI b) = (nI b = -nI a) from propext eq_comm, ni_eq_neg ha hb h0]
theorem ni_0 : nI 0 = 0 := rfl
theorem ni_1 : nI 1 = 1 := rfl
/-- a number between two others -/
theorem ni_ex {x : Int32} {a b : Nat} (ha : a < 2 ^ 31) (hb : b < 2 ^ 31) (h1 : nI a ≤ x) (h2 : x ≤ nI b) : ∃ j, x = nI j ∧ a ≤ j ∧ j ≤ b := by
  have h0 : ¬ x < 0 := by
    rw [Int32.lt_iff_toInt_lt]
    rw [Int32.le_iff_toInt_le, nI_toInt ha] at h1
    show ¬ x.toInt < 0
    omega
  obtain ⟨j, hj, rfl⟩ := nI_of h0
  exact ⟨j, rfl, (nI_leI ha hj).mp h1, (nI_leI hj hb).mp h2⟩
/-- a truth as an int -/
def pb (b : Bool) : Int32 := if b then 1 else 0
theorem pb_t : pb true = 1 := rfl
theorem pb_f : pb false = 0 := rfl
theorem pb_eq0 {b : Bool} : (pb b = 0) = (b = false) := propext (by cases b <;> decide)
theorem pb_eq1 {b : Bool} : (pb b = 1) = (b = true) := propext (by cases b <;> decide)
theorem pb_01 {b : Bool} : (pb b = 0 ∨ pb b = 1) = True := propext (by cases b <;> decide)
def wi (n a b : Int32) : Bool := !decide (n < a) && !decide (b < n)
theorem wi_n {x a b : Nat} (hx : x < 2 ^ 31) (ha : a < 2 ^ 31) (hb : b < 2 ^ 31) : wi (nI x) (nI a) (nI b) = (decide (a ≤ x) && decide (x ≤ b)) := by
  simp only [wi, ni_lt hx ha, ni_lt hb hx, ← decide_not, Nat.not_lt]
theorem wi_ex {x : Int32} {a b : Nat} (ha : a < 2 ^ 31) (hb : b < 2 ^ 31) (h : wi x (nI a) (nI b) = true) : ∃ j, x = nI j ∧ a ≤ j ∧ j ≤ b := by
  simp only [wi, Bool.and_eq_true, Bool.not_eq_true', decide_eq_false_iff_not, Int32.not_lt] at h
  exact ni_ex ha hb h.1 h.2
theorem wi_no {x : Int32} {a b : Nat} (ha : a < 2 ^ 31) (hb : b < 2 ^ 31) (h : wi x (nI a) (nI b) = false) {j : Nat} (h1 : a ≤ j) (h2 : j ≤ b) : x ≠ nI j := by
  rintro rfl
  rw [wi_n (by omega) ha hb] at h
  simp at h
  omega
-- memory
theorem me_1 {M : pm_M} {q i a j : Nat} {v : Int32} : (pm_set M q i v).1 a j = if a = q ∧ j = i then v else M.1 a j := rfl
theorem me_2 {M : pm_M} {q i : Nat} {v : Int32} : (pm_set M q i v).2 = M.2 := rfl
theorem me_3 {M : pm_M} {q i : Nat} {v : Int64} : (pm_setL M q i v).1 = M.1 := rfl
theorem me_4 {M : pm_M} {q i a j : Nat} {v : Int64} : (pm_setL M q i v).2 a j = if a = q ∧ j = i then v else M.2 a j := rfl
/-- nothing but these places has changed -/
def pm_fr (ps : List Nat) (M M' : pm_M) : Prop := ∀ q, q ∉ ps → M'.1 q = M.1 q ∧ M'.2 q = M.2 q
theorem pm_fr.rfl {ps : List Nat} {M : pm_M} : pm_fr ps M M := fun _ _ => ⟨Eq.refl _, Eq.refl _⟩
theorem pm_fr.trans {ps : List Nat} {M M' M'' : pm_M} (h : pm_fr ps M M') (h' : pm_fr ps M' M'') : pm_fr ps M M'' := fun q hq => ⟨(h' q hq).1.trans (h q hq).1, (h' q hq).2.trans (h q hq).2⟩
theorem pm_fr.mono {ps qs : List Nat} {M M' : pm_M} (h : pm_fr ps M M') (hs : ∀ q ∈ ps, q ∈ qs) : pm_fr qs M M' := fun q hq => h q (fun x => hq (hs q x))
theorem pm_fr.set {ps : List Nat} {M M' : pm_M} {q i : Nat} {v : Int32} (h : pm_fr ps M M') (hq : q ∈ ps) : pm_fr ps M (pm_set M' q i v) := fun a ha => by
  have hn : a ≠ q := fun e => ha (e ▸ hq)
  refine ⟨?_, (h a ha).2⟩
  rw [← (h a ha).1]; funext j; simp [pm_set, hn]
theorem pm_fr.setL {ps : List Nat} {M M' : pm_M} {q i : Nat} {v : Int64} (h : pm_fr ps M M') (hq : q ∈ ps) : pm_fr ps M (pm_setL M' q i v) := fun a ha => by
  have hn : a ≠ q := fun e => ha (e ▸ hq)
  refine ⟨(h a ha).1, ?_⟩
  rw [← (h a ha).2]; funext j; simp [pm_setL, hn]
theorem pm_fr.i {ps : List Nat} {M M' : pm_M} (h : pm_fr ps M M') {q : Nat} (hq : q ∉ ps) (j : Nat) : M'.1 q j = M.1 q j := by rw [(h q hq).1]
theorem pm_fr.l {ps : List Nat} {M M' : pm_M} (h : pm_fr ps M M') {q : Nat} (hq : q ∉ ps) (j : Nat) : M'.2 q j = M.2 q j := by rw [(h q hq).2]
theorem pm_f2 : ((2 : Fin 4) : Nat) = 2 := rfl
theorem pm_f3 : ((3 : Fin 4) : Nat) = 3 := rfl
theorem ni_a1 {a : Nat} (h : a < 2 ^ 32) : nI a &&& nI 1 = nI (a % 2) := pk_andN h 1 (by decide)
theorem ni_a3 {a : Nat} (h : a < 2 ^ 32) : nI a &&& nI 3 = nI (a % 4) := pk_andN h 2 (by decide)
theorem ni_a7 {a : Nat} (h : a < 2 ^ 32) : nI a &&& nI 7 = nI (a % 8) := pk_andN h 3 (by decide)
theorem ni_a15 {a : Nat} (h : a < 2 ^ 32) : nI a &&& nI 15 = nI (a % 16) := pk_andN h 4 (by decide)
end
section
/-! ===== lN n to 2^64: shifts, and, or, masks, one bit ===== -/
theorem wb_tb (n : Nat) : (lN n).toBitVec = BitVec.ofNat 64 n := rfl
theorem wb_inj {a b : Int64} (h : a.toBitVec = b.toBitVec) : a = b := Int64.toBitVec_inj.mp h
theorem wb_tn {n : Nat} (h : n < 2 ^ 64) : (lN n).toBitVec.toNat = n := by rw [wb_tb, BitVec.toNat_ofNat, Nat.mod_eq_of_lt h]
theorem wb_of (x : Int64) : ∃ n, n < 2 ^ 64 ∧ x = lN n := ⟨x.toBitVec.toNat, x.toBitVec.isLt, wb_inj (by rw [wb_tb]; simp)⟩
theorem wb_of32 (x : Int32) : ∃ n, n < 2 ^ 32 ∧ x = nI n := ⟨x.toBitVec.toNat, x.toBitVec.isLt, Int32.toBitVec_inj.mp (by show _ = BitVec.ofNat 32 _; simp)⟩
theorem wb_c : ∀ k, k < 64 → ((nI k).toInt64 &&& 63) = lN k := by decide +kernel
theorem wb_cu : ∀ k, k < 64 → ((nI k).toInt64.toUInt64 &&& Int64.toUInt64 63) = UInt64.ofNat k := by decide +kernel
theorem wb_sm : ∀ k, k < 64 → (BitVec.ofNat 64 k).smod 64 = BitVec.ofNat 64 k := by decide +kernel
theorem wb_pw {a b : Nat} (h : a ≤ b) : 2 ^ b = 2 ^ a * 2 ^ (b - a) := by rw [← Nat.pow_add]; congr 1; omega
theorem wb_lt2 {a b : Nat} (h : a < b) : 2 ^ a < 2 ^ b := Nat.pow_lt_pow_right (by decide) h
theorem wb_mod (n : Nat) : lN n = lN (n % 2 ^ 64) := wb_inj (by rw [wb_tb, wb_tb]; apply BitVec.eq_of_toNat_eq; rw [BitVec.toNat_ofNat, BitVec.toNat_ofNat, Nat.mod_mod])
theorem wb_shr {n k : Nat} (hn : n < 2 ^ 64) (hk : k < 64) : ((lN n).toUInt64 >>> ((nI k).toInt64.toUInt64 &&& Int64.toUInt64 63)).toInt64 = lN (n / 2 ^ k) := by
  rw [wb_cu k hk]
  apply wb_inj
  apply BitVec.eq_of_toNat_eq
  show ((lN n).toUInt64 >>> UInt64.ofNat k).toNat = (BitVec.ofNat 64 _).toNat
  have h1 : (UInt64.ofNat k).toNat = k := by
    show (BitVec.ofNat 64 k).toNat = k
    rw [BitVec.toNat_ofNat, Nat.mod_eq_of_lt (by omega)]
  have h2 : (lN n).toUInt64.toNat = n := wb_tn hn
  rw [UInt64.toNat_shiftRight, h1, h2, Nat.mod_eq_of_lt hk, Nat.shiftRight_eq_div_pow, BitVec.toNat_ofNat, Nat.mod_eq_of_lt (Nat.lt_of_le_of_lt (Nat.div_le_self _ _) hn)]
theorem wb_shl (n : Nat) {k : Nat} (hk : k < 64) : lN n <<< ((nI k).toInt64 &&& 63) = lN (n * 2 ^ k) := by
  rw [wb_c k hk]
  apply wb_inj
  rw [Int64.toBitVec_shiftLeft, wb_tb, wb_tb, wb_tb, wb_sm k hk]
  apply BitVec.eq_of_toNat_eq
  rw [BitVec.shiftLeft_eq', BitVec.toNat_shiftLeft, BitVec.toNat_ofNat, BitVec.toNat_ofNat, BitVec.toNat_ofNat, Nat.mod_eq_of_lt (show k < 2 ^ 64 by omega), Nat.shiftLeft_eq, Nat.mul_mod, Nat.mod_mod, ← Nat.mul_mod]
theorem wb_and {a b : Nat} (ha : a < 2 ^ 64) (hb : b < 2 ^ 64) : lN a &&& lN b = lN (a &&& b) := by
  apply wb_inj
  rw [Int64.toBitVec_and, wb_tb, wb_tb, wb_tb]
  apply BitVec.eq_of_toNat_eq
  rw [BitVec.toNat_and, BitVec.toNat_ofNat, BitVec.toNat_ofNat, BitVec.toNat_ofNat, Nat.mod_eq_of_lt ha, Nat.mod_eq_of_lt hb, Nat.mod_eq_of_lt (Nat.and_lt_two_pow _ hb)]
theorem wb_or {a b : Nat} (ha : a < 2 ^ 64) (hb : b < 2 ^ 64) : lN a ||| lN b = lN (a ||| b) := by
  apply wb_inj
  rw [Int64.toBitVec_or, wb_tb, wb_tb, wb_tb]
  apply BitVec.eq_of_toNat_eq
  rw [BitVec.toNat_or, BitVec.toNat_ofNat, BitVec.toNat_ofNat, BitVec.toNat_ofNat, Nat.mod_eq_of_lt ha, Nat.mod_eq_of_lt hb, Nat.mod_eq_of_lt (Nat.or_lt_two_pow ha hb)]
theorem wb_mask {n k : Nat} (hn : n < 2 ^ 64) (hk : k < 64) : lN n &&& lN (2 ^ k - 1) = lN (n % 2 ^ k) := by
  rw [wb_and hn (by have := wb_lt2 hk; omega), Nat.and_two_pow_sub_one_eq_mod]
theorem wb_a1 {n : Nat} (hn : n < 2 ^ 64) : lN n &&& 1 = lN (n % 2) := wb_mask (k := 1) hn (by decide)
theorem wb_bit {n k : Nat} (hn : n < 2 ^ 64) (hk : k < 64) : ((lN n).toUInt64 >>> ((nI k).toInt64.toUInt64 &&& Int64.toUInt64 63)).toInt64 &&& 1 = lN (n / 2 ^ k % 2) := by
  rw [wb_shr hn hk, wb_a1 (Nat.lt_of_le_of_lt (Nat.div_le_self _ _) hn)]
theorem wb_xor {q k : Nat} (hk : k < 63) (h : 2 ^ k ≤ q) (h2 : q < 2 ^ (k + 1)) : lN q ^^^ lN (2 ^ k) = lN (q - 2 ^ k) := by
  obtain ⟨r, rfl⟩ : ∃ r, q = 2 ^ k + r := ⟨q - 2 ^ k, by omega⟩
  have hr : r < 2 ^ k := by rw [Nat.pow_succ] at h2; omega
  have hx : (2 ^ k + r) ^^^ 2 ^ k = r := by
    apply Nat.eq_of_testBit_eq
    intro i
    rw [Nat.testBit_xor, Nat.testBit_two_pow]
    rcases Nat.lt_trichotomy i k with h | h | h
    · rw [Nat.testBit_two_pow_add_gt h]
      simp [show ¬ k = i by omega]
    · subst h
      rw [Nat.testBit_two_pow_add_eq]
      simp
    · have a1 : 2 ^ (k + 1) ≤ 2 ^ i := Nat.pow_le_pow_right (by decide) h
      rw [Nat.testBit_lt_two_pow (show 2 ^ k + r < 2 ^ i by omega), Nat.testBit_lt_two_pow (show r < 2 ^ i by omega)]
      simp [show ¬ k = i by omega]
  have b1 := wb_lt2 (show k + 1 < 64 by omega)
  have b2 := wb_lt2 (show k < 64 by omega)
  apply wb_inj
  rw [Int64.toBitVec_xor, wb_tb, wb_tb, wb_tb]
  apply BitVec.eq_of_toNat_eq
  rw [BitVec.toNat_xor, BitVec.toNat_ofNat, BitVec.toNat_ofNat, BitVec.toNat_ofNat, Nat.mod_eq_of_lt (by omega : 2 ^ k + r < 2 ^ 64), Nat.mod_eq_of_lt b2, hx, Nat.add_sub_cancel_left, Nat.mod_eq_of_lt (by omega)]
/-! ===== lN: masks, 'or' of parts that don't overlap is a sum ===== -/
theorem u_tn {n : Nat} (h : n < 2 ^ 64) : (UInt64.ofNat n).toNat = n := Nat.mod_eq_of_lt h
theorem g_and {a b c : Nat} (ha : a < 2 ^ 64) (hb : b < 2 ^ 64) (hc : a &&& b = c) : lN a &&& lN b = lN c := by
  subst hc
  have h : UInt64.ofNat a &&& UInt64.ofNat b = UInt64.ofNat (a &&& b) := UInt64.toNat_inj.mp (by rw [UInt64.toNat_and, u_tn ha, u_tn hb, u_tn (Nat.and_lt_two_pow a hb)])
  have h2 := congrArg UInt64.toInt64 h
  exact h2
theorem g_and1 {a : Nat} (ha : a < 2 ^ 64) : lN a &&& 1 = lN (a % 2) := g_and (b := 1) ha (by decide) (Nat.and_two_pow_sub_one_eq_mod a 1)
theorem g_mask {a s p : Nat} (hp : 2 ^ s = p) (hs : s < 64) (ha : a < 2 ^ 64) : lN a &&& lN (p - 1) = lN (a % p) := by
  subst hp
  have := Nat.pow_lt_pow_right (show 1 < 2 by decide) hs
  exact g_and ha (by omega) (Nat.and_two_pow_sub_one_eq_mod a s)
theorem g_or {k p a b : Nat} (hp : 2 ^ k = p) (ha : a < p) (h : b * p + a < 2 ^ 64) : lN (b * p) ||| lN a = lN (b * p + a) := by
  subst hp
  have h1 : b * 2 ^ k ||| a = b * 2 ^ k + a := by rw [← Nat.shiftLeft_eq, Nat.shiftLeft_add_eq_or_of_lt ha]
  have h3 : UInt64.ofNat (b * 2 ^ k) ||| UInt64.ofNat a = UInt64.ofNat (b * 2 ^ k + a) := UInt64.toNat_inj.mp (by rw [UInt64.toNat_or, u_tn (by omega), u_tn (by omega), u_tn h, h1])
  have h2 := congrArg UInt64.toInt64 h3
  exact h2
theorem g_or' {k p a b : Nat} (hp : 2 ^ k = p) (ha : a < p) (h : a + b * p < 2 ^ 64) : lN a ||| lN (b * p) = lN (a + b * p) := by
  rw [Int64.or_comm, g_or hp ha (by omega), Nat.add_comm]
theorem g_ushr {a k p : Nat} {y : UInt64} (hy : y = UInt64.ofNat k) (hk : k < 64) (hp : 2 ^ k = p) (ha : a < 2 ^ 64) : ((lN a).toUInt64 >>> y).toInt64 = lN (a / p) := by
  subst hy hp
  have h : UInt64.ofNat a >>> UInt64.ofNat k = UInt64.ofNat (a / 2 ^ k) := UInt64.toNat_inj.mp (by rw [UInt64.toNat_shiftRight, u_tn ha, u_tn (by omega), u_tn (Nat.lt_of_le_of_lt (Nat.div_le_self _ _) ha), Nat.mod_eq_of_lt hk, Nat.shiftRight_eq_div_pow])
  have h2 := congrArg UInt64.toInt64 h
  exact h2
theorem g_shl {a k p : Nat} {y : Int64} (hy : y.toBitVec.smod 64 = BitVec.ofNat 64 k) (hk : k < 64) (hp : 2 ^ k = p) (ha : a < 2 ^ 64) : lN a <<< y = lN (a * p) := by
  subst hp
  apply Int64.toBitVec_inj.mp
  rw [Int64.toBitVec_shiftLeft, hy]
  apply BitVec.eq_of_toNat_eq
  have hb : (lN a).toBitVec.toNat = a := Nat.mod_eq_of_lt ha
  have hk' : (BitVec.ofNat 64 k).toNat = k := Nat.mod_eq_of_lt (by omega)
  have h : ((lN a).toBitVec <<< BitVec.ofNat 64 k).toNat = (a * 2 ^ k) % 2 ^ 64 := by simp only [BitVec.shiftLeft_eq', BitVec.toNat_shiftLeft, hb, hk', Nat.shiftLeft_eq]
  exact h
theorem ln_or {a b k : Nat} (hb : b < 2 ^ k) (h : a * 2 ^ k + b < 2 ^ 64) : lN (a * 2 ^ k) ||| lN b = lN (a * 2 ^ k + b) := by
  have hp : 0 < 2 ^ k := Nat.pow_pos (by decide)
  rw [wb_or (by omega) (by omega)]
  congr 1
  rw [Nat.mul_comm]
  exact (Nat.two_pow_add_eq_or_of_lt hb a).symm
theorem ln_i (n : Nat) : (lN n).toInt32 = nI n := lN_i n
theorem ni_l {n : Nat} (h : n < 2 ^ 31) : (nI n).toInt64 = lN n := nI_l h
theorem ln_sub {a b : Nat} (h : b ≤ a) : lN a - lN b = lN (a - b) := lN_sub h
/-- a power of two less one -/
theorem ln_pow {k : Nat} (hk : k < 64) : (lN 1 <<< ((nI k).toInt64 &&& 63)) - lN 1 = lN (2 ^ k - 1) := by
  rw [wb_shl 1 hk, Nat.one_mul, lN_sub (Nat.one_le_two_pow)]
end
section
/-- the places of the class's world: 0 the desk, 1 the deck (2 suitOf, 3 rankOf, 4 targets), 5 the stand (6 columns, 7 sizes, 8 cells, 9 houses, 10 order), 11 the history (12 forms, 13 arrangements), 14 the trays (15 .. 26), 27 formRow, 28 the search (29 forms, 30 told, 31 chains, 32 its stand, 33 .. 37), 38 the plan (39) -/
def SHx : List pm_S := [.inr (.inr (6, [some 1, some 5, some 11, some 14, some 27, some 28, some 38, none, none, none])), .inr (.inr (0, [some 2, some 3, some 4, none, none, none, none, none])), .inl (0, 16), .inl (0, 16), .inl (0, 16), .inr (.inr (4, [some 1, some 6, some 7, some 8, some 9, some 10, none])), .inl (4, 4), .inl (0, 4), .inl (0, 2), .inl (0, 4), .inl (4, 4), .inr (.inr (1, [some 12, some 13, none, none])), .inl (4, 65), .inl (0, 65), .inr (.inl [15, 17, 19, 21, 23, 25]), .inr (.inr (5, [some 16, none, none, none])), .inl (3, 32), .inr (.inr (5, [some 18, none, none, none])), .inl (3, 32), .inr (.inr (5, [some 20, none, none, none])), .inl (3, 32), .inr (.inr (5, [some 22, none, none, none])), .inl (3, 32), .inr (.inr (5, [some 24, none, none, none])), .inl (3, 32), .inr (.inr (5, [some 26, none, none, none])), .inl (3, 32), .inl (3, 18), .inr (.inr (3, [some 32, some 29, some 30, some 31, none, none, none, none, none])), .inl (4, 4000), .inl (4, 4000), .inl (3, 1024), .inr (.inr (4, [some 1, some 33, some 34, some 35, some 36, some 37, none])), .inl (4, 4), .inl (0, 4), .inl (0, 2), .inl (0, 4), .inl (4, 4), .inr (.inr (2, [some 39, none])), .inl (4, 500)]
/-- the places of the reference's world: 0 itself, 1 isLaid, 2 len, 3 col, 4 cell, 5 house, 6 hLen, 7 hCol, 8 hCell, 9 hHouse, 10 tLen, 11 tCol, 12 tCell, 13 tHouse, 14 f, 15 level, 16 good, 17 slot, 18 key, 19 order, 20 planFrom, 21 planTo, 22 tray, 23 trayN, 24 trayCell, 25 told, 26 rLen, 27 rCol, 28 rCell, 29 rHouse -/
def SHy : List pm_S := [.inr (.inr (7, [none, none, none, none, none, none, some 1, none, some 2, some 3, some 4, some 5, none, none, some 6, some 7, some 8, some 9, some 10, some 11, some 12, some 13, none, none, some 14, some 15, some 16, some 17, some 18, some 19, none, some 20, some 21, some 22, some 23, some 24, some 25, none, some 26, some 27, some 28, some 29])), .inl (2, 32), .inl (0, 4), .inl (0, 48), .inl (0, 2), .inl (0, 4), .inl (0, 520), .inl (0, 6240), .inl (0, 260), .inl (0, 520), .inl (0, 4), .inl (0, 48), .inl (0, 2), .inl (0, 4), .inl (1, 72036), .inl (3, 4002), .inl (2, 4002), .inl (0, 16384), .inl (1, 18), .inl (0, 4), .inl (0, 4100), .inl (0, 4100), .inl (0, 6), .inl (0, 6), .inl (0, 192), .inl (0, 20), .inl (0, 4), .inl (0, 48), .inl (0, 2), .inl (0, 4)]
theorem sx_0 : SHx[0]? = some (.inr (.inr (6, [some 1, some 5, some 11, some 14, some 27, some 28, some 38, none, none, none]))) := rfl
theorem sx_1 : SHx[1]? = some (.inr (.inr (0, [some 2, some 3, some 4, none, none, none, none, none]))) := rfl
theorem sx_2 : SHx[2]? = some (.inl (0, 16)) := rfl
theorem sx_3 : SHx[3]? = some (.inl (0, 16)) := rfl
theorem sx_4 : SHx[4]? = some (.inl (0, 16)) := rfl
theorem sx_5 : SHx[5]? = some (.inr (.inr (4, [some 1, some 6, some 7, some 8, some 9, some 10, none]))) := rfl
theorem sx_6 : SHx[6]? = some (.inl (4, 4)) := rfl
theorem sx_7 : SHx[7]? = some (.inl (0, 4)) := rfl
theorem sx_8 : SHx[8]? = some (.inl (0, 2)) := rfl
theorem sx_9 : SHx[9]? = some (.inl (0, 4)) := rfl
theorem sx_10 : SHx[10]? = some (.inl (4, 4)) := rfl
theorem sx_11 : SHx[11]? = some (.inr (.inr (1, [some 12, some 13, none, none]))) := rfl
theorem sx_12 : SHx[12]? = some (.inl (4, 65)) := rfl
theorem sx_13 : SHx[13]? = some (.inl (0, 65)) := rfl
theorem sx_14 : SHx[14]? = some (.inr (.inl [15, 17, 19, 21, 23, 25])) := rfl
theorem sx_15 : SHx[15]? = some (.inr (.inr (5, [some 16, none, none, none]))) := rfl
theorem sx_16 : SHx[16]? = some (.inl (3, 32)) := rfl
theorem sx_17 : SHx[17]? = some (.inr (.inr (5, [some 18, none, none, none]))) := rfl
theorem sx_18 : SHx[18]? = some (.inl (3, 32)) := rfl
theorem sx_19 : SHx[19]? = some (.inr (.inr (5, [some 20, none, none, none]))) := rfl
theorem sx_20 : SHx[20]? = some (.inl (3, 32)) := rfl
theorem sx_21 : SHx[21]? = some (.inr (.inr (5, [some 22, none, none, none]))) := rfl
theorem sx_22 : SHx[22]? = some (.inl (3, 32)) := rfl
theorem sx_23 : SHx[23]? = some (.inr (.inr (5, [some 24, none, none, none]))) := rfl
theorem sx_24 : SHx[24]? = some (.inl (3, 32)) := rfl
theorem sx_25 : SHx[25]? = some (.inr (.inr (5, [some 26, none, none, none]))) := rfl
theorem sx_26 : SHx[26]? = some (.inl (3, 32)) := rfl
theorem sx_27 : SHx[27]? = some (.inl (3, 18)) := rfl
theorem sx_28 : SHx[28]? = some (.inr (.inr (3, [some 32, some 29, some 30, some 31, none, none, none, none, none]))) := rfl
theorem sx_29 : SHx[29]? = some (.inl (4, 4000)) := rfl
theorem sx_30 : SHx[30]? = some (.inl (4, 4000)) := rfl
theorem sx_31 : SHx[31]? = some (.inl (3, 1024)) := rfl
theorem sx_32 : SHx[32]? = some (.inr (.inr (4, [some 1, some 33, some 34, some 35, some 36, some 37, none]))) := rfl
theorem sx_33 : SHx[33]? = some (.inl (4, 4)) := rfl
theorem sx_34 : SHx[34]? = some (.inl (0, 4)) := rfl
theorem sx_35 : SHx[35]? = some (.inl (0, 2)) := rfl
theorem sx_36 : SHx[36]? = some (.inl (0, 4)) := rfl
theorem sx_37 : SHx[37]? = some (.inl (4, 4)) := rfl
theorem sx_38 : SHx[38]? = some (.inr (.inr (2, [some 39, none]))) := rfl
theorem sx_39 : SHx[39]? = some (.inl (4, 500)) := rfl
theorem sy_0 : SHy[0]? = some (.inr (.inr (7, [none, none, none, none, none, none, some 1, none, some 2, some 3, some 4, some 5, none, none, some 6, some 7, some 8, some 9, some 10, some 11, some 12, some 13, none, none, some 14, some 15, some 16, some 17, some 18, some 19, none, some 20, some 21, some 22, some 23, some 24, some 25, none, some 26, some 27, some 28, some 29]))) := rfl
theorem sy_1 : SHy[1]? = some (.inl (2, 32)) := rfl
theorem sy_2 : SHy[2]? = some (.inl (0, 4)) := rfl
theorem sy_3 : SHy[3]? = some (.inl (0, 48)) := rfl
theorem sy_4 : SHy[4]? = some (.inl (0, 2)) := rfl
theorem sy_5 : SHy[5]? = some (.inl (0, 4)) := rfl
theorem sy_6 : SHy[6]? = some (.inl (0, 520)) := rfl
theorem sy_7 : SHy[7]? = some (.inl (0, 6240)) := rfl
theorem sy_8 : SHy[8]? = some (.inl (0, 260)) := rfl
theorem sy_9 : SHy[9]? = some (.inl (0, 520)) := rfl
theorem sy_10 : SHy[10]? = some (.inl (0, 4)) := rfl
theorem sy_11 : SHy[11]? = some (.inl (0, 48)) := rfl
theorem sy_12 : SHy[12]? = some (.inl (0, 2)) := rfl
theorem sy_13 : SHy[13]? = some (.inl (0, 4)) := rfl
theorem sy_14 : SHy[14]? = some (.inl (1, 72036)) := rfl
theorem sy_15 : SHy[15]? = some (.inl (3, 4002)) := rfl
theorem sy_16 : SHy[16]? = some (.inl (2, 4002)) := rfl
theorem sy_17 : SHy[17]? = some (.inl (0, 16384)) := rfl
theorem sy_18 : SHy[18]? = some (.inl (1, 18)) := rfl
theorem sy_19 : SHy[19]? = some (.inl (0, 4)) := rfl
theorem sy_20 : SHy[20]? = some (.inl (0, 4100)) := rfl
theorem sy_21 : SHy[21]? = some (.inl (0, 4100)) := rfl
theorem sy_22 : SHy[22]? = some (.inl (0, 6)) := rfl
theorem sy_23 : SHy[23]? = some (.inl (0, 6)) := rfl
theorem sy_24 : SHy[24]? = some (.inl (0, 192)) := rfl
theorem sy_25 : SHy[25]? = some (.inl (0, 20)) := rfl
theorem sy_26 : SHy[26]? = some (.inl (0, 4)) := rfl
theorem sy_27 : SHy[27]? = some (.inl (0, 48)) := rfl
theorem sy_28 : SHy[28]? = some (.inl (0, 2)) := rfl
theorem sy_29 : SHy[29]? = some (.inl (0, 4)) := rfl
end
section
-- the JDK's and the smallest of the class
def tt_X6_isWithin : pm_T := fun args M k => match args with
  | [.int n, .int a, .int b] => k (some (.int (pb (wi n a b)))) M
  | _ => False
abbrev ct_X6_isWithin : List pm_C := []
set_option maxHeartbeats 4000000 in
theorem sm_X6_isWithin {SH : List pm_S} : pm_Sem SH yX6_isWithin cX6_isWithin 3 (some .boolean) 1 tt_X6_isWithin := by
  refine pm_Sem_intro bl_X6_isWithin ct_X6_isWithin cs_X6_isWithin rfl (fun _ h => absurd h List.not_mem_nil) ck_X6_isWithin (by decide +kernel) (by decide) ?_
  intro X k hX args M hT
  have hb0 := hX 0 bk_X6_isWithin_0 (List.mem_of_getElem? (i := 0) rfl)
  have hb14 := hX 14 bk_X6_isWithin_14 (List.mem_of_getElem? (i := 1) rfl)
  have hb15 := hX 15 bk_X6_isWithin_15 (List.mem_of_getElem? (i := 2) rfl)
  clear hX
  unfold tt_X6_isWithin wi at hT; split at hT
  · next n a b =>
    refine ⟨by simp [lg_sl, Value.category], ?_⟩
    refine hb0 _ _ _ ?_
    simp [bk_X6_isWithin_0, bk_X6_isWithin_14, bk_X6_isWithin_15, pm_e_c0, pm_e_c1, pm_e_cti, pm_e_ctl, pm_e_ctr, pm_e_go, pm_e_ii, pm_e_ldi, pm_e_lk, pm_e_rm0, pm_e_rm1, pm_e_rs0, pm_e_rs1, pm_e_wp0, pm_e_wp1, pm_f2, pm_f3, pm_s_goto, pm_s_iconst, pm_s_if_icmp_gt, pm_s_if_icmp_lt, pm_s_iload_n, pm_s_ireturn, ct_X6_isWithin, -Int32.not_le, -Int32.not_lt, -Int64.not_le, -Int64.not_lt, lv_args]
    repeat' first
      | refine ⟨fun _ => ?_, fun _ => ?_⟩
      | (refine hb14 _ _ _ ?_; simp [bk_X6_isWithin_0, bk_X6_isWithin_14, bk_X6_isWithin_15, pm_e_c0, pm_e_c1, pm_e_cti, pm_e_ctl, pm_e_ctr, pm_e_go, pm_e_ii, pm_e_ldi, pm_e_lk, pm_e_rm0, pm_e_rm1, pm_e_rs0, pm_e_rs1, pm_e_wp0, pm_e_wp1, pm_f2, pm_f3, pm_s_goto, pm_s_iconst, pm_s_if_icmp_gt, pm_s_if_icmp_lt, pm_s_iload_n, pm_s_ireturn, ct_X6_isWithin, -Int32.not_le, -Int32.not_lt, -Int64.not_le, -Int64.not_lt, ni_0, ni_1])
      | (refine hb15 _ _ _ ?_; simp [bk_X6_isWithin_0, bk_X6_isWithin_14, bk_X6_isWithin_15, pm_e_c0, pm_e_c1, pm_e_cti, pm_e_ctl, pm_e_ctr, pm_e_go, pm_e_ii, pm_e_ldi, pm_e_lk, pm_e_rm0, pm_e_rm1, pm_e_rs0, pm_e_rs1, pm_e_wp0, pm_e_wp1, pm_f2, pm_f3, pm_s_goto, pm_s_iconst, pm_s_if_icmp_gt, pm_s_if_icmp_lt, pm_s_iload_n, pm_s_ireturn, ct_X6_isWithin, -Int32.not_le, -Int32.not_lt, -Int64.not_le, -Int64.not_lt, ni_0, ni_1])
    all_goals simp_all [ni_0, ni_1, pb_t, pb_f, -Int32.not_le, -Int32.not_lt]
  · exact hT.elim
def tt_X0_size : pm_T := fun args M k => match args with
  | [.ref 1] => k (some (.int (M.1 1 3 * M.1 1 4))) M
  | _ => False
abbrev ct_X0_size : List pm_C := []
set_option maxHeartbeats 4000000 in
theorem sm_X0_size  : pm_Sem SHx yX0_size cX0_size 1 (some .int) 1 tt_X0_size := by
  refine pm_Sem_intro bl_X0_size ct_X0_size cs_X0_size rfl (fun _ h => absurd h List.not_mem_nil) ck_X0_size (by decide +kernel) (by decide) ?_
  intro X k hX args M hT
  have hb0 := hX 0 bk_X0_size_0 (List.mem_of_getElem? (i := 0) rfl)
  clear hX
  unfold tt_X0_size at hT; split at hT
  · refine ⟨by simp [lg_sl, Value.category], ?_⟩
    refine hb0 _ _ _ ?_
    simp [bk_X0_size_0, pm_e_cti, pm_e_ctl, pm_e_ctr, pm_e_go, pm_e_ii, pm_e_ldr, pm_e_lk, pm_e_r, pm_e_rm0, pm_e_rm1, pm_e_rs0, pm_e_rs1, pm_e_wp0, pm_e_wp1, pm_f2, pm_f3, pm_fld, pm_fv, pm_obj, pm_s_aload_n, pm_s_getfield, pm_s_imul, pm_s_ireturn, ct_X0_size, -Int32.not_le, -Int32.not_lt, -Int64.not_le, -Int64.not_lt, lv_args, sx_1]
    exact hT
  · exact hT.elim
def tt_X0_cardOf : pm_T := fun args M k => match args with
  | [.ref 1, .int s, .int r] => k (some (.int ((s * M.1 1 4 + r) &&& nI 15))) M
  | _ => False
abbrev ct_X0_cardOf : List pm_C := []
set_option maxHeartbeats 4000000 in
theorem sm_X0_cardOf  : pm_Sem SHx yX0_cardOf cX0_cardOf 3 (some .int) 1 tt_X0_cardOf := by
  refine pm_Sem_intro bl_X0_cardOf ct_X0_cardOf cs_X0_cardOf rfl (fun _ h => absurd h List.not_mem_nil) ck_X0_cardOf (by decide +kernel) (by decide) ?_
  intro X k hX args M hT
  have hb0 := hX 0 bk_X0_cardOf_0 (List.mem_of_getElem? (i := 0) rfl)
  clear hX
  unfold tt_X0_cardOf at hT; split at hT
  · refine ⟨by simp [lg_sl, Value.category], ?_⟩
    refine hb0 _ _ _ ?_
    simp [bk_X0_cardOf_0, pm_e_c0, pm_e_c1, pm_e_cti, pm_e_ctl, pm_e_ctr, pm_e_go, pm_e_ii, pm_e_ldi, pm_e_ldr, pm_e_lk, pm_e_r, pm_e_rm0, pm_e_rm1, pm_e_rs0, pm_e_rs1, pm_e_wp0, pm_e_wp1, pm_f2, pm_f3, pm_fld, pm_fv, pm_obj, pm_s_aload_n, pm_s_bipush, pm_s_getfield, pm_s_iadd, pm_s_iand, pm_s_iload_n, pm_s_imul, pm_s_ireturn, ct_X0_cardOf, -Int32.not_le, -Int32.not_lt, -Int64.not_le, -Int64.not_lt, lv_args, sx_1]
    exact hT
  · exact hT.elim
def tt_X0_has : pm_T := fun args M k => match args with
  | [.ref 1, .int s, .int r] => k (some (.int (pb (wi s (nI 0) (M.1 1 3 - nI 1) && wi r (nI 1) (M.1 1 4))))) M
  | _ => False
abbrev ct_X0_has : List pm_C := [(true, 49, 6, 3, (some .boolean), tt_X6_isWithin)]
set_option maxHeartbeats 4000000 in
theorem sm_X0_has  : pm_Sem SHx yX0_has cX0_has 3 (some .boolean) 2 tt_X0_has := by
  refine pm_Sem_intro bl_X0_has ct_X0_has cs_X0_has rfl (List.forall_mem_cons.mpr ⟨⟨_, _, _, _, sm_X6_isWithin, by decide, cm_X6_isWithin, by decide +kernel⟩, fun _ h => absurd h List.not_mem_nil⟩) ck_X0_has (by decide +kernel) (by decide) ?_
  intro X k hX args M hT
  have hb0 := hX 0 bk_X0_has_0 (List.mem_of_getElem? (i := 0) rfl)
  have hb30 := hX 30 bk_X0_has_30 (List.mem_of_getElem? (i := 1) rfl)
  have hb31 := hX 31 bk_X0_has_31 (List.mem_of_getElem? (i := 2) rfl)
  clear hX
  unfold tt_X0_has at hT; split at hT
  · refine ⟨by simp [lg_sl, Value.category], ?_⟩
    refine hb0 _ _ _ ?_
    simp [bk_X0_has_0, bk_X0_has_30, bk_X0_has_31, pm_call, pm_e_c0, pm_e_c1, pm_e_cti, pm_e_ctl, pm_e_ctr, pm_e_go, pm_e_i, pm_e_ii, pm_e_ldi, pm_e_ldr, pm_e_lk, pm_e_r, pm_e_rm0, pm_e_rm1, pm_e_rs0, pm_e_rs1, pm_e_wp0, pm_e_wp1, pm_f2, pm_f3, pm_fld, pm_fv, pm_obj, pm_recv, pm_s_aload_n, pm_s_getfield, pm_s_goto, pm_s_iconst, pm_s_ifCond_eq, pm_s_iload_n, pm_s_invokestatic, pm_s_ireturn, pm_s_isub, ct_X0_has, tt_X6_isWithin, -Int32.not_le, -Int32.not_lt, -Int64.not_le, -Int64.not_lt, lv_args, sx_1, pb_eq0]
    repeat' first
      | refine ⟨fun _ => ?_, fun _ => ?_⟩
      | (refine hb30 _ _ _ ?_; simp [bk_X0_has_0, bk_X0_has_30, bk_X0_has_31, pm_call, pm_e_c0, pm_e_c1, pm_e_cti, pm_e_ctl, pm_e_ctr, pm_e_go, pm_e_i, pm_e_ii, pm_e_ldi, pm_e_ldr, pm_e_lk, pm_e_r, pm_e_rm0, pm_e_rm1, pm_e_rs0, pm_e_rs1, pm_e_wp0, pm_e_wp1, pm_f2, pm_f3, pm_fld, pm_fv, pm_obj, pm_recv, pm_s_aload_n, pm_s_getfield, pm_s_goto, pm_s_iconst, pm_s_ifCond_eq, pm_s_iload_n, pm_s_invokestatic, pm_s_ireturn, pm_s_isub, ct_X0_has, tt_X6_isWithin, -Int32.not_le, -Int32.not_lt, -Int64.not_le, -Int64.not_lt, ni_0, ni_1])
      | (refine hb31 _ _ _ ?_; simp [bk_X0_has_0, bk_X0_has_30, bk_X0_has_31, pm_call, pm_e_c0, pm_e_c1, pm_e_cti, pm_e_ctl, pm_e_ctr, pm_e_go, pm_e_i, pm_e_ii, pm_e_ldi, pm_e_ldr, pm_e_lk, pm_e_r, pm_e_rm0, pm_e_rm1, pm_e_rs0, pm_e_rs1, pm_e_wp0, pm_e_wp1, pm_f2, pm_f3, pm_fld, pm_fv, pm_obj, pm_recv, pm_s_aload_n, pm_s_getfield, pm_s_goto, pm_s_iconst, pm_s_ifCond_eq, pm_s_iload_n, pm_s_invokestatic, pm_s_ireturn, pm_s_isub, ct_X0_has, tt_X6_isWithin, -Int32.not_le, -Int32.not_lt, -Int64.not_le, -Int64.not_lt, ni_0, ni_1])
    all_goals simp_all [ni_0, ni_1, pb_t, pb_f, -Int32.not_le, -Int32.not_lt]
  · exact hT.elim
def tt_X0_hasCode : pm_T := fun args M k => match args with
  | [.ref 1, .int c] => k (some (.int (pb (wi (c >>> (nI 3 &&& 31)) (nI 0) (M.1 1 3 - nI 1) && wi (c &&& nI 7) (nI 1) (M.1 1 4))))) M
  | _ => False
abbrev ct_X0_hasCode : List pm_C := [(false, 53, 0, 3, (some .boolean), tt_X0_has)]
set_option maxHeartbeats 4000000 in
theorem sm_X0_hasCode  : pm_Sem SHx yX0_hasCode cX0_hasCode 2 (some .boolean) 3 tt_X0_hasCode := by
  refine pm_Sem_intro bl_X0_hasCode ct_X0_hasCode cs_X0_hasCode rfl (List.forall_mem_cons.mpr ⟨⟨_, _, _, _, sm_X0_has, by decide, cm_X0_has, by decide +kernel⟩, fun _ h => absurd h List.not_mem_nil⟩) ck_X0_hasCode (by decide +kernel) (by decide) ?_
  intro X k hX args M hT
  have hb0 := hX 0 bk_X0_hasCode_0 (List.mem_of_getElem? (i := 0) rfl)
  clear hX
  unfold tt_X0_hasCode at hT; split at hT
  · refine ⟨by simp [lg_sl, Value.category], ?_⟩
    refine hb0 _ _ _ ?_
    simp [bk_X0_hasCode_0, pm_call, pm_e_c0, pm_e_c1, pm_e_cti, pm_e_ctl, pm_e_ctr, pm_e_go, pm_e_ii, pm_e_ldi, pm_e_ldr, pm_e_lk, pm_e_rm0, pm_e_rm1, pm_e_rs0, pm_e_rs1, pm_e_wp0, pm_e_wp1, pm_f2, pm_f3, pm_obj, pm_recv, pm_s_aload_n, pm_s_bipush, pm_s_iand, pm_s_iconst, pm_s_iload_n, pm_s_invokevirtual, pm_s_ireturn, pm_s_ishr, ct_X0_hasCode, tt_X0_has, -Int32.not_le, -Int32.not_lt, -Int64.not_le, -Int64.not_lt, lv_args, sx_1, pb_01]
    exact hT
  · exact hT.elim
def tt_X0_cardOfCode : pm_T := fun args M k => match args with
  | [.ref 1, .int c] => k (some (.int (((c >>> (nI 3 &&& 31)) * M.1 1 4 + (c &&& nI 7)) &&& nI 15))) M
  | _ => False
abbrev ct_X0_cardOfCode : List pm_C := [(false, 37, 0, 3, (some .int), tt_X0_cardOf)]
set_option maxHeartbeats 4000000 in
theorem sm_X0_cardOfCode  : pm_Sem SHx yX0_cardOfCode cX0_cardOfCode 2 (some .int) 2 tt_X0_cardOfCode := by
  refine pm_Sem_intro bl_X0_cardOfCode ct_X0_cardOfCode cs_X0_cardOfCode rfl (List.forall_mem_cons.mpr ⟨⟨_, _, _, _, sm_X0_cardOf, by decide, cm_X0_cardOf, by decide +kernel⟩, fun _ h => absurd h List.not_mem_nil⟩) ck_X0_cardOfCode (by decide +kernel) (by decide) ?_
  intro X k hX args M hT
  have hb0 := hX 0 bk_X0_cardOfCode_0 (List.mem_of_getElem? (i := 0) rfl)
  clear hX
  unfold tt_X0_cardOfCode at hT; split at hT
  · refine ⟨by simp [lg_sl, Value.category], ?_⟩
    refine hb0 _ _ _ ?_
    simp [bk_X0_cardOfCode_0, pm_call, pm_e_c0, pm_e_c1, pm_e_cti, pm_e_ctl, pm_e_ctr, pm_e_go, pm_e_ii, pm_e_ldi, pm_e_ldr, pm_e_lk, pm_e_rm0, pm_e_rm1, pm_e_rs0, pm_e_rs1, pm_e_wp0, pm_e_wp1, pm_f2, pm_f3, pm_obj, pm_recv, pm_s_aload_n, pm_s_bipush, pm_s_iand, pm_s_iconst, pm_s_iload_n, pm_s_invokevirtual, pm_s_ireturn, pm_s_ishr, ct_X0_cardOfCode, tt_X0_cardOf, -Int32.not_le, -Int32.not_lt, -Int64.not_le, -Int64.not_lt, lv_args, sx_1]
    exact hT
  · exact hT.elim
theorem ni_15 (x : Int32) : vp_in (x &&& nI 15) 16 := pk_andIn x 4 (by decide) (by decide)
def tt_X0_codeOf : pm_T := fun args M k => match args with
  | [.ref 1, .int c] => k (some (.int (if c = 0 then 0 else nI 8 * M.1 2 (c &&& nI 15).toNatClampNeg + M.1 3 (c &&& nI 15).toNatClampNeg))) M
  | _ => False
abbrev ct_X0_codeOf : List pm_C := []
set_option maxHeartbeats 4000000 in
theorem sm_X0_codeOf  : pm_Sem SHx yX0_codeOf cX0_codeOf 2 (some .int) 1 tt_X0_codeOf := by
  refine pm_Sem_intro bl_X0_codeOf ct_X0_codeOf cs_X0_codeOf rfl (fun _ h => absurd h List.not_mem_nil) ck_X0_codeOf (by decide +kernel) (by decide) ?_
  intro X k hX args M hT
  have hb0 := hX 0 bk_X0_codeOf_0 (List.mem_of_getElem? (i := 0) rfl)
  have hb8 := hX 8 bk_X0_codeOf_8 (List.mem_of_getElem? (i := 1) rfl)
  have hb30 := hX 30 bk_X0_codeOf_30 (List.mem_of_getElem? (i := 2) rfl)
  clear hX
  unfold tt_X0_codeOf at hT; split at hT
  · refine ⟨by simp [lg_sl, Value.category], ?_⟩
    refine hb0 _ _ _ ?_
    simp [bk_X0_codeOf_0, bk_X0_codeOf_8, bk_X0_codeOf_30, pm_arr, pm_e_c0, pm_e_c1, pm_e_cti, pm_e_ctl, pm_e_ctr, pm_e_go, pm_e_i, pm_e_ii, pm_e_ldi, pm_e_ldr, pm_e_lk, pm_e_r, pm_e_ri, pm_e_rm0, pm_e_rm1, pm_e_rs0, pm_e_rs1, pm_e_wp0, pm_e_wp1, pm_f2, pm_f3, pm_fld, pm_fv, pm_obj, pm_s_aload_n, pm_s_bipush, pm_s_getfield, pm_s_goto, pm_s_iadd, pm_s_iaload, pm_s_iand, pm_s_iconst, pm_s_ifCond_ne, pm_s_iload_n, pm_s_imul, pm_s_ireturn, ct_X0_codeOf, -Int32.not_le, -Int32.not_lt, -Int64.not_le, -Int64.not_lt, lv_args, sx_1, sx_2, sx_3, ni_0]
    repeat' first
      | refine ⟨fun _ => ?_, fun _ => ?_⟩
      | (refine hb8 _ _ _ ?_; simp [bk_X0_codeOf_0, bk_X0_codeOf_8, bk_X0_codeOf_30, pm_arr, pm_e_c0, pm_e_c1, pm_e_cti, pm_e_ctl, pm_e_ctr, pm_e_go, pm_e_i, pm_e_ii, pm_e_ldi, pm_e_ldr, pm_e_lk, pm_e_r, pm_e_ri, pm_e_rm0, pm_e_rm1, pm_e_rs0, pm_e_rs1, pm_e_wp0, pm_e_wp1, pm_f2, pm_f3, pm_fld, pm_fv, pm_obj, pm_s_aload_n, pm_s_bipush, pm_s_getfield, pm_s_goto, pm_s_iadd, pm_s_iaload, pm_s_iand, pm_s_iconst, pm_s_ifCond_ne, pm_s_iload_n, pm_s_imul, pm_s_ireturn, ct_X0_codeOf, -Int32.not_le, -Int32.not_lt, -Int64.not_le, -Int64.not_lt, sx_1, sx_2, sx_3, ni_0, ni_15])
      | (refine hb30 _ _ _ ?_; simp [bk_X0_codeOf_0, bk_X0_codeOf_8, bk_X0_codeOf_30, pm_arr, pm_e_c0, pm_e_c1, pm_e_cti, pm_e_ctl, pm_e_ctr, pm_e_go, pm_e_i, pm_e_ii, pm_e_ldi, pm_e_ldr, pm_e_lk, pm_e_r, pm_e_ri, pm_e_rm0, pm_e_rm1, pm_e_rs0, pm_e_rs1, pm_e_wp0, pm_e_wp1, pm_f2, pm_f3, pm_fld, pm_fv, pm_obj, pm_s_aload_n, pm_s_bipush, pm_s_getfield, pm_s_goto, pm_s_iadd, pm_s_iaload, pm_s_iand, pm_s_iconst, pm_s_ifCond_ne, pm_s_iload_n, pm_s_imul, pm_s_ireturn, ct_X0_codeOf, -Int32.not_le, -Int32.not_lt, -Int64.not_le, -Int64.not_lt, sx_1, sx_2, sx_3, ni_0, ni_15])
    all_goals simp_all [ni_0, ni_1, pb_t, pb_f, -Int32.not_le, -Int32.not_lt]
  · exact hT.elim
def tt_X0_allows : pm_T := fun args M k => match args with
  | [.ref 1, .int c, .int o] => k (some (.int (pb (!decide (M.1 4 (c &&& nI 15).toNatClampNeg &&& (nI 1 <<< (o &&& 31)) = 0))))) M
  | _ => False
abbrev ct_X0_allows : List pm_C := []
set_option maxHeartbeats 4000000 in
theorem sm_X0_allows  : pm_Sem SHx yX0_allows cX0_allows 3 (some .boolean) 1 tt_X0_allows := by
  refine pm_Sem_intro bl_X0_allows ct_X0_allows cs_X0_allows rfl (fun _ h => absurd h List.not_mem_nil) ck_X0_allows (by decide +kernel) (by decide) ?_
  intro X k hX args M hT
  have hb0 := hX 0 bk_X0_allows_0 (List.mem_of_getElem? (i := 0) rfl)
  have hb20 := hX 20 bk_X0_allows_20 (List.mem_of_getElem? (i := 1) rfl)
  have hb21 := hX 21 bk_X0_allows_21 (List.mem_of_getElem? (i := 2) rfl)
  clear hX
  unfold tt_X0_allows at hT; split at hT
  · refine ⟨by simp [lg_sl, Value.category], ?_⟩
    refine hb0 _ _ _ ?_
    simp [bk_X0_allows_0, bk_X0_allows_20, bk_X0_allows_21, pm_arr, pm_e_c0, pm_e_c1, pm_e_cti, pm_e_ctl, pm_e_ctr, pm_e_go, pm_e_i, pm_e_ii, pm_e_ldi, pm_e_ldr, pm_e_lk, pm_e_r, pm_e_ri, pm_e_rm0, pm_e_rm1, pm_e_rs0, pm_e_rs1, pm_e_wp0, pm_e_wp1, pm_f2, pm_f3, pm_fld, pm_fv, pm_obj, pm_s_aload_n, pm_s_bipush, pm_s_getfield, pm_s_goto, pm_s_iaload, pm_s_iand, pm_s_iconst, pm_s_ifCond_eq, pm_s_iload_n, pm_s_ireturn, pm_s_ishl, ct_X0_allows, -Int32.not_le, -Int32.not_lt, -Int64.not_le, -Int64.not_lt, lv_args, sx_1, sx_4, ni_15, ni_0, ni_1]
    repeat' first
      | refine ⟨fun _ => ?_, fun _ => ?_⟩
      | (refine hb20 _ _ _ ?_; simp [bk_X0_allows_0, bk_X0_allows_20, bk_X0_allows_21, pm_arr, pm_e_c0, pm_e_c1, pm_e_cti, pm_e_ctl, pm_e_ctr, pm_e_go, pm_e_i, pm_e_ii, pm_e_ldi, pm_e_ldr, pm_e_lk, pm_e_r, pm_e_ri, pm_e_rm0, pm_e_rm1, pm_e_rs0, pm_e_rs1, pm_e_wp0, pm_e_wp1, pm_f2, pm_f3, pm_fld, pm_fv, pm_obj, pm_s_aload_n, pm_s_bipush, pm_s_getfield, pm_s_goto, pm_s_iaload, pm_s_iand, pm_s_iconst, pm_s_ifCond_eq, pm_s_iload_n, pm_s_ireturn, pm_s_ishl, ct_X0_allows, -Int32.not_le, -Int32.not_lt, -Int64.not_le, -Int64.not_lt, sx_1, sx_4, ni_15, ni_0, ni_1])
      | (refine hb21 _ _ _ ?_; simp [bk_X0_allows_0, bk_X0_allows_20, bk_X0_allows_21, pm_arr, pm_e_c0, pm_e_c1, pm_e_cti, pm_e_ctl, pm_e_ctr, pm_e_go, pm_e_i, pm_e_ii, pm_e_ldi, pm_e_ldr, pm_e_lk, pm_e_r, pm_e_ri, pm_e_rm0, pm_e_rm1, pm_e_rs0, pm_e_rs1, pm_e_wp0, pm_e_wp1, pm_f2, pm_f3, pm_fld, pm_fv, pm_obj, pm_s_aload_n, pm_s_bipush, pm_s_getfield, pm_s_goto, pm_s_iaload, pm_s_iand, pm_s_iconst, pm_s_ifCond_eq, pm_s_iload_n, pm_s_ireturn, pm_s_ishl, ct_X0_allows, -Int32.not_le, -Int32.not_lt, -Int64.not_le, -Int64.not_lt, sx_1, sx_4, ni_15, ni_0, ni_1])
    all_goals simp_all [ni_0, ni_1, pb_t, pb_f, -Int32.not_le, -Int32.not_lt]
  · exact hT.elim
def tt_X0_closesRound : pm_T := fun args M k => match args with
  | [.ref 1, .int c, .int o] => (vp_in c 16 ∧ vp_in o 16) ∧ k (some (.int (pb (!decide (M.1 1 4 ≤ nI 1) && decide (M.1 3 c.toNatClampNeg = M.1 1 4) && decide (M.1 3 o.toNatClampNeg = nI 1))))) M
  | _ => False
abbrev ct_X0_closesRound : List pm_C := []
set_option maxHeartbeats 4000000 in
theorem sm_X0_closesRound  : pm_Sem SHx yX0_closesRound cX0_closesRound 3 (some .boolean) 1 tt_X0_closesRound := by
  refine pm_Sem_intro bl_X0_closesRound ct_X0_closesRound cs_X0_closesRound rfl (fun _ h => absurd h List.not_mem_nil) ck_X0_closesRound (by decide +kernel) (by decide) ?_
  intro X k hX args M hT
  have hb0 := hX 0 bk_X0_closesRound_0 (List.mem_of_getElem? (i := 0) rfl)
  have hb35 := hX 35 bk_X0_closesRound_35 (List.mem_of_getElem? (i := 1) rfl)
  have hb36 := hX 36 bk_X0_closesRound_36 (List.mem_of_getElem? (i := 2) rfl)
  clear hX
  unfold tt_X0_closesRound at hT; split at hT
  · obtain ⟨⟨hc, ho⟩, hT⟩ := hT
    refine ⟨by simp [lg_sl, Value.category], ?_⟩
    refine hb0 _ _ _ ?_
    simp [bk_X0_closesRound_0, bk_X0_closesRound_35, bk_X0_closesRound_36, pm_arr, pm_e_c0, pm_e_c1, pm_e_cti, pm_e_ctl, pm_e_ctr, pm_e_go, pm_e_ii, pm_e_ldi, pm_e_ldr, pm_e_lk, pm_e_r, pm_e_ri, pm_e_rm0, pm_e_rm1, pm_e_rs0, pm_e_rs1, pm_e_wp0, pm_e_wp1, pm_f2, pm_f3, pm_fld, pm_fv, pm_obj, pm_s_aload_n, pm_s_getfield, pm_s_goto, pm_s_iaload, pm_s_iconst, pm_s_if_icmp_le, pm_s_if_icmp_ne, pm_s_iload_n, pm_s_ireturn, ct_X0_closesRound, -Int32.not_le, -Int32.not_lt, -Int64.not_le, -Int64.not_lt, lv_args, sx_1, sx_3, hc, ho]
    repeat' first
      | refine ⟨fun _ => ?_, fun _ => ?_⟩
      | (refine hb35 _ _ _ ?_; simp [bk_X0_closesRound_0, bk_X0_closesRound_35, bk_X0_closesRound_36, pm_arr, pm_e_c0, pm_e_c1, pm_e_cti, pm_e_ctl, pm_e_ctr, pm_e_go, pm_e_ii, pm_e_ldi, pm_e_ldr, pm_e_lk, pm_e_r, pm_e_ri, pm_e_rm0, pm_e_rm1, pm_e_rs0, pm_e_rs1, pm_e_wp0, pm_e_wp1, pm_f2, pm_f3, pm_fld, pm_fv, pm_obj, pm_s_aload_n, pm_s_getfield, pm_s_goto, pm_s_iaload, pm_s_iconst, pm_s_if_icmp_le, pm_s_if_icmp_ne, pm_s_iload_n, pm_s_ireturn, ct_X0_closesRound, -Int32.not_le, -Int32.not_lt, -Int64.not_le, -Int64.not_lt, ni_0, ni_1, sx_1, sx_3])
      | (refine hb36 _ _ _ ?_; simp [bk_X0_closesRound_0, bk_X0_closesRound_35, bk_X0_closesRound_36, pm_arr, pm_e_c0, pm_e_c1, pm_e_cti, pm_e_ctl, pm_e_ctr, pm_e_go, pm_e_ii, pm_e_ldi, pm_e_ldr, pm_e_lk, pm_e_r, pm_e_ri, pm_e_rm0, pm_e_rm1, pm_e_rs0, pm_e_rs1, pm_e_wp0, pm_e_wp1, pm_f2, pm_f3, pm_fld, pm_fv, pm_obj, pm_s_aload_n, pm_s_getfield, pm_s_goto, pm_s_iaload, pm_s_iconst, pm_s_if_icmp_le, pm_s_if_icmp_ne, pm_s_iload_n, pm_s_ireturn, ct_X0_closesRound, -Int32.not_le, -Int32.not_lt, -Int64.not_le, -Int64.not_lt, ni_0, ni_1, sx_1, sx_3])
    all_goals simp_all [ni_0, ni_1, pb_t, pb_f, -Int32.not_le, -Int32.not_lt]
  · exact hT.elim
def tt_X0_suitsTurn : pm_T := fun args M k => match args with
  | [.ref _, .int c, .int o] => k (some (.int (pb (!decide ((c &&& nI 1) = (o &&& nI 1)))))) M
  | _ => False
abbrev ct_X0_suitsTurn : List pm_C := []
set_option maxHeartbeats 4000000 in
theorem sm_X0_suitsTurn {SH : List pm_S} : pm_Sem SH yX0_suitsTurn cX0_suitsTurn 3 (some .boolean) 1 tt_X0_suitsTurn := by
  refine pm_Sem_intro bl_X0_suitsTurn ct_X0_suitsTurn cs_X0_suitsTurn rfl (fun _ h => absurd h List.not_mem_nil) ck_X0_suitsTurn (by decide +kernel) (by decide) ?_
  intro X k hX args M hT
  have hb0 := hX 0 bk_X0_suitsTurn_0 (List.mem_of_getElem? (i := 0) rfl)
  have hb13 := hX 13 bk_X0_suitsTurn_13 (List.mem_of_getElem? (i := 1) rfl)
  have hb14 := hX 14 bk_X0_suitsTurn_14 (List.mem_of_getElem? (i := 2) rfl)
  clear hX
  unfold tt_X0_suitsTurn at hT; split at hT
  · refine ⟨by simp [lg_sl, Value.category], ?_⟩
    refine hb0 _ _ _ ?_
    simp [bk_X0_suitsTurn_0, bk_X0_suitsTurn_13, bk_X0_suitsTurn_14, pm_e_c0, pm_e_c1, pm_e_cti, pm_e_ctl, pm_e_ctr, pm_e_go, pm_e_ii, pm_e_ldi, pm_e_lk, pm_e_rm0, pm_e_rm1, pm_e_rs0, pm_e_rs1, pm_e_wp0, pm_e_wp1, pm_f2, pm_f3, pm_s_goto, pm_s_iand, pm_s_iconst, pm_s_if_icmp_eq, pm_s_iload_n, pm_s_ireturn, ct_X0_suitsTurn, -Int32.not_le, -Int32.not_lt, -Int64.not_le, -Int64.not_lt, lv_args]
    repeat' first
      | refine ⟨fun _ => ?_, fun _ => ?_⟩
      | (refine hb13 _ _ _ ?_; simp [bk_X0_suitsTurn_0, bk_X0_suitsTurn_13, bk_X0_suitsTurn_14, pm_e_c0, pm_e_c1, pm_e_cti, pm_e_ctl, pm_e_ctr, pm_e_go, pm_e_ii, pm_e_ldi, pm_e_lk, pm_e_rm0, pm_e_rm1, pm_e_rs0, pm_e_rs1, pm_e_wp0, pm_e_wp1, pm_f2, pm_f3, pm_s_goto, pm_s_iand, pm_s_iconst, pm_s_if_icmp_eq, pm_s_iload_n, pm_s_ireturn, ct_X0_suitsTurn, -Int32.not_le, -Int32.not_lt, -Int64.not_le, -Int64.not_lt, ni_0, ni_1])
      | (refine hb14 _ _ _ ?_; simp [bk_X0_suitsTurn_0, bk_X0_suitsTurn_13, bk_X0_suitsTurn_14, pm_e_c0, pm_e_c1, pm_e_cti, pm_e_ctl, pm_e_ctr, pm_e_go, pm_e_ii, pm_e_ldi, pm_e_lk, pm_e_rm0, pm_e_rm1, pm_e_rs0, pm_e_rs1, pm_e_wp0, pm_e_wp1, pm_f2, pm_f3, pm_s_goto, pm_s_iand, pm_s_iconst, pm_s_if_icmp_eq, pm_s_iload_n, pm_s_ireturn, ct_X0_suitsTurn, -Int32.not_le, -Int32.not_lt, -Int64.not_le, -Int64.not_lt, ni_0, ni_1])
    all_goals simp_all [ni_0, ni_1, pb_t, pb_f, -Int32.not_le, -Int32.not_lt]
  · exact hT.elim
end
section
def bcF (x : Int32) : Int32 :=
  let u := fun (a b : Int32) => (a.toUInt32 >>> (b.toUInt32 &&& Int32.toUInt32 31)).toInt32
  let a := x - (u x (nI 1) &&& nI 1431655765)
  let b := (a &&& nI 858993459) + (u a (nI 2) &&& nI 858993459)
  let c := (b + u b (nI 4)) &&& nI 252645135
  let d := c + u c (nI 8)
  let e := d + u d (nI 16)
  e &&& nI 63
def tt_J6_bitCount_0f7a4 : pm_T := fun args M k => match args with
  | [.int x] => k (some (.int (bcF x))) M
  | _ => False
abbrev ct_J6_bitCount_0f7a4 : List pm_C := []
set_option maxHeartbeats 4000000 in
theorem sm_J6_bitCount_0f7a4 {SH : List pm_S} : pm_Sem SH yJ6_bitCount_0f7a4 cJ6_bitCount_0f7a4 1 (some .int) 1 tt_J6_bitCount_0f7a4 := by
  refine pm_Sem_intro bl_J6_bitCount_0f7a4 ct_J6_bitCount_0f7a4 cs_J6_bitCount_0f7a4 rfl (fun _ h => absurd h List.not_mem_nil) ck_J6_bitCount_0f7a4 (by decide +kernel) (by decide) ?_
  intro X k hX args M hT
  have hb0 := hX 0 bk_J6_bitCount_0f7a4_0 (List.mem_of_getElem? (i := 0) rfl)
  clear hX
  unfold tt_J6_bitCount_0f7a4 at hT; split at hT
  · refine ⟨by simp [lg_sl, Value.category], ?_⟩
    refine hb0 _ _ _ ?_
    simp [bk_J6_bitCount_0f7a4_0, pm_e_c0, pm_e_c1, pm_e_cti, pm_e_ctl, pm_e_ctr, pm_e_go, pm_e_i, pm_e_ii, pm_e_ldi, pm_e_lk, pm_e_rm0, pm_e_rm1, pm_e_rs0, pm_e_rs1, pm_e_wp0, pm_e_wp1, pm_f2, pm_f3, pm_s_bipush, pm_s_iadd, pm_s_iand, pm_s_iconst, pm_s_iload_n, pm_s_ireturn, pm_s_istore_n, pm_s_isub, pm_s_iushr, pm_s_ldc_w, ct_J6_bitCount_0f7a4, -Int32.not_le, -Int32.not_lt, -Int64.not_le, -Int64.not_lt, lv_args]
    exact hT
  · exact hT.elim
def mxF (x y : Int32) : Int32 := if x < y then y else x
def mnF (x y : Int32) : Int32 := if y < x then y else x
def tt_J9_max_7cf53 : pm_T := fun args M k => match args with
  | [.int x, .int y] => k (some (.int (mxF x y))) M
  | _ => False
abbrev ct_J9_max_7cf53 : List pm_C := []
set_option maxHeartbeats 4000000 in
theorem sm_J9_max_7cf53 {SH : List pm_S} : pm_Sem SH yJ9_max_7cf53 cJ9_max_7cf53 2 (some .int) 1 tt_J9_max_7cf53 := by
  refine pm_Sem_intro bl_J9_max_7cf53 ct_J9_max_7cf53 cs_J9_max_7cf53 rfl (fun _ h => absurd h List.not_mem_nil) ck_J9_max_7cf53 (by decide +kernel) (by decide) ?_
  intro X k hX args M hT
  have hb0 := hX 0 bk_J9_max_7cf53_0 (List.mem_of_getElem? (i := 0) rfl)
  have hb9 := hX 9 bk_J9_max_7cf53_9 (List.mem_of_getElem? (i := 1) rfl)
  have hb10 := hX 10 bk_J9_max_7cf53_10 (List.mem_of_getElem? (i := 2) rfl)
  clear hX
  unfold tt_J9_max_7cf53 mxF at hT; split at hT
  · refine ⟨by simp [lg_sl, Value.category], ?_⟩
    refine hb0 _ _ _ ?_
    simp [bk_J9_max_7cf53_0, bk_J9_max_7cf53_9, bk_J9_max_7cf53_10, pm_e_cti, pm_e_ctl, pm_e_ctr, pm_e_go, pm_e_ii, pm_e_ldi, pm_e_lk, pm_e_rm0, pm_e_rm1, pm_e_rs0, pm_e_rs1, pm_e_wp0, pm_e_wp1, pm_f2, pm_f3, pm_s_goto, pm_s_if_icmp_lt, pm_s_iload_n, pm_s_ireturn, ct_J9_max_7cf53, -Int32.not_le, -Int32.not_lt, -Int64.not_le, -Int64.not_lt, lv_args]
    repeat' first
      | refine ⟨fun _ => ?_, fun _ => ?_⟩
      | (refine hb9 _ _ _ ?_; simp [bk_J9_max_7cf53_0, bk_J9_max_7cf53_9, bk_J9_max_7cf53_10, pm_e_cti, pm_e_ctl, pm_e_ctr, pm_e_go, pm_e_ii, pm_e_ldi, pm_e_lk, pm_e_rm0, pm_e_rm1, pm_e_rs0, pm_e_rs1, pm_e_wp0, pm_e_wp1, pm_f2, pm_f3, pm_s_goto, pm_s_if_icmp_lt, pm_s_iload_n, pm_s_ireturn, ct_J9_max_7cf53, -Int32.not_le, -Int32.not_lt, -Int64.not_le, -Int64.not_lt])
      | (refine hb10 _ _ _ ?_; simp [bk_J9_max_7cf53_0, bk_J9_max_7cf53_9, bk_J9_max_7cf53_10, pm_e_cti, pm_e_ctl, pm_e_ctr, pm_e_go, pm_e_ii, pm_e_ldi, pm_e_lk, pm_e_rm0, pm_e_rm1, pm_e_rs0, pm_e_rs1, pm_e_wp0, pm_e_wp1, pm_f2, pm_f3, pm_s_goto, pm_s_if_icmp_lt, pm_s_iload_n, pm_s_ireturn, ct_J9_max_7cf53, -Int32.not_le, -Int32.not_lt, -Int64.not_le, -Int64.not_lt])
    all_goals simp_all [ni_0, ni_1, pb_t, pb_f, -Int32.not_le, -Int32.not_lt]
  · exact hT.elim
def tt_J9_min_7cf53 : pm_T := fun args M k => match args with
  | [.int x, .int y] => k (some (.int (mnF x y))) M
  | _ => False
abbrev ct_J9_min_7cf53 : List pm_C := []
set_option maxHeartbeats 4000000 in
theorem sm_J9_min_7cf53 {SH : List pm_S} : pm_Sem SH yJ9_min_7cf53 cJ9_min_7cf53 2 (some .int) 1 tt_J9_min_7cf53 := by
  refine pm_Sem_intro bl_J9_min_7cf53 ct_J9_min_7cf53 cs_J9_min_7cf53 rfl (fun _ h => absurd h List.not_mem_nil) ck_J9_min_7cf53 (by decide +kernel) (by decide) ?_
  intro X k hX args M hT
  have hb0 := hX 0 bk_J9_min_7cf53_0 (List.mem_of_getElem? (i := 0) rfl)
  have hb9 := hX 9 bk_J9_min_7cf53_9 (List.mem_of_getElem? (i := 1) rfl)
  have hb10 := hX 10 bk_J9_min_7cf53_10 (List.mem_of_getElem? (i := 2) rfl)
  clear hX
  unfold tt_J9_min_7cf53 mnF at hT; split at hT
  · refine ⟨by simp [lg_sl, Value.category], ?_⟩
    refine hb0 _ _ _ ?_
    simp [bk_J9_min_7cf53_0, bk_J9_min_7cf53_9, bk_J9_min_7cf53_10, pm_e_cti, pm_e_ctl, pm_e_ctr, pm_e_go, pm_e_ii, pm_e_ldi, pm_e_lk, pm_e_rm0, pm_e_rm1, pm_e_rs0, pm_e_rs1, pm_e_wp0, pm_e_wp1, pm_f2, pm_f3, pm_s_goto, pm_s_if_icmp_gt, pm_s_iload_n, pm_s_ireturn, ct_J9_min_7cf53, -Int32.not_le, -Int32.not_lt, -Int64.not_le, -Int64.not_lt, lv_args]
    repeat' first
      | refine ⟨fun _ => ?_, fun _ => ?_⟩
      | (refine hb9 _ _ _ ?_; simp [bk_J9_min_7cf53_0, bk_J9_min_7cf53_9, bk_J9_min_7cf53_10, pm_e_cti, pm_e_ctl, pm_e_ctr, pm_e_go, pm_e_ii, pm_e_ldi, pm_e_lk, pm_e_rm0, pm_e_rm1, pm_e_rs0, pm_e_rs1, pm_e_wp0, pm_e_wp1, pm_f2, pm_f3, pm_s_goto, pm_s_if_icmp_gt, pm_s_iload_n, pm_s_ireturn, ct_J9_min_7cf53, -Int32.not_le, -Int32.not_lt, -Int64.not_le, -Int64.not_lt])
      | (refine hb10 _ _ _ ?_; simp [bk_J9_min_7cf53_0, bk_J9_min_7cf53_9, bk_J9_min_7cf53_10, pm_e_cti, pm_e_ctl, pm_e_ctr, pm_e_go, pm_e_ii, pm_e_ldi, pm_e_lk, pm_e_rm0, pm_e_rm1, pm_e_rs0, pm_e_rs1, pm_e_wp0, pm_e_wp1, pm_f2, pm_f3, pm_s_goto, pm_s_if_icmp_gt, pm_s_iload_n, pm_s_ireturn, ct_J9_min_7cf53, -Int32.not_le, -Int32.not_lt, -Int64.not_le, -Int64.not_lt])
    all_goals simp_all [ni_0, ni_1, pb_t, pb_f, -Int32.not_le, -Int32.not_lt]
  · exact hT.elim
def fmF (x y : Int32) : Int32 := if 0 ≤ (x ^^^ y) then x - x / y * y else if x - x / y * y = 0 then x - x / y * y else x - x / y * y + y
def tt_J9_floorMod_7cf53 : pm_T := fun args M k => match args with
  | [.int x, .int y] => ¬ y = 0 ∧ k (some (.int (fmF x y))) M
  | _ => False
abbrev ct_J9_floorMod_7cf53 : List pm_C := []
set_option maxHeartbeats 4000000 in
theorem sm_J9_floorMod_7cf53 {SH : List pm_S} : pm_Sem SH yJ9_floorMod_7cf53 cJ9_floorMod_7cf53 3 (some .int) 1 tt_J9_floorMod_7cf53 := by
  refine pm_Sem_intro bl_J9_floorMod_7cf53 ct_J9_floorMod_7cf53 cs_J9_floorMod_7cf53 rfl (fun _ h => absurd h List.not_mem_nil) ck_J9_floorMod_7cf53 (by decide +kernel) (by decide) ?_
  intro X k hX args M hT
  have hb0 := hX 0 bk_J9_floorMod_7cf53_0 (List.mem_of_getElem? (i := 0) rfl)
  have hb18 := hX 18 bk_J9_floorMod_7cf53_18 (List.mem_of_getElem? (i := 1) rfl)
  clear hX
  unfold tt_J9_floorMod_7cf53 fmF at hT; split at hT
  · obtain ⟨h0, hT⟩ := hT
    refine ⟨by simp [lg_sl, Value.category], ?_⟩
    refine hb0 _ _ _ ?_
    simp [bk_J9_floorMod_7cf53_0, bk_J9_floorMod_7cf53_18, pm_e_cti, pm_e_ctl, pm_e_ctr, pm_e_go, pm_e_i, pm_e_ii, pm_e_ldi, pm_e_lk, pm_e_rm0, pm_e_rm1, pm_e_rs0, pm_e_rs1, pm_e_wp0, pm_e_wp1, pm_f2, pm_f3, pm_s_iadd, pm_s_ifCond_eq, pm_s_ifCond_ge, pm_s_iload_n, pm_s_irem, pm_s_ireturn, pm_s_istore_n, pm_s_ixor, ct_J9_floorMod_7cf53, -Int32.not_le, -Int32.not_lt, -Int64.not_le, -Int64.not_lt, lv_args, h0]
    repeat' first
      | refine ⟨fun _ => ?_, fun _ => ?_⟩
      | (refine hb18 _ _ _ ?_; simp [bk_J9_floorMod_7cf53_0, bk_J9_floorMod_7cf53_18, pm_e_cti, pm_e_ctl, pm_e_ctr, pm_e_go, pm_e_i, pm_e_ii, pm_e_ldi, pm_e_lk, pm_e_rm0, pm_e_rm1, pm_e_rs0, pm_e_rs1, pm_e_wp0, pm_e_wp1, pm_f2, pm_f3, pm_s_iadd, pm_s_ifCond_eq, pm_s_ifCond_ge, pm_s_iload_n, pm_s_irem, pm_s_ireturn, pm_s_istore_n, pm_s_ixor, ct_J9_floorMod_7cf53, -Int32.not_le, -Int32.not_lt, -Int64.not_le, -Int64.not_lt])
    all_goals simp_all [ni_0, ni_1, pb_t, pb_f, -Int32.not_le, -Int32.not_lt]
  · exact hT.elim
-- a row is filled
def pm_fill (M : pm_M) (q n : Nat) (v : Int32) : pm_M := (fun a j => if a = q ∧ j < n then v else M.1 a j, M.2)
def pm_fillL (M : pm_M) (q n : Nat) (v : Int64) : pm_M := (M.1, fun a j => if a = q ∧ j < n then v else M.2 a j)
theorem pm_fill_0 {M : pm_M} {q : Nat} {v : Int32} : pm_fill M q 0 v = M := by simp [pm_fill]
theorem pm_fillL_0 {M : pm_M} {q : Nat} {v : Int64} : pm_fillL M q 0 v = M := by simp [pm_fillL]
theorem pm_fill_s {M : pm_M} {q n : Nat} {v : Int32} : pm_set (pm_fill M q n v) q n v = pm_fill M q (n + 1) v := by
  refine Prod.ext (funext fun a => funext fun j => ?_) rfl
  show (if a = q ∧ j = n then v else if a = q ∧ j < n then v else M.1 a j) = if a = q ∧ j < n + 1 then v else M.1 a j
  by_cases h : a = q <;> by_cases h2 : j = n <;> by_cases h3 : j < n <;> simp [h, h2, h3] <;> omega
theorem pm_fillL_s {M : pm_M} {q n : Nat} {v : Int64} : pm_setL (pm_fillL M q n v) q n v = pm_fillL M q (n + 1) v := by
  refine Prod.ext rfl (funext fun a => funext fun j => ?_)
  show (if a = q ∧ j = n then v else if a = q ∧ j < n then v else M.2 a j) = if a = q ∧ j < n + 1 then v else M.2 a j
  by_cases h : a = q <;> by_cases h2 : j = n <;> by_cases h3 : j < n <;> simp [h, h2, h3] <;> omega
def tt_J7_fill_d0a16 (SH : List pm_S) : pm_T := fun args M k => match args with
  | [.ref q, .long v] => ∃ n, SH[q]? = some (.inl (4, n)) ∧ n < 2 ^ 31 ∧ k none (pm_fillL M q n v)
  | _ => False
abbrev ct_J7_fill_d0a16 : List pm_C := []
set_option maxHeartbeats 4000000 in
theorem sm_J7_fill_d0a16 {SH : List pm_S} : pm_Sem SH yJ7_fill_d0a16 cJ7_fill_d0a16 5 none 1 (tt_J7_fill_d0a16 SH) := by
  refine pm_Sem_intro bl_J7_fill_d0a16 ct_J7_fill_d0a16 cs_J7_fill_d0a16 rfl (fun _ h => absurd h List.not_mem_nil) ck_J7_fill_d0a16 (by decide +kernel) (by decide) ?_
  intro X k hX args M hT
  have hb0 := hX 0 bk_J7_fill_d0a16_0 (List.mem_of_getElem? (i := 0) rfl)
  have hb6 := hX 6 bk_J7_fill_d0a16_6 (List.mem_of_getElem? (i := 1) rfl)
  have hb22 := hX 22 bk_J7_fill_d0a16_22 (List.mem_of_getElem? (i := 2) rfl)
  clear hX
  unfold tt_J7_fill_d0a16 at hT; split at hT
  · next q v =>
    obtain ⟨n, hq, hn, hT⟩ := hT
    have loop : ∀ (f i : Nat), n ≤ i + f → i ≤ n → X 6 [(0, .ref q), (1, .long v), (3, .int (nI i)), (4, .int (nI n))] [] (pm_fillL M q i v) := by
      intro f
      induction f with
      | zero =>
        intro i h1 h2
        have e : i = n := by omega
        subst e
        refine hb6 _ _ _ ?_
        simp [bk_J7_fill_d0a16_0, bk_J7_fill_d0a16_6, bk_J7_fill_d0a16_22, pm_arr, pm_e_c0, pm_e_c1, pm_e_cti, pm_e_ctl, pm_e_ctr, pm_e_go, pm_e_i, pm_e_ii, pm_e_ldi, pm_e_ldl, pm_e_ldr, pm_e_lk, pm_e_r, pm_e_ril, pm_e_rm0, pm_e_rm1, pm_e_rs0, pm_e_rs1, pm_e_wp0, pm_e_wp1, pm_f2, pm_f3, pm_s_aload_n, pm_s_arraylength, pm_s_goto, pm_s_iconst, pm_s_if_icmp_ge, pm_s_iinc, pm_s_iload, pm_s_iload_n, pm_s_istore, pm_s_istore_n, pm_s_lastore, pm_s_lload_n, pm_s_return, ct_J7_fill_d0a16, -Int32.not_le, -Int32.not_lt, -Int64.not_le, -Int64.not_lt]
        refine hb22 _ _ _ ?_
        simp [bk_J7_fill_d0a16_0, bk_J7_fill_d0a16_6, bk_J7_fill_d0a16_22, pm_arr, pm_e_c0, pm_e_c1, pm_e_cti, pm_e_ctl, pm_e_ctr, pm_e_go, pm_e_i, pm_e_ii, pm_e_ldi, pm_e_ldl, pm_e_ldr, pm_e_lk, pm_e_r, pm_e_ril, pm_e_rm0, pm_e_rm1, pm_e_rs0, pm_e_rs1, pm_e_wp0, pm_e_wp1, pm_f2, pm_f3, pm_s_aload_n, pm_s_arraylength, pm_s_goto, pm_s_iconst, pm_s_if_icmp_ge, pm_s_iinc, pm_s_iload, pm_s_iload_n, pm_s_istore, pm_s_istore_n, pm_s_lastore, pm_s_lload_n, pm_s_return, ct_J7_fill_d0a16, -Int32.not_le, -Int32.not_lt, -Int64.not_le, -Int64.not_lt]
        exact hT
      | succ f ih =>
        intro i h1 h2
        refine hb6 _ _ _ ?_
        simp [bk_J7_fill_d0a16_0, bk_J7_fill_d0a16_6, bk_J7_fill_d0a16_22, pm_arr, pm_e_c0, pm_e_c1, pm_e_cti, pm_e_ctl, pm_e_ctr, pm_e_go, pm_e_i, pm_e_ii, pm_e_ldi, pm_e_ldl, pm_e_ldr, pm_e_lk, pm_e_r, pm_e_ril, pm_e_rm0, pm_e_rm1, pm_e_rs0, pm_e_rs1, pm_e_wp0, pm_e_wp1, pm_f2, pm_f3, pm_s_aload_n, pm_s_arraylength, pm_s_goto, pm_s_iconst, pm_s_if_icmp_ge, pm_s_iinc, pm_s_iload, pm_s_iload_n, pm_s_istore, pm_s_istore_n, pm_s_lastore, pm_s_lload_n, pm_s_return, ct_J7_fill_d0a16, -Int32.not_le, -Int32.not_lt, -Int64.not_le, -Int64.not_lt, hq]
        rw [ni_le hn (by omega), ni_in (by omega), ni_cl (by omega)]
        refine ⟨fun h => ?_, fun h => ⟨by omega, ?_⟩⟩
        · have e : i = n := by omega
          subst e
          refine hb22 _ _ _ ?_
          simp [bk_J7_fill_d0a16_0, bk_J7_fill_d0a16_6, bk_J7_fill_d0a16_22, pm_arr, pm_e_c0, pm_e_c1, pm_e_cti, pm_e_ctl, pm_e_ctr, pm_e_go, pm_e_i, pm_e_ii, pm_e_ldi, pm_e_ldl, pm_e_ldr, pm_e_lk, pm_e_r, pm_e_ril, pm_e_rm0, pm_e_rm1, pm_e_rs0, pm_e_rs1, pm_e_wp0, pm_e_wp1, pm_f2, pm_f3, pm_s_aload_n, pm_s_arraylength, pm_s_goto, pm_s_iconst, pm_s_if_icmp_ge, pm_s_iinc, pm_s_iload, pm_s_iload_n, pm_s_istore, pm_s_istore_n, pm_s_lastore, pm_s_lload_n, pm_s_return, ct_J7_fill_d0a16, -Int32.not_le, -Int32.not_lt, -Int64.not_le, -Int64.not_lt]
          exact hT
        · rw [ni_add, pm_fillL_s]
          exact ih (i + 1) (by omega) (by omega)
    refine ⟨by simp [lg_sl, Value.category], ?_⟩
    refine hb0 _ _ _ ?_
    simp [bk_J7_fill_d0a16_0, bk_J7_fill_d0a16_6, bk_J7_fill_d0a16_22, pm_arr, pm_e_c0, pm_e_c1, pm_e_cti, pm_e_ctl, pm_e_ctr, pm_e_go, pm_e_i, pm_e_ii, pm_e_ldi, pm_e_ldl, pm_e_ldr, pm_e_lk, pm_e_r, pm_e_ril, pm_e_rm0, pm_e_rm1, pm_e_rs0, pm_e_rs1, pm_e_wp0, pm_e_wp1, pm_f2, pm_f3, pm_s_aload_n, pm_s_arraylength, pm_s_goto, pm_s_iconst, pm_s_if_icmp_ge, pm_s_iinc, pm_s_iload, pm_s_iload_n, pm_s_istore, pm_s_istore_n, pm_s_lastore, pm_s_lload_n, pm_s_return, ct_J7_fill_d0a16, -Int32.not_le, -Int32.not_lt, -Int64.not_le, -Int64.not_lt, lv_args, hq]
    have := loop n 0 (by omega) (by omega)
    rw [pm_fillL_0] at this
    exact this
  · exact hT.elim
def tt_J7_fill_53178 (SH : List pm_S) : pm_T := fun args M k => match args with
  | [.ref q, .int v] => ∃ n, SH[q]? = some (.inl (0, n)) ∧ n < 2 ^ 31 ∧ k none (pm_fill M q n v)
  | _ => False
abbrev ct_J7_fill_53178 : List pm_C := []
set_option maxHeartbeats 4000000 in
theorem sm_J7_fill_53178 {SH : List pm_S} : pm_Sem SH yJ7_fill_53178 cJ7_fill_53178 4 none 1 (tt_J7_fill_53178 SH) := by
  refine pm_Sem_intro bl_J7_fill_53178 ct_J7_fill_53178 cs_J7_fill_53178 rfl (fun _ h => absurd h List.not_mem_nil) ck_J7_fill_53178 (by decide +kernel) (by decide) ?_
  intro X k hX args M hT
  have hb0 := hX 0 bk_J7_fill_53178_0 (List.mem_of_getElem? (i := 0) rfl)
  have hb5 := hX 5 bk_J7_fill_53178_5 (List.mem_of_getElem? (i := 1) rfl)
  have hb20 := hX 20 bk_J7_fill_53178_20 (List.mem_of_getElem? (i := 2) rfl)
  clear hX
  unfold tt_J7_fill_53178 at hT; split at hT
  · next q v =>
    obtain ⟨n, hq, hn, hT⟩ := hT
    have loop : ∀ (f i : Nat), n ≤ i + f → i ≤ n → X 5 [(0, .ref q), (1, .int v), (2, .int (nI i)), (3, .int (nI n))] [] (pm_fill M q i v) := by
      intro f
      induction f with
      | zero =>
        intro i h1 h2
        have e : i = n := by omega
        subst e
        refine hb5 _ _ _ ?_
        simp [bk_J7_fill_53178_0, bk_J7_fill_53178_5, bk_J7_fill_53178_20, pm_arr, pm_e_c0, pm_e_c1, pm_e_cti, pm_e_ctl, pm_e_ctr, pm_e_go, pm_e_i, pm_e_ii, pm_e_ldi, pm_e_ldr, pm_e_lk, pm_e_r, pm_e_rii, pm_e_rm0, pm_e_rm1, pm_e_rs0, pm_e_rs1, pm_e_wp0, pm_e_wp1, pm_f2, pm_f3, pm_s_aload_n, pm_s_arraylength, pm_s_goto, pm_s_iastore, pm_s_iconst, pm_s_if_icmp_ge, pm_s_iinc, pm_s_iload_n, pm_s_istore_n, pm_s_return, ct_J7_fill_53178, -Int32.not_le, -Int32.not_lt, -Int64.not_le, -Int64.not_lt]
        refine hb20 _ _ _ ?_
        simp [bk_J7_fill_53178_0, bk_J7_fill_53178_5, bk_J7_fill_53178_20, pm_arr, pm_e_c0, pm_e_c1, pm_e_cti, pm_e_ctl, pm_e_ctr, pm_e_go, pm_e_i, pm_e_ii, pm_e_ldi, pm_e_ldr, pm_e_lk, pm_e_r, pm_e_rii, pm_e_rm0, pm_e_rm1, pm_e_rs0, pm_e_rs1, pm_e_wp0, pm_e_wp1, pm_f2, pm_f3, pm_s_aload_n, pm_s_arraylength, pm_s_goto, pm_s_iastore, pm_s_iconst, pm_s_if_icmp_ge, pm_s_iinc, pm_s_iload_n, pm_s_istore_n, pm_s_return, ct_J7_fill_53178, -Int32.not_le, -Int32.not_lt, -Int64.not_le, -Int64.not_lt]
        exact hT
      | succ f ih =>
        intro i h1 h2
        refine hb5 _ _ _ ?_
        simp [bk_J7_fill_53178_0, bk_J7_fill_53178_5, bk_J7_fill_53178_20, pm_arr, pm_e_c0, pm_e_c1, pm_e_cti, pm_e_ctl, pm_e_ctr, pm_e_go, pm_e_i, pm_e_ii, pm_e_ldi, pm_e_ldr, pm_e_lk, pm_e_r, pm_e_rii, pm_e_rm0, pm_e_rm1, pm_e_rs0, pm_e_rs1, pm_e_wp0, pm_e_wp1, pm_f2, pm_f3, pm_s_aload_n, pm_s_arraylength, pm_s_goto, pm_s_iastore, pm_s_iconst, pm_s_if_icmp_ge, pm_s_iinc, pm_s_iload_n, pm_s_istore_n, pm_s_return, ct_J7_fill_53178, -Int32.not_le, -Int32.not_lt, -Int64.not_le, -Int64.not_lt, hq]
        rw [ni_le hn (by omega), ni_in (by omega), ni_cl (by omega)]
        refine ⟨fun h => ?_, fun h => ⟨by omega, ?_⟩⟩
        · have e : i = n := by omega
          subst e
          refine hb20 _ _ _ ?_
          simp [bk_J7_fill_53178_0, bk_J7_fill_53178_5, bk_J7_fill_53178_20, pm_arr, pm_e_c0, pm_e_c1, pm_e_cti, pm_e_ctl, pm_e_ctr, pm_e_go, pm_e_i, pm_e_ii, pm_e_ldi, pm_e_ldr, pm_e_lk, pm_e_r, pm_e_rii, pm_e_rm0, pm_e_rm1, pm_e_rs0, pm_e_rs1, pm_e_wp0, pm_e_wp1, pm_f2, pm_f3, pm_s_aload_n, pm_s_arraylength, pm_s_goto, pm_s_iastore, pm_s_iconst, pm_s_if_icmp_ge, pm_s_iinc, pm_s_iload_n, pm_s_istore_n, pm_s_return, ct_J7_fill_53178, -Int32.not_le, -Int32.not_lt, -Int64.not_le, -Int64.not_lt]
          exact hT
        · rw [ni_add, pm_fill_s]
          exact ih (i + 1) (by omega) (by omega)
    refine ⟨by simp [lg_sl, Value.category], ?_⟩
    refine hb0 _ _ _ ?_
    simp [bk_J7_fill_53178_0, bk_J7_fill_53178_5, bk_J7_fill_53178_20, pm_arr, pm_e_c0, pm_e_c1, pm_e_cti, pm_e_ctl, pm_e_ctr, pm_e_go, pm_e_i, pm_e_ii, pm_e_ldi, pm_e_ldr, pm_e_lk, pm_e_r, pm_e_rii, pm_e_rm0, pm_e_rm1, pm_e_rs0, pm_e_rs1, pm_e_wp0, pm_e_wp1, pm_f2, pm_f3, pm_s_aload_n, pm_s_arraylength, pm_s_goto, pm_s_iastore, pm_s_iconst, pm_s_if_icmp_ge, pm_s_iinc, pm_s_iload_n, pm_s_istore_n, pm_s_return, ct_J7_fill_53178, -Int32.not_le, -Int32.not_lt, -Int64.not_le, -Int64.not_lt, lv_args, hq]
    have := loop n 0 (by omega) (by omega)
    rw [pm_fill_0] at this
    exact this
  · exact hT.elim
def tt_J7_fill_fb410 (SH : List pm_S) : pm_T := fun args M k => match args with
  | [.ref q, .int v] => ∃ n, SH[q]? = some (.inl (3, n)) ∧ n < 2 ^ 31 ∧ v.toInt16.toInt32 = v ∧ k none (pm_fill M q n v)
  | _ => False
abbrev ct_J7_fill_fb410 : List pm_C := []
set_option maxHeartbeats 4000000 in
theorem sm_J7_fill_fb410 {SH : List pm_S} : pm_Sem SH yJ7_fill_fb410 cJ7_fill_fb410 4 none 1 (tt_J7_fill_fb410 SH) := by
  refine pm_Sem_intro bl_J7_fill_fb410 ct_J7_fill_fb410 cs_J7_fill_fb410 rfl (fun _ h => absurd h List.not_mem_nil) ck_J7_fill_fb410 (by decide +kernel) (by decide) ?_
  intro X k hX args M hT
  have hb0 := hX 0 bk_J7_fill_fb410_0 (List.mem_of_getElem? (i := 0) rfl)
  have hb5 := hX 5 bk_J7_fill_fb410_5 (List.mem_of_getElem? (i := 1) rfl)
  have hb20 := hX 20 bk_J7_fill_fb410_20 (List.mem_of_getElem? (i := 2) rfl)
  clear hX
  unfold tt_J7_fill_fb410 at hT; split at hT
  · next q v =>
    obtain ⟨n, hq, hn, hv, hT⟩ := hT
    have loop : ∀ (f i : Nat), n ≤ i + f → i ≤ n → X 5 [(0, .ref q), (1, .int v), (2, .int (nI i)), (3, .int (nI n))] [] (pm_fill M q i v) := by
      intro f
      induction f with
      | zero =>
        intro i h1 h2
        have e : i = n := by omega
        subst e
        refine hb5 _ _ _ ?_
        simp [bk_J7_fill_fb410_0, bk_J7_fill_fb410_5, bk_J7_fill_fb410_20, pm_arr, pm_e_c0, pm_e_c1, pm_e_cti, pm_e_ctl, pm_e_ctr, pm_e_go, pm_e_i, pm_e_ii, pm_e_ldi, pm_e_ldr, pm_e_lk, pm_e_r, pm_e_rii, pm_e_rm0, pm_e_rm1, pm_e_rs0, pm_e_rs1, pm_e_wp0, pm_e_wp1, pm_f2, pm_f3, pm_s_aload_n, pm_s_arraylength, pm_s_goto, pm_s_iconst, pm_s_if_icmp_ge, pm_s_iinc, pm_s_iload_n, pm_s_istore_n, pm_s_return, pm_s_sastore, ct_J7_fill_fb410, -Int32.not_le, -Int32.not_lt, -Int64.not_le, -Int64.not_lt]
        refine hb20 _ _ _ ?_
        simp [bk_J7_fill_fb410_0, bk_J7_fill_fb410_5, bk_J7_fill_fb410_20, pm_arr, pm_e_c0, pm_e_c1, pm_e_cti, pm_e_ctl, pm_e_ctr, pm_e_go, pm_e_i, pm_e_ii, pm_e_ldi, pm_e_ldr, pm_e_lk, pm_e_r, pm_e_rii, pm_e_rm0, pm_e_rm1, pm_e_rs0, pm_e_rs1, pm_e_wp0, pm_e_wp1, pm_f2, pm_f3, pm_s_aload_n, pm_s_arraylength, pm_s_goto, pm_s_iconst, pm_s_if_icmp_ge, pm_s_iinc, pm_s_iload_n, pm_s_istore_n, pm_s_return, pm_s_sastore, ct_J7_fill_fb410, -Int32.not_le, -Int32.not_lt, -Int64.not_le, -Int64.not_lt]
        exact hT
      | succ f ih =>
        intro i h1 h2
        refine hb5 _ _ _ ?_
        simp [bk_J7_fill_fb410_0, bk_J7_fill_fb410_5, bk_J7_fill_fb410_20, pm_arr, pm_e_c0, pm_e_c1, pm_e_cti, pm_e_ctl, pm_e_ctr, pm_e_go, pm_e_i, pm_e_ii, pm_e_ldi, pm_e_ldr, pm_e_lk, pm_e_r, pm_e_rii, pm_e_rm0, pm_e_rm1, pm_e_rs0, pm_e_rs1, pm_e_wp0, pm_e_wp1, pm_f2, pm_f3, pm_s_aload_n, pm_s_arraylength, pm_s_goto, pm_s_iconst, pm_s_if_icmp_ge, pm_s_iinc, pm_s_iload_n, pm_s_istore_n, pm_s_return, pm_s_sastore, ct_J7_fill_fb410, -Int32.not_le, -Int32.not_lt, -Int64.not_le, -Int64.not_lt, hq, hv]
        rw [ni_le hn (by omega), ni_in (by omega), ni_cl (by omega)]
        refine ⟨fun h => ?_, fun h => ⟨by omega, ?_⟩⟩
        · have e : i = n := by omega
          subst e
          refine hb20 _ _ _ ?_
          simp [bk_J7_fill_fb410_0, bk_J7_fill_fb410_5, bk_J7_fill_fb410_20, pm_arr, pm_e_c0, pm_e_c1, pm_e_cti, pm_e_ctl, pm_e_ctr, pm_e_go, pm_e_i, pm_e_ii, pm_e_ldi, pm_e_ldr, pm_e_lk, pm_e_r, pm_e_rii, pm_e_rm0, pm_e_rm1, pm_e_rs0, pm_e_rs1, pm_e_wp0, pm_e_wp1, pm_f2, pm_f3, pm_s_aload_n, pm_s_arraylength, pm_s_goto, pm_s_iconst, pm_s_if_icmp_ge, pm_s_iinc, pm_s_iload_n, pm_s_istore_n, pm_s_return, pm_s_sastore, ct_J7_fill_fb410, -Int32.not_le, -Int32.not_lt, -Int64.not_le, -Int64.not_lt]
          exact hT
        · rw [ni_add, pm_fill_s]
          exact ih (i + 1) (by omega) (by omega)
    refine ⟨by simp [lg_sl, Value.category], ?_⟩
    refine hb0 _ _ _ ?_
    simp [bk_J7_fill_fb410_0, bk_J7_fill_fb410_5, bk_J7_fill_fb410_20, pm_arr, pm_e_c0, pm_e_c1, pm_e_cti, pm_e_ctl, pm_e_ctr, pm_e_go, pm_e_i, pm_e_ii, pm_e_ldi, pm_e_ldr, pm_e_lk, pm_e_r, pm_e_rii, pm_e_rm0, pm_e_rm1, pm_e_rs0, pm_e_rs1, pm_e_wp0, pm_e_wp1, pm_f2, pm_f3, pm_s_aload_n, pm_s_arraylength, pm_s_goto, pm_s_iconst, pm_s_if_icmp_ge, pm_s_iinc, pm_s_iload_n, pm_s_istore_n, pm_s_return, pm_s_sastore, ct_J7_fill_fb410, -Int32.not_le, -Int32.not_lt, -Int64.not_le, -Int64.not_lt, lv_args, hq]
    have := loop n 0 (by omega) (by omega)
    rw [pm_fill_0] at this
    exact this
  · exact hT.elim
end
section
/-! CARDS, LAWS, STANDS: the mathematics that both sides are tied to. A card is a number 1 .. s * r; 0 is none. -/
/-- suits, ranks, columns, cells, law -/
abbrev Pm : Type := Nat × Nat × Nat × Nat × Nat
abbrev pS (P : Pm) : Nat := P.1
abbrev pR (P : Pm) : Nat := P.2.1
abbrev pC (P : Pm) : Nat := P.2.2.1
abbrev pE (P : Pm) : Nat := P.2.2.2.1
abbrev pL (P : Pm) : Nat := P.2.2.2.2
def okP (P : Pm) : Prop := 1 ≤ pS P ∧ pS P ≤ 4 ∧ 1 ≤ pR P ∧ pR P ≤ 6 ∧ pS P * pR P ≤ 12 ∧ 1 ≤ pC P ∧ pC P ≤ 4 ∧ pE P ≤ 2 ∧ pL P ≤ 4
def su (r n : Nat) : Nat := (n - 1) / r
def ra (r n : Nat) : Nat := (n - 1) % r + 1
/-- the card onto the other, or onto an empty column (0) -/
def letF (P : Pm) (n o : Nat) : Bool :=
  if o = 0 then (!decide (pL P = 4) || decide (ra (pR P) n = pR P))
  else if pL P = 1 then decide (ra (pR P) o = ra (pR P) n + 1) && decide (su (pR P) o = su (pR P) n)
  else if pL P = 3 then decide (su (pR P) o = su (pR P) n) && (decide (ra (pR P) o = ra (pR P) n + 1) || (decide (1 < pR P) && decide (ra (pR P) n = pR P) && decide (ra (pR P) o = 1)))
  else if pL P = 2 ∨ pL P = 4 then decide (ra (pR P) o = ra (pR P) n + 1) && !decide (su (pR P) n % 2 = su (pR P) o % 2)
  else decide (ra (pR P) o = ra (pR P) n + 1)
theorem su_lt {s r n : Nat} (hr : 1 ≤ r) (h1 : 1 ≤ n) (h2 : n ≤ s * r) : su r n < s := by
  unfold su
  rw [Nat.div_lt_iff_lt_mul (by omega)]; omega
theorem ra_le {r n : Nat} (hr : 1 ≤ r) : ra r n ≤ r := by
  unfold ra; have := Nat.mod_lt (n - 1) (show r > 0 by omega); omega
theorem ra_ge {r n : Nat} : 1 ≤ ra r n := by unfold ra; omega
theorem su_ra {r n : Nat} (h1 : 1 ≤ n) : su r n * r + ra r n = n := by
  unfold su ra; have := Nat.div_add_mod (n - 1) r; rw [Nat.mul_comm] at this; omega
theorem su_of {r s k : Nat} (h1 : 1 ≤ k) (h2 : k ≤ r) : su r (s * r + k) = s := by
  unfold su
  rw [show s * r + k - 1 = (k - 1) + s * r by omega, Nat.add_mul_div_right _ _ (by omega), Nat.div_eq_of_lt (by omega)]; omega
theorem ra_of {r s k : Nat} (h1 : 1 ≤ k) (h2 : k ≤ r) : ra r (s * r + k) = k := by
  unfold ra
  rw [show s * r + k - 1 = (k - 1) + s * r by omega, Nat.add_mul_mod_self_right, Nat.mod_eq_of_lt (by omega)]; omega
theorem card_le {s r a k : Nat} (ha : a < s) (h2 : k ≤ r) : a * r + k ≤ s * r := by
  have : (a + 1) * r ≤ s * r := Nat.mul_le_mul_right r ha
  rw [Nat.succ_mul] at this; omega
theorem card_inj {r n o : Nat} (h1 : 1 ≤ n) (h2 : 1 ≤ o) (hs : su r n = su r o) (hr : ra r n = ra r o) : n = o := by
  rw [← su_ra (r := r) h1, ← su_ra (r := r) h2, hs, hr]
/-- columns, cells, houses -/
abbrev St : Type := (Nat → List Nat) × (Nat → Nat) × (Nat → Nat)
def up {α : Type} (f : Nat → α) (i : Nat) (v : α) : Nat → α := fun j => if j = i then v else f j
theorem up_s {α : Type} (f : Nat → α) (i : Nat) (v : α) : up f i v i = v := by simp [up]
theorem up_n {α : Type} (f : Nat → α) {i j : Nat} (v : α) (h : j ≠ i) : up f i v j = f j := by simp [up, h]
theorem rev_ind {motive : List Nat → Prop} (nil : motive []) (snoc : ∀ l d, motive l → motive (l ++ [d])) (l : List Nat) : motive l := by
  have h : ∀ l : List Nat, motive l.reverse := by
    intro l
    induction l with
    | nil => exact nil
    | cons d l ih => rw [List.reverse_cons]; exact snoc _ d ih
  have := h l.reverse
  rwa [List.reverse_reverse] at this
/-- the digits of a column, four bits a card, the last one lowest -/
def pq (l : List Nat) : Nat := l.foldl (fun a d => 16 * a + d) 0
theorem pq_nil : pq [] = 0 := rfl
theorem pq_app (l : List Nat) (d : Nat) : pq (l ++ [d]) = 16 * pq l + d := by simp [pq]
theorem pq_fold (l : List Nat) : ∀ a, l.foldl (fun a d => 16 * a + d) a = a * 16 ^ l.length + pq l := by
  induction l with
  | nil => intro a; simp [pq]
  | cons d l ih =>
    intro a
    show l.foldl _ (16 * a + d) = a * 16 ^ (l.length + 1) + l.foldl _ (16 * 0 + d)
    rw [ih, ih (16 * 0 + d), Nat.pow_succ, Nat.add_mul, Nat.add_mul]
    have : 16 * a * 16 ^ l.length = a * (16 ^ l.length * 16) := by rw [Nat.mul_comm 16 a, Nat.mul_assoc, Nat.mul_comm 16]
    omega
theorem pq_append (l m : List Nat) : pq (l ++ m) = pq l * 16 ^ m.length + pq m := by
  unfold pq; rw [List.foldl_append]; exact pq_fold m _
theorem pq_lt {l : List Nat} (h : ∀ d ∈ l, d < 16) : pq l < 16 ^ l.length := by
  induction l using rev_ind with
  | nil => simp [pq]
  | snoc l d ih =>
    rw [pq_app, List.length_append, List.length_singleton, Nat.pow_succ]
    have h1 := ih (fun x hx => h x (List.mem_append_left _ hx))
    have h2 := h d (by simp)
    omega
/-- the last card of a column, or 0 -/
def lastC (l : List Nat) : Nat := l.getLast?.getD 0
theorem lastC_pq {l : List Nat} (h : ∀ d ∈ l, d < 16) : pq l % 16 = lastC l := by
  induction l using rev_ind with
  | nil => rfl
  | snoc l d ih =>
    have h2 := h d (by simp)
    rw [pq_app]; simp [lastC]; omega
theorem dropLast_pq {l : List Nat} (h : ∀ d ∈ l, d < 16) : pq l / 16 = pq l.dropLast := by
  induction l using rev_ind with
  | nil => rfl
  | snoc l d ih =>
    have h2 := h d (by simp)
    rw [pq_app]; simp; omega
theorem lastC_0 {l : List Nat} (h : ∀ d ∈ l, 1 ≤ d) : lastC l = 0 ↔ l = [] := by
  induction l using rev_ind with
  | nil => simp [lastC]
  | snoc l d ih =>
    have h2 := h d (by simp)
    simp [lastC]; omega
theorem pq_take {l : List Nat} (h : ∀ d ∈ l, d < 16) {n : Nat} (hn : n ≤ l.length) : pq l / 16 ^ n = pq (l.take (l.length - n)) := by
  have e : l = l.take (l.length - n) ++ l.drop (l.length - n) := (List.take_append_drop _ _).symm
  have hl : (l.drop (l.length - n)).length = n := by rw [List.length_drop]; omega
  have hd : pq (l.drop (l.length - n)) < 16 ^ n := by
    have := pq_lt (l := l.drop (l.length - n)) (fun d hd => h d (List.mem_of_mem_drop hd))
    rwa [hl] at this
  conv => lhs; rw [e, pq_append, hl]
  rw [Nat.add_comm, Nat.add_mul_div_right _ _ (Nat.pow_pos (by omega)), Nat.div_eq_of_lt hd]; omega
theorem pq_drop {l : List Nat} (h : ∀ d ∈ l, d < 16) {n : Nat} (hn : n ≤ l.length) : pq l % 16 ^ n = pq (l.drop (l.length - n)) := by
  have e : l = l.take (l.length - n) ++ l.drop (l.length - n) := (List.take_append_drop _ _).symm
  have hl : (l.drop (l.length - n)).length = n := by rw [List.length_drop]; omega
  have hd : pq (l.drop (l.length - n)) < 16 ^ n := by
    have := pq_lt (l := l.drop (l.length - n)) (fun d hd => h d (List.mem_of_mem_drop hd))
    rwa [hl] at this
  conv => lhs; rw [e, pq_append, hl]
  rw [Nat.add_comm, Nat.add_mul_mod_self_right, Nat.mod_eq_of_lt hd]
theorem pq_at {l : List Nat} (h : ∀ d ∈ l, d < 16) {i : Nat} (hi : i < l.length) : pq l / 16 ^ (l.length - 1 - i) % 16 = l.getD i 0 := by
  rw [pq_take h (by omega), lastC_pq (fun d hd => h d (List.mem_of_mem_take hd))]
  have e : l.length - (l.length - 1 - i) = i + 1 := by omega
  rw [e]
  simp [lastC, List.getLast?_take, hi]
theorem pq_inj {l m : List Nat} (hl : ∀ d ∈ l, 1 ≤ d ∧ d < 16) (hm : ∀ d ∈ m, 1 ≤ d ∧ d < 16) (h : pq l = pq m) : l = m := by
  induction l using rev_ind generalizing m with
  | nil =>
    cases m using rev_ind with
    | nil => rfl
    | snoc m d => rw [pq_app, pq_nil] at h; have := hm d (by simp); omega
  | snoc l d ih =>
    cases m using rev_ind with
    | nil => rw [pq_app, pq_nil] at h; have := hl d (by simp); omega
    | snoc m e =>
      rw [pq_app, pq_app] at h
      have h1 := hl d (by simp)
      have h2 := hm e (by simp)
      have e1 : d = e := by omega
      have e2 : pq l = pq m := by omega
      rw [ih (fun x hx => hl x (List.mem_append_left _ hx)) (fun x hx => hm x (List.mem_append_left _ hx)) e2, e1]
end
section
/-! THE DECK -/
def Dk0 (M : pm_M) (P : Pm) : Prop := okP P ∧ (M.1 1 3 = nI (pS P) ∧ M.1 1 4 = nI (pR P) ∧ M.1 1 5 = nI (pC P) ∧ M.1 1 6 = nI (pE P) ∧ M.1 1 7 = nI (pL P)) ∧ ∀ n, 1 ≤ n → n ≤ pS P * pR P → M.1 2 n = nI (su (pR P) n) ∧ M.1 3 n = nI (ra (pR P) n)
def bt0 (v : Int32) (o : Nat) : Bool := !decide (v &&& (nI 1 <<< (nI o &&& 31)) = 0)
def DkX (M : pm_M) (P : Pm) : Prop := Dk0 M P ∧ ∀ n, 1 ≤ n → n ≤ pS P * pR P → ∀ o, o ≤ pS P * pR P → bt0 (M.1 4 n) o = letF P n o
def tt_X0_lawLets : pm_T := fun args M k => match args with
  | [.ref 1, .int x, .int y] => ∃ P n o, x = nI n ∧ y = nI o ∧ Dk0 M P ∧ (1 ≤ n ∧ n ≤ pS P * pR P) ∧ (1 ≤ o ∧ o ≤ pS P * pR P) ∧ k (some (.int (pb (letF P n o)))) M
  | _ => False
abbrev ct_X0_lawLets : List pm_C := [(false, 60, 0, 3, (some .boolean), tt_X0_closesRound), (false, 63, 0, 3, (some .boolean), tt_X0_suitsTurn)]
set_option maxHeartbeats 4000000 in
theorem sm_X0_lawLets  : pm_Sem SHx yX0_lawLets cX0_lawLets 5 (some .boolean) 2 tt_X0_lawLets := by
  refine pm_Sem_intro bl_X0_lawLets ct_X0_lawLets cs_X0_lawLets rfl (List.forall_mem_cons.mpr ⟨⟨_, _, _, _, sm_X0_closesRound, by decide, cm_X0_closesRound, by decide +kernel⟩, List.forall_mem_cons.mpr ⟨⟨_, _, _, _, sm_X0_suitsTurn, by decide, cm_X0_suitsTurn, by decide +kernel⟩, fun _ h => absurd h List.not_mem_nil⟩⟩) ck_X0_lawLets (by decide +kernel) (by decide) ?_
  intro X k hX args M hT
  have hb0 := hX 0 bk_X0_lawLets_0 (List.mem_of_getElem? (i := 0) rfl)
  have hb21 := hX 21 bk_X0_lawLets_21 (List.mem_of_getElem? (i := 1) rfl)
  have hb22 := hX 22 bk_X0_lawLets_22 (List.mem_of_getElem? (i := 2) rfl)
  have hb42 := hX 42 bk_X0_lawLets_42 (List.mem_of_getElem? (i := 3) rfl)
  have hb43 := hX 43 bk_X0_lawLets_43 (List.mem_of_getElem? (i := 4) rfl)
  have hb80 := hX 80 bk_X0_lawLets_80 (List.mem_of_getElem? (i := 5) rfl)
  have hb93 := hX 93 bk_X0_lawLets_93 (List.mem_of_getElem? (i := 6) rfl)
  have hb94 := hX 94 bk_X0_lawLets_94 (List.mem_of_getElem? (i := 7) rfl)
  have hb95 := hX 95 bk_X0_lawLets_95 (List.mem_of_getElem? (i := 8) rfl)
  have hb113 := hX 113 bk_X0_lawLets_113 (List.mem_of_getElem? (i := 9) rfl)
  have hb117 := hX 117 bk_X0_lawLets_117 (List.mem_of_getElem? (i := 10) rfl)
  have hb118 := hX 118 bk_X0_lawLets_118 (List.mem_of_getElem? (i := 11) rfl)
  have hb119 := hX 119 bk_X0_lawLets_119 (List.mem_of_getElem? (i := 12) rfl)
  have hb146 := hX 146 bk_X0_lawLets_146 (List.mem_of_getElem? (i := 13) rfl)
  have hb147 := hX 147 bk_X0_lawLets_147 (List.mem_of_getElem? (i := 14) rfl)
  have hb148 := hX 148 bk_X0_lawLets_148 (List.mem_of_getElem? (i := 15) rfl)
  clear hX
  unfold tt_X0_lawLets at hT; split at hT
  · obtain ⟨⟨s, r, c, e, w⟩, n, o, rfl, rfl, ⟨⟨h1, h2, h3, h4, h5, h6, h7, h8, h9⟩, ⟨m3, m4, m5, m6, m7⟩, hd⟩, ⟨n1, n2⟩, ⟨o1, o2⟩, hT⟩ := hT
    dsimp only [pS, pR, pC, pE, pL] at *
    have mn := hd n n1 n2
    have mo := hd o o1 o2
    have qn := ra_le (n := n) h3
    have qo := ra_le (n := o) h3
    have un := su_lt h3 n1 n2
    have uo := su_lt h3 o1 o2
    refine ⟨by simp [lg_sl, Value.category], ?_⟩
    have key : ∀ (a b : Bool), a = decide (ra r o = ra r n + 1) → b = decide (su r o = su r n) → X 43 [(0, .ref 1), (1, .int (nI n)), (2, .int (nI o)), (3, .int (pb a))] [.int (pb b)] M := by
      intro a b ea eb
      refine hb43 _ _ _ ?_
      simp [bk_X0_lawLets_0, bk_X0_lawLets_21, bk_X0_lawLets_22, bk_X0_lawLets_42, bk_X0_lawLets_43, bk_X0_lawLets_80, bk_X0_lawLets_93, bk_X0_lawLets_94, bk_X0_lawLets_95, bk_X0_lawLets_113, bk_X0_lawLets_117, bk_X0_lawLets_118, bk_X0_lawLets_119, bk_X0_lawLets_146, bk_X0_lawLets_147, bk_X0_lawLets_148, pm_arr, pm_call, pm_e_c0, pm_e_c1, pm_e_cti, pm_e_ctl, pm_e_ctr, pm_e_go, pm_e_i, pm_e_ii, pm_e_ldi, pm_e_ldr, pm_e_lk, pm_e_r, pm_e_ri, pm_e_rm0, pm_e_rm1, pm_e_rs0, pm_e_rs1, pm_e_sw0, pm_e_sw1, pm_e_wp0, pm_e_wp1, pm_f2, pm_f3, pm_fld, pm_fv, pm_obj, pm_recv, pm_s_aload_n, pm_s_getfield, pm_s_goto, pm_s_iadd, pm_s_iaload, pm_s_iconst, pm_s_ifCond_eq, pm_s_ifCond_ne, pm_s_if_icmp_ne, pm_s_iload, pm_s_iload_n, pm_s_invokevirtual, pm_s_ireturn, pm_s_istore, pm_s_istore_n, pm_s_tableswitch, ct_X0_lawLets, tt_X0_closesRound, tt_X0_suitsTurn, pS, pR, pC, pE, pL, -Int32.not_le, -Int32.not_lt, -Int64.not_le, -Int64.not_lt, sx_1, m7]
      rw [nI_toInt (by omega)]
      rcases (show w = 0 ∨ w = 1 ∨ w = 2 ∨ w = 3 ∨ w = 4 by omega) with rfl | rfl | rfl | rfl | rfl
      · simp
        refine hb148 _ _ _ ?_
        simp [bk_X0_lawLets_0, bk_X0_lawLets_21, bk_X0_lawLets_22, bk_X0_lawLets_42, bk_X0_lawLets_43, bk_X0_lawLets_80, bk_X0_lawLets_93, bk_X0_lawLets_94, bk_X0_lawLets_95, bk_X0_lawLets_113, bk_X0_lawLets_117, bk_X0_lawLets_118, bk_X0_lawLets_119, bk_X0_lawLets_146, bk_X0_lawLets_147, bk_X0_lawLets_148, pm_arr, pm_call, pm_e_c0, pm_e_c1, pm_e_cti, pm_e_ctl, pm_e_ctr, pm_e_go, pm_e_i, pm_e_ii, pm_e_ldi, pm_e_ldr, pm_e_lk, pm_e_r, pm_e_ri, pm_e_rm0, pm_e_rm1, pm_e_rs0, pm_e_rs1, pm_e_sw0, pm_e_sw1, pm_e_wp0, pm_e_wp1, pm_f2, pm_f3, pm_fld, pm_fv, pm_obj, pm_recv, pm_s_aload_n, pm_s_getfield, pm_s_goto, pm_s_iadd, pm_s_iaload, pm_s_iconst, pm_s_ifCond_eq, pm_s_ifCond_ne, pm_s_if_icmp_ne, pm_s_iload, pm_s_iload_n, pm_s_invokevirtual, pm_s_ireturn, pm_s_istore, pm_s_istore_n, pm_s_tableswitch, ct_X0_lawLets, tt_X0_closesRound, tt_X0_suitsTurn, pS, pR, pC, pE, pL, -Int32.not_le, -Int32.not_lt, -Int64.not_le, -Int64.not_lt, pb_01]
        simpa [letF, pL, pR, ea, show ¬ o = 0 by omega] using hT
      · simp
        refine hb80 _ _ _ ?_
        simp [bk_X0_lawLets_0, bk_X0_lawLets_21, bk_X0_lawLets_22, bk_X0_lawLets_42, bk_X0_lawLets_43, bk_X0_lawLets_80, bk_X0_lawLets_93, bk_X0_lawLets_94, bk_X0_lawLets_95, bk_X0_lawLets_113, bk_X0_lawLets_117, bk_X0_lawLets_118, bk_X0_lawLets_119, bk_X0_lawLets_146, bk_X0_lawLets_147, bk_X0_lawLets_148, pm_arr, pm_call, pm_e_c0, pm_e_c1, pm_e_cti, pm_e_ctl, pm_e_ctr, pm_e_go, pm_e_i, pm_e_ii, pm_e_ldi, pm_e_ldr, pm_e_lk, pm_e_r, pm_e_ri, pm_e_rm0, pm_e_rm1, pm_e_rs0, pm_e_rs1, pm_e_sw0, pm_e_sw1, pm_e_wp0, pm_e_wp1, pm_f2, pm_f3, pm_fld, pm_fv, pm_obj, pm_recv, pm_s_aload_n, pm_s_getfield, pm_s_goto, pm_s_iadd, pm_s_iaload, pm_s_iconst, pm_s_ifCond_eq, pm_s_ifCond_ne, pm_s_if_icmp_ne, pm_s_iload, pm_s_iload_n, pm_s_invokevirtual, pm_s_ireturn, pm_s_istore, pm_s_istore_n, pm_s_tableswitch, ct_X0_lawLets, tt_X0_closesRound, tt_X0_suitsTurn, pS, pR, pC, pE, pL, -Int32.not_le, -Int32.not_lt, -Int64.not_le, -Int64.not_lt, pb_eq0]
        repeat' first
          | refine ⟨fun _ => ?_, fun _ => ?_⟩
          | (refine hb93 _ _ _ ?_; simp [bk_X0_lawLets_0, bk_X0_lawLets_21, bk_X0_lawLets_22, bk_X0_lawLets_42, bk_X0_lawLets_43, bk_X0_lawLets_80, bk_X0_lawLets_93, bk_X0_lawLets_94, bk_X0_lawLets_95, bk_X0_lawLets_113, bk_X0_lawLets_117, bk_X0_lawLets_118, bk_X0_lawLets_119, bk_X0_lawLets_146, bk_X0_lawLets_147, bk_X0_lawLets_148, pm_arr, pm_call, pm_e_c0, pm_e_c1, pm_e_cti, pm_e_ctl, pm_e_ctr, pm_e_go, pm_e_i, pm_e_ii, pm_e_ldi, pm_e_ldr, pm_e_lk, pm_e_r, pm_e_ri, pm_e_rm0, pm_e_rm1, pm_e_rs0, pm_e_rs1, pm_e_sw0, pm_e_sw1, pm_e_wp0, pm_e_wp1, pm_f2, pm_f3, pm_fld, pm_fv, pm_obj, pm_recv, pm_s_aload_n, pm_s_getfield, pm_s_goto, pm_s_iadd, pm_s_iaload, pm_s_iconst, pm_s_ifCond_eq, pm_s_ifCond_ne, pm_s_if_icmp_ne, pm_s_iload, pm_s_iload_n, pm_s_invokevirtual, pm_s_ireturn, pm_s_istore, pm_s_istore_n, pm_s_tableswitch, ct_X0_lawLets, tt_X0_closesRound, tt_X0_suitsTurn, pS, pR, pC, pE, pL, -Int32.not_le, -Int32.not_lt, -Int64.not_le, -Int64.not_lt, ni_0, ni_1])
          | (refine hb94 _ _ _ ?_; simp [bk_X0_lawLets_0, bk_X0_lawLets_21, bk_X0_lawLets_22, bk_X0_lawLets_42, bk_X0_lawLets_43, bk_X0_lawLets_80, bk_X0_lawLets_93, bk_X0_lawLets_94, bk_X0_lawLets_95, bk_X0_lawLets_113, bk_X0_lawLets_117, bk_X0_lawLets_118, bk_X0_lawLets_119, bk_X0_lawLets_146, bk_X0_lawLets_147, bk_X0_lawLets_148, pm_arr, pm_call, pm_e_c0, pm_e_c1, pm_e_cti, pm_e_ctl, pm_e_ctr, pm_e_go, pm_e_i, pm_e_ii, pm_e_ldi, pm_e_ldr, pm_e_lk, pm_e_r, pm_e_ri, pm_e_rm0, pm_e_rm1, pm_e_rs0, pm_e_rs1, pm_e_sw0, pm_e_sw1, pm_e_wp0, pm_e_wp1, pm_f2, pm_f3, pm_fld, pm_fv, pm_obj, pm_recv, pm_s_aload_n, pm_s_getfield, pm_s_goto, pm_s_iadd, pm_s_iaload, pm_s_iconst, pm_s_ifCond_eq, pm_s_ifCond_ne, pm_s_if_icmp_ne, pm_s_iload, pm_s_iload_n, pm_s_invokevirtual, pm_s_ireturn, pm_s_istore, pm_s_istore_n, pm_s_tableswitch, ct_X0_lawLets, tt_X0_closesRound, tt_X0_suitsTurn, pS, pR, pC, pE, pL, -Int32.not_le, -Int32.not_lt, -Int64.not_le, -Int64.not_lt, ni_0, ni_1])
        all_goals simp_all [letF, pL, pR, show ¬ o = 0 by omega, ni_0, ni_1, pb_t, pb_f]
      · simp
        refine hb119 _ _ _ ?_
        simp [bk_X0_lawLets_0, bk_X0_lawLets_21, bk_X0_lawLets_22, bk_X0_lawLets_42, bk_X0_lawLets_43, bk_X0_lawLets_80, bk_X0_lawLets_93, bk_X0_lawLets_94, bk_X0_lawLets_95, bk_X0_lawLets_113, bk_X0_lawLets_117, bk_X0_lawLets_118, bk_X0_lawLets_119, bk_X0_lawLets_146, bk_X0_lawLets_147, bk_X0_lawLets_148, pm_arr, pm_call, pm_e_c0, pm_e_c1, pm_e_cti, pm_e_ctl, pm_e_ctr, pm_e_go, pm_e_i, pm_e_ii, pm_e_ldi, pm_e_ldr, pm_e_lk, pm_e_r, pm_e_ri, pm_e_rm0, pm_e_rm1, pm_e_rs0, pm_e_rs1, pm_e_sw0, pm_e_sw1, pm_e_wp0, pm_e_wp1, pm_f2, pm_f3, pm_fld, pm_fv, pm_obj, pm_recv, pm_s_aload_n, pm_s_getfield, pm_s_goto, pm_s_iadd, pm_s_iaload, pm_s_iconst, pm_s_ifCond_eq, pm_s_ifCond_ne, pm_s_if_icmp_ne, pm_s_iload, pm_s_iload_n, pm_s_invokevirtual, pm_s_ireturn, pm_s_istore, pm_s_istore_n, pm_s_tableswitch, ct_X0_lawLets, tt_X0_closesRound, tt_X0_suitsTurn, pS, pR, pC, pE, pL, -Int32.not_le, -Int32.not_lt, -Int64.not_le, -Int64.not_lt, sx_1, sx_2, pb_eq0]
        simp (disch := omega) only [ni_in, ni_cl, ni_add, ni_mul, ni_sub, ni_lt, ni_le, ni_eq, ni_eq0, ni_lt0, ni_0le, ni_0lt, ni_le0, ni_a1, ni_a3, ni_a7, ni_a15, mn.1, mo.1]
        refine ⟨fun h => ?_, fun h => ⟨by omega, by omega, fun h2 => ?_, fun h2 => ?_⟩⟩
        · refine hb146 _ _ _ ?_
          simp [bk_X0_lawLets_0, bk_X0_lawLets_21, bk_X0_lawLets_22, bk_X0_lawLets_42, bk_X0_lawLets_43, bk_X0_lawLets_80, bk_X0_lawLets_93, bk_X0_lawLets_94, bk_X0_lawLets_95, bk_X0_lawLets_113, bk_X0_lawLets_117, bk_X0_lawLets_118, bk_X0_lawLets_119, bk_X0_lawLets_146, bk_X0_lawLets_147, bk_X0_lawLets_148, pm_arr, pm_call, pm_e_c0, pm_e_c1, pm_e_cti, pm_e_ctl, pm_e_ctr, pm_e_go, pm_e_i, pm_e_ii, pm_e_ldi, pm_e_ldr, pm_e_lk, pm_e_r, pm_e_ri, pm_e_rm0, pm_e_rm1, pm_e_rs0, pm_e_rs1, pm_e_sw0, pm_e_sw1, pm_e_wp0, pm_e_wp1, pm_f2, pm_f3, pm_fld, pm_fv, pm_obj, pm_recv, pm_s_aload_n, pm_s_getfield, pm_s_goto, pm_s_iadd, pm_s_iaload, pm_s_iconst, pm_s_ifCond_eq, pm_s_ifCond_ne, pm_s_if_icmp_ne, pm_s_iload, pm_s_iload_n, pm_s_invokevirtual, pm_s_ireturn, pm_s_istore, pm_s_istore_n, pm_s_tableswitch, ct_X0_lawLets, tt_X0_closesRound, tt_X0_suitsTurn, pS, pR, pC, pE, pL, -Int32.not_le, -Int32.not_lt, -Int64.not_le, -Int64.not_lt]
          refine hb147 _ _ _ ?_
          simp [bk_X0_lawLets_0, bk_X0_lawLets_21, bk_X0_lawLets_22, bk_X0_lawLets_42, bk_X0_lawLets_43, bk_X0_lawLets_80, bk_X0_lawLets_93, bk_X0_lawLets_94, bk_X0_lawLets_95, bk_X0_lawLets_113, bk_X0_lawLets_117, bk_X0_lawLets_118, bk_X0_lawLets_119, bk_X0_lawLets_146, bk_X0_lawLets_147, bk_X0_lawLets_148, pm_arr, pm_call, pm_e_c0, pm_e_c1, pm_e_cti, pm_e_ctl, pm_e_ctr, pm_e_go, pm_e_i, pm_e_ii, pm_e_ldi, pm_e_ldr, pm_e_lk, pm_e_r, pm_e_ri, pm_e_rm0, pm_e_rm1, pm_e_rs0, pm_e_rs1, pm_e_sw0, pm_e_sw1, pm_e_wp0, pm_e_wp1, pm_f2, pm_f3, pm_fld, pm_fv, pm_obj, pm_recv, pm_s_aload_n, pm_s_getfield, pm_s_goto, pm_s_iadd, pm_s_iaload, pm_s_iconst, pm_s_ifCond_eq, pm_s_ifCond_ne, pm_s_if_icmp_ne, pm_s_iload, pm_s_iload_n, pm_s_invokevirtual, pm_s_ireturn, pm_s_istore, pm_s_istore_n, pm_s_tableswitch, ct_X0_lawLets, tt_X0_closesRound, tt_X0_suitsTurn, pS, pR, pC, pE, pL, -Int32.not_le, -Int32.not_lt, -Int64.not_le, -Int64.not_lt, ni_0]
          simp_all [letF, pL, pR, show ¬ o = 0 by omega, ni_0, ni_1, pb_t, pb_f]
        · refine hb146 _ _ _ ?_
          simp [bk_X0_lawLets_0, bk_X0_lawLets_21, bk_X0_lawLets_22, bk_X0_lawLets_42, bk_X0_lawLets_43, bk_X0_lawLets_80, bk_X0_lawLets_93, bk_X0_lawLets_94, bk_X0_lawLets_95, bk_X0_lawLets_113, bk_X0_lawLets_117, bk_X0_lawLets_118, bk_X0_lawLets_119, bk_X0_lawLets_146, bk_X0_lawLets_147, bk_X0_lawLets_148, pm_arr, pm_call, pm_e_c0, pm_e_c1, pm_e_cti, pm_e_ctl, pm_e_ctr, pm_e_go, pm_e_i, pm_e_ii, pm_e_ldi, pm_e_ldr, pm_e_lk, pm_e_r, pm_e_ri, pm_e_rm0, pm_e_rm1, pm_e_rs0, pm_e_rs1, pm_e_sw0, pm_e_sw1, pm_e_wp0, pm_e_wp1, pm_f2, pm_f3, pm_fld, pm_fv, pm_obj, pm_recv, pm_s_aload_n, pm_s_getfield, pm_s_goto, pm_s_iadd, pm_s_iaload, pm_s_iconst, pm_s_ifCond_eq, pm_s_ifCond_ne, pm_s_if_icmp_ne, pm_s_iload, pm_s_iload_n, pm_s_invokevirtual, pm_s_ireturn, pm_s_istore, pm_s_istore_n, pm_s_tableswitch, ct_X0_lawLets, tt_X0_closesRound, tt_X0_suitsTurn, pS, pR, pC, pE, pL, -Int32.not_le, -Int32.not_lt, -Int64.not_le, -Int64.not_lt]
          refine hb147 _ _ _ ?_
          simp [bk_X0_lawLets_0, bk_X0_lawLets_21, bk_X0_lawLets_22, bk_X0_lawLets_42, bk_X0_lawLets_43, bk_X0_lawLets_80, bk_X0_lawLets_93, bk_X0_lawLets_94, bk_X0_lawLets_95, bk_X0_lawLets_113, bk_X0_lawLets_117, bk_X0_lawLets_118, bk_X0_lawLets_119, bk_X0_lawLets_146, bk_X0_lawLets_147, bk_X0_lawLets_148, pm_arr, pm_call, pm_e_c0, pm_e_c1, pm_e_cti, pm_e_ctl, pm_e_ctr, pm_e_go, pm_e_i, pm_e_ii, pm_e_ldi, pm_e_ldr, pm_e_lk, pm_e_r, pm_e_ri, pm_e_rm0, pm_e_rm1, pm_e_rs0, pm_e_rs1, pm_e_sw0, pm_e_sw1, pm_e_wp0, pm_e_wp1, pm_f2, pm_f3, pm_fld, pm_fv, pm_obj, pm_recv, pm_s_aload_n, pm_s_getfield, pm_s_goto, pm_s_iadd, pm_s_iaload, pm_s_iconst, pm_s_ifCond_eq, pm_s_ifCond_ne, pm_s_if_icmp_ne, pm_s_iload, pm_s_iload_n, pm_s_invokevirtual, pm_s_ireturn, pm_s_istore, pm_s_istore_n, pm_s_tableswitch, ct_X0_lawLets, tt_X0_closesRound, tt_X0_suitsTurn, pS, pR, pC, pE, pL, -Int32.not_le, -Int32.not_lt, -Int64.not_le, -Int64.not_lt, ni_0]
          simp_all [letF, pL, pR, show ¬ o = 0 by omega, ni_0, ni_1, pb_t, pb_f]
        · refine hb147 _ _ _ ?_
          simp [bk_X0_lawLets_0, bk_X0_lawLets_21, bk_X0_lawLets_22, bk_X0_lawLets_42, bk_X0_lawLets_43, bk_X0_lawLets_80, bk_X0_lawLets_93, bk_X0_lawLets_94, bk_X0_lawLets_95, bk_X0_lawLets_113, bk_X0_lawLets_117, bk_X0_lawLets_118, bk_X0_lawLets_119, bk_X0_lawLets_146, bk_X0_lawLets_147, bk_X0_lawLets_148, pm_arr, pm_call, pm_e_c0, pm_e_c1, pm_e_cti, pm_e_ctl, pm_e_ctr, pm_e_go, pm_e_i, pm_e_ii, pm_e_ldi, pm_e_ldr, pm_e_lk, pm_e_r, pm_e_ri, pm_e_rm0, pm_e_rm1, pm_e_rs0, pm_e_rs1, pm_e_sw0, pm_e_sw1, pm_e_wp0, pm_e_wp1, pm_f2, pm_f3, pm_fld, pm_fv, pm_obj, pm_recv, pm_s_aload_n, pm_s_getfield, pm_s_goto, pm_s_iadd, pm_s_iaload, pm_s_iconst, pm_s_ifCond_eq, pm_s_ifCond_ne, pm_s_if_icmp_ne, pm_s_iload, pm_s_iload_n, pm_s_invokevirtual, pm_s_ireturn, pm_s_istore, pm_s_istore_n, pm_s_tableswitch, ct_X0_lawLets, tt_X0_closesRound, tt_X0_suitsTurn, pS, pR, pC, pE, pL, -Int32.not_le, -Int32.not_lt, -Int64.not_le, -Int64.not_lt, ni_1]
          simp_all [letF, pL, pR, show ¬ o = 0 by omega, ni_0, ni_1, pb_t, pb_f]
      · simp
        refine hb95 _ _ _ ?_
        simp [bk_X0_lawLets_0, bk_X0_lawLets_21, bk_X0_lawLets_22, bk_X0_lawLets_42, bk_X0_lawLets_43, bk_X0_lawLets_80, bk_X0_lawLets_93, bk_X0_lawLets_94, bk_X0_lawLets_95, bk_X0_lawLets_113, bk_X0_lawLets_117, bk_X0_lawLets_118, bk_X0_lawLets_119, bk_X0_lawLets_146, bk_X0_lawLets_147, bk_X0_lawLets_148, pm_arr, pm_call, pm_e_c0, pm_e_c1, pm_e_cti, pm_e_ctl, pm_e_ctr, pm_e_go, pm_e_i, pm_e_ii, pm_e_ldi, pm_e_ldr, pm_e_lk, pm_e_r, pm_e_ri, pm_e_rm0, pm_e_rm1, pm_e_rs0, pm_e_rs1, pm_e_sw0, pm_e_sw1, pm_e_wp0, pm_e_wp1, pm_f2, pm_f3, pm_fld, pm_fv, pm_obj, pm_recv, pm_s_aload_n, pm_s_getfield, pm_s_goto, pm_s_iadd, pm_s_iaload, pm_s_iconst, pm_s_ifCond_eq, pm_s_ifCond_ne, pm_s_if_icmp_ne, pm_s_iload, pm_s_iload_n, pm_s_invokevirtual, pm_s_ireturn, pm_s_istore, pm_s_istore_n, pm_s_tableswitch, ct_X0_lawLets, tt_X0_closesRound, tt_X0_suitsTurn, pS, pR, pC, pE, pL, -Int32.not_le, -Int32.not_lt, -Int64.not_le, -Int64.not_lt, sx_1, sx_2, pb_eq0]
        simp (disch := omega) only [ni_in, ni_cl, ni_add, ni_mul, ni_sub, ni_lt, ni_le, ni_eq, ni_eq0, ni_lt0, ni_0le, ni_0lt, ni_le0, ni_a1, ni_a3, ni_a7, ni_a15, mn.1, mo.1, m4, mn.2, mo.2]
        have f117 : letF (s, r, c, e, 3) n o = false → X 117 [] [] M := by
          intro hf
          refine hb117 _ _ _ ?_
          simp [bk_X0_lawLets_0, bk_X0_lawLets_21, bk_X0_lawLets_22, bk_X0_lawLets_42, bk_X0_lawLets_43, bk_X0_lawLets_80, bk_X0_lawLets_93, bk_X0_lawLets_94, bk_X0_lawLets_95, bk_X0_lawLets_113, bk_X0_lawLets_117, bk_X0_lawLets_118, bk_X0_lawLets_119, bk_X0_lawLets_146, bk_X0_lawLets_147, bk_X0_lawLets_148, pm_arr, pm_call, pm_e_c0, pm_e_c1, pm_e_cti, pm_e_ctl, pm_e_ctr, pm_e_go, pm_e_i, pm_e_ii, pm_e_ldi, pm_e_ldr, pm_e_lk, pm_e_r, pm_e_ri, pm_e_rm0, pm_e_rm1, pm_e_rs0, pm_e_rs1, pm_e_sw0, pm_e_sw1, pm_e_wp0, pm_e_wp1, pm_f2, pm_f3, pm_fld, pm_fv, pm_obj, pm_recv, pm_s_aload_n, pm_s_getfield, pm_s_goto, pm_s_iadd, pm_s_iaload, pm_s_iconst, pm_s_ifCond_eq, pm_s_ifCond_ne, pm_s_if_icmp_ne, pm_s_iload, pm_s_iload_n, pm_s_invokevirtual, pm_s_ireturn, pm_s_istore, pm_s_istore_n, pm_s_tableswitch, ct_X0_lawLets, tt_X0_closesRound, tt_X0_suitsTurn, pS, pR, pC, pE, pL, -Int32.not_le, -Int32.not_lt, -Int64.not_le, -Int64.not_lt]
          refine hb118 _ _ _ ?_
          simp [bk_X0_lawLets_0, bk_X0_lawLets_21, bk_X0_lawLets_22, bk_X0_lawLets_42, bk_X0_lawLets_43, bk_X0_lawLets_80, bk_X0_lawLets_93, bk_X0_lawLets_94, bk_X0_lawLets_95, bk_X0_lawLets_113, bk_X0_lawLets_117, bk_X0_lawLets_118, bk_X0_lawLets_119, bk_X0_lawLets_146, bk_X0_lawLets_147, bk_X0_lawLets_148, pm_arr, pm_call, pm_e_c0, pm_e_c1, pm_e_cti, pm_e_ctl, pm_e_ctr, pm_e_go, pm_e_i, pm_e_ii, pm_e_ldi, pm_e_ldr, pm_e_lk, pm_e_r, pm_e_ri, pm_e_rm0, pm_e_rm1, pm_e_rs0, pm_e_rs1, pm_e_sw0, pm_e_sw1, pm_e_wp0, pm_e_wp1, pm_f2, pm_f3, pm_fld, pm_fv, pm_obj, pm_recv, pm_s_aload_n, pm_s_getfield, pm_s_goto, pm_s_iadd, pm_s_iaload, pm_s_iconst, pm_s_ifCond_eq, pm_s_ifCond_ne, pm_s_if_icmp_ne, pm_s_iload, pm_s_iload_n, pm_s_invokevirtual, pm_s_ireturn, pm_s_istore, pm_s_istore_n, pm_s_tableswitch, ct_X0_lawLets, tt_X0_closesRound, tt_X0_suitsTurn, pS, pR, pC, pE, pL, -Int32.not_le, -Int32.not_lt, -Int64.not_le, -Int64.not_lt, ni_0]
          rw [hf] at hT; exact hT
        have f113 : letF (s, r, c, e, 3) n o = true → X 113 [] [] M := by
          intro hf
          refine hb113 _ _ _ ?_
          simp [bk_X0_lawLets_0, bk_X0_lawLets_21, bk_X0_lawLets_22, bk_X0_lawLets_42, bk_X0_lawLets_43, bk_X0_lawLets_80, bk_X0_lawLets_93, bk_X0_lawLets_94, bk_X0_lawLets_95, bk_X0_lawLets_113, bk_X0_lawLets_117, bk_X0_lawLets_118, bk_X0_lawLets_119, bk_X0_lawLets_146, bk_X0_lawLets_147, bk_X0_lawLets_148, pm_arr, pm_call, pm_e_c0, pm_e_c1, pm_e_cti, pm_e_ctl, pm_e_ctr, pm_e_go, pm_e_i, pm_e_ii, pm_e_ldi, pm_e_ldr, pm_e_lk, pm_e_r, pm_e_ri, pm_e_rm0, pm_e_rm1, pm_e_rs0, pm_e_rs1, pm_e_sw0, pm_e_sw1, pm_e_wp0, pm_e_wp1, pm_f2, pm_f3, pm_fld, pm_fv, pm_obj, pm_recv, pm_s_aload_n, pm_s_getfield, pm_s_goto, pm_s_iadd, pm_s_iaload, pm_s_iconst, pm_s_ifCond_eq, pm_s_ifCond_ne, pm_s_if_icmp_ne, pm_s_iload, pm_s_iload_n, pm_s_invokevirtual, pm_s_ireturn, pm_s_istore, pm_s_istore_n, pm_s_tableswitch, ct_X0_lawLets, tt_X0_closesRound, tt_X0_suitsTurn, pS, pR, pC, pE, pL, -Int32.not_le, -Int32.not_lt, -Int64.not_le, -Int64.not_lt]
          refine hb118 _ _ _ ?_
          simp [bk_X0_lawLets_0, bk_X0_lawLets_21, bk_X0_lawLets_22, bk_X0_lawLets_42, bk_X0_lawLets_43, bk_X0_lawLets_80, bk_X0_lawLets_93, bk_X0_lawLets_94, bk_X0_lawLets_95, bk_X0_lawLets_113, bk_X0_lawLets_117, bk_X0_lawLets_118, bk_X0_lawLets_119, bk_X0_lawLets_146, bk_X0_lawLets_147, bk_X0_lawLets_148, pm_arr, pm_call, pm_e_c0, pm_e_c1, pm_e_cti, pm_e_ctl, pm_e_ctr, pm_e_go, pm_e_i, pm_e_ii, pm_e_ldi, pm_e_ldr, pm_e_lk, pm_e_r, pm_e_ri, pm_e_rm0, pm_e_rm1, pm_e_rs0, pm_e_rs1, pm_e_sw0, pm_e_sw1, pm_e_wp0, pm_e_wp1, pm_f2, pm_f3, pm_fld, pm_fv, pm_obj, pm_recv, pm_s_aload_n, pm_s_getfield, pm_s_goto, pm_s_iadd, pm_s_iaload, pm_s_iconst, pm_s_ifCond_eq, pm_s_ifCond_ne, pm_s_if_icmp_ne, pm_s_iload, pm_s_iload_n, pm_s_invokevirtual, pm_s_ireturn, pm_s_istore, pm_s_istore_n, pm_s_tableswitch, ct_X0_lawLets, tt_X0_closesRound, tt_X0_suitsTurn, pS, pR, pC, pE, pL, -Int32.not_le, -Int32.not_lt, -Int64.not_le, -Int64.not_lt, ni_1]
          rw [hf] at hT; exact hT
        refine ⟨fun h => f117 ?_, fun h => ⟨fun h2 => f113 ?_, fun h2 => ⟨⟨by omega, by omega⟩, fun h3 => f117 ?_, fun h3 h4 h5 => f113 ?_⟩⟩⟩
        · simp_all [letF, pL, pR, show ¬ o = 0 by omega]
        · simp_all [letF, pL, pR, show ¬ o = 0 by omega]
        · simp_all [letF, pL, pR, show ¬ o = 0 by omega]
        · simp_all [letF, pL, pR, show ¬ o = 0 by omega]
      · simp
        refine hb119 _ _ _ ?_
        simp [bk_X0_lawLets_0, bk_X0_lawLets_21, bk_X0_lawLets_22, bk_X0_lawLets_42, bk_X0_lawLets_43, bk_X0_lawLets_80, bk_X0_lawLets_93, bk_X0_lawLets_94, bk_X0_lawLets_95, bk_X0_lawLets_113, bk_X0_lawLets_117, bk_X0_lawLets_118, bk_X0_lawLets_119, bk_X0_lawLets_146, bk_X0_lawLets_147, bk_X0_lawLets_148, pm_arr, pm_call, pm_e_c0, pm_e_c1, pm_e_cti, pm_e_ctl, pm_e_ctr, pm_e_go, pm_e_i, pm_e_ii, pm_e_ldi, pm_e_ldr, pm_e_lk, pm_e_r, pm_e_ri, pm_e_rm0, pm_e_rm1, pm_e_rs0, pm_e_rs1, pm_e_sw0, pm_e_sw1, pm_e_wp0, pm_e_wp1, pm_f2, pm_f3, pm_fld, pm_fv, pm_obj, pm_recv, pm_s_aload_n, pm_s_getfield, pm_s_goto, pm_s_iadd, pm_s_iaload, pm_s_iconst, pm_s_ifCond_eq, pm_s_ifCond_ne, pm_s_if_icmp_ne, pm_s_iload, pm_s_iload_n, pm_s_invokevirtual, pm_s_ireturn, pm_s_istore, pm_s_istore_n, pm_s_tableswitch, ct_X0_lawLets, tt_X0_closesRound, tt_X0_suitsTurn, pS, pR, pC, pE, pL, -Int32.not_le, -Int32.not_lt, -Int64.not_le, -Int64.not_lt, sx_1, sx_2, pb_eq0]
        simp (disch := omega) only [ni_in, ni_cl, ni_add, ni_mul, ni_sub, ni_lt, ni_le, ni_eq, ni_eq0, ni_lt0, ni_0le, ni_0lt, ni_le0, ni_a1, ni_a3, ni_a7, ni_a15, mn.1, mo.1]
        refine ⟨fun h => ?_, fun h => ⟨by omega, by omega, fun h2 => ?_, fun h2 => ?_⟩⟩
        · refine hb146 _ _ _ ?_
          simp [bk_X0_lawLets_0, bk_X0_lawLets_21, bk_X0_lawLets_22, bk_X0_lawLets_42, bk_X0_lawLets_43, bk_X0_lawLets_80, bk_X0_lawLets_93, bk_X0_lawLets_94, bk_X0_lawLets_95, bk_X0_lawLets_113, bk_X0_lawLets_117, bk_X0_lawLets_118, bk_X0_lawLets_119, bk_X0_lawLets_146, bk_X0_lawLets_147, bk_X0_lawLets_148, pm_arr, pm_call, pm_e_c0, pm_e_c1, pm_e_cti, pm_e_ctl, pm_e_ctr, pm_e_go, pm_e_i, pm_e_ii, pm_e_ldi, pm_e_ldr, pm_e_lk, pm_e_r, pm_e_ri, pm_e_rm0, pm_e_rm1, pm_e_rs0, pm_e_rs1, pm_e_sw0, pm_e_sw1, pm_e_wp0, pm_e_wp1, pm_f2, pm_f3, pm_fld, pm_fv, pm_obj, pm_recv, pm_s_aload_n, pm_s_getfield, pm_s_goto, pm_s_iadd, pm_s_iaload, pm_s_iconst, pm_s_ifCond_eq, pm_s_ifCond_ne, pm_s_if_icmp_ne, pm_s_iload, pm_s_iload_n, pm_s_invokevirtual, pm_s_ireturn, pm_s_istore, pm_s_istore_n, pm_s_tableswitch, ct_X0_lawLets, tt_X0_closesRound, tt_X0_suitsTurn, pS, pR, pC, pE, pL, -Int32.not_le, -Int32.not_lt, -Int64.not_le, -Int64.not_lt]
          refine hb147 _ _ _ ?_
          simp [bk_X0_lawLets_0, bk_X0_lawLets_21, bk_X0_lawLets_22, bk_X0_lawLets_42, bk_X0_lawLets_43, bk_X0_lawLets_80, bk_X0_lawLets_93, bk_X0_lawLets_94, bk_X0_lawLets_95, bk_X0_lawLets_113, bk_X0_lawLets_117, bk_X0_lawLets_118, bk_X0_lawLets_119, bk_X0_lawLets_146, bk_X0_lawLets_147, bk_X0_lawLets_148, pm_arr, pm_call, pm_e_c0, pm_e_c1, pm_e_cti, pm_e_ctl, pm_e_ctr, pm_e_go, pm_e_i, pm_e_ii, pm_e_ldi, pm_e_ldr, pm_e_lk, pm_e_r, pm_e_ri, pm_e_rm0, pm_e_rm1, pm_e_rs0, pm_e_rs1, pm_e_sw0, pm_e_sw1, pm_e_wp0, pm_e_wp1, pm_f2, pm_f3, pm_fld, pm_fv, pm_obj, pm_recv, pm_s_aload_n, pm_s_getfield, pm_s_goto, pm_s_iadd, pm_s_iaload, pm_s_iconst, pm_s_ifCond_eq, pm_s_ifCond_ne, pm_s_if_icmp_ne, pm_s_iload, pm_s_iload_n, pm_s_invokevirtual, pm_s_ireturn, pm_s_istore, pm_s_istore_n, pm_s_tableswitch, ct_X0_lawLets, tt_X0_closesRound, tt_X0_suitsTurn, pS, pR, pC, pE, pL, -Int32.not_le, -Int32.not_lt, -Int64.not_le, -Int64.not_lt, ni_0]
          simp_all [letF, pL, pR, show ¬ o = 0 by omega, ni_0, ni_1, pb_t, pb_f]
        · refine hb146 _ _ _ ?_
          simp [bk_X0_lawLets_0, bk_X0_lawLets_21, bk_X0_lawLets_22, bk_X0_lawLets_42, bk_X0_lawLets_43, bk_X0_lawLets_80, bk_X0_lawLets_93, bk_X0_lawLets_94, bk_X0_lawLets_95, bk_X0_lawLets_113, bk_X0_lawLets_117, bk_X0_lawLets_118, bk_X0_lawLets_119, bk_X0_lawLets_146, bk_X0_lawLets_147, bk_X0_lawLets_148, pm_arr, pm_call, pm_e_c0, pm_e_c1, pm_e_cti, pm_e_ctl, pm_e_ctr, pm_e_go, pm_e_i, pm_e_ii, pm_e_ldi, pm_e_ldr, pm_e_lk, pm_e_r, pm_e_ri, pm_e_rm0, pm_e_rm1, pm_e_rs0, pm_e_rs1, pm_e_sw0, pm_e_sw1, pm_e_wp0, pm_e_wp1, pm_f2, pm_f3, pm_fld, pm_fv, pm_obj, pm_recv, pm_s_aload_n, pm_s_getfield, pm_s_goto, pm_s_iadd, pm_s_iaload, pm_s_iconst, pm_s_ifCond_eq, pm_s_ifCond_ne, pm_s_if_icmp_ne, pm_s_iload, pm_s_iload_n, pm_s_invokevirtual, pm_s_ireturn, pm_s_istore, pm_s_istore_n, pm_s_tableswitch, ct_X0_lawLets, tt_X0_closesRound, tt_X0_suitsTurn, pS, pR, pC, pE, pL, -Int32.not_le, -Int32.not_lt, -Int64.not_le, -Int64.not_lt]
          refine hb147 _ _ _ ?_
          simp [bk_X0_lawLets_0, bk_X0_lawLets_21, bk_X0_lawLets_22, bk_X0_lawLets_42, bk_X0_lawLets_43, bk_X0_lawLets_80, bk_X0_lawLets_93, bk_X0_lawLets_94, bk_X0_lawLets_95, bk_X0_lawLets_113, bk_X0_lawLets_117, bk_X0_lawLets_118, bk_X0_lawLets_119, bk_X0_lawLets_146, bk_X0_lawLets_147, bk_X0_lawLets_148, pm_arr, pm_call, pm_e_c0, pm_e_c1, pm_e_cti, pm_e_ctl, pm_e_ctr, pm_e_go, pm_e_i, pm_e_ii, pm_e_ldi, pm_e_ldr, pm_e_lk, pm_e_r, pm_e_ri, pm_e_rm0, pm_e_rm1, pm_e_rs0, pm_e_rs1, pm_e_sw0, pm_e_sw1, pm_e_wp0, pm_e_wp1, pm_f2, pm_f3, pm_fld, pm_fv, pm_obj, pm_recv, pm_s_aload_n, pm_s_getfield, pm_s_goto, pm_s_iadd, pm_s_iaload, pm_s_iconst, pm_s_ifCond_eq, pm_s_ifCond_ne, pm_s_if_icmp_ne, pm_s_iload, pm_s_iload_n, pm_s_invokevirtual, pm_s_ireturn, pm_s_istore, pm_s_istore_n, pm_s_tableswitch, ct_X0_lawLets, tt_X0_closesRound, tt_X0_suitsTurn, pS, pR, pC, pE, pL, -Int32.not_le, -Int32.not_lt, -Int64.not_le, -Int64.not_lt, ni_0]
          simp_all [letF, pL, pR, show ¬ o = 0 by omega, ni_0, ni_1, pb_t, pb_f]
        · refine hb147 _ _ _ ?_
          simp [bk_X0_lawLets_0, bk_X0_lawLets_21, bk_X0_lawLets_22, bk_X0_lawLets_42, bk_X0_lawLets_43, bk_X0_lawLets_80, bk_X0_lawLets_93, bk_X0_lawLets_94, bk_X0_lawLets_95, bk_X0_lawLets_113, bk_X0_lawLets_117, bk_X0_lawLets_118, bk_X0_lawLets_119, bk_X0_lawLets_146, bk_X0_lawLets_147, bk_X0_lawLets_148, pm_arr, pm_call, pm_e_c0, pm_e_c1, pm_e_cti, pm_e_ctl, pm_e_ctr, pm_e_go, pm_e_i, pm_e_ii, pm_e_ldi, pm_e_ldr, pm_e_lk, pm_e_r, pm_e_ri, pm_e_rm0, pm_e_rm1, pm_e_rs0, pm_e_rs1, pm_e_sw0, pm_e_sw1, pm_e_wp0, pm_e_wp1, pm_f2, pm_f3, pm_fld, pm_fv, pm_obj, pm_recv, pm_s_aload_n, pm_s_getfield, pm_s_goto, pm_s_iadd, pm_s_iaload, pm_s_iconst, pm_s_ifCond_eq, pm_s_ifCond_ne, pm_s_if_icmp_ne, pm_s_iload, pm_s_iload_n, pm_s_invokevirtual, pm_s_ireturn, pm_s_istore, pm_s_istore_n, pm_s_tableswitch, ct_X0_lawLets, tt_X0_closesRound, tt_X0_suitsTurn, pS, pR, pC, pE, pL, -Int32.not_le, -Int32.not_lt, -Int64.not_le, -Int64.not_lt, ni_1]
          simp_all [letF, pL, pR, show ¬ o = 0 by omega, ni_0, ni_1, pb_t, pb_f]
    have key2 : ∀ (a : Bool), a = decide (ra r o = ra r n + 1) → X 22 [(0, .ref 1), (1, .int (nI n)), (2, .int (nI o))] [.int (pb a)] M := by
      intro a ea
      refine hb22 _ _ _ ?_
      simp [bk_X0_lawLets_0, bk_X0_lawLets_21, bk_X0_lawLets_22, bk_X0_lawLets_42, bk_X0_lawLets_43, bk_X0_lawLets_80, bk_X0_lawLets_93, bk_X0_lawLets_94, bk_X0_lawLets_95, bk_X0_lawLets_113, bk_X0_lawLets_117, bk_X0_lawLets_118, bk_X0_lawLets_119, bk_X0_lawLets_146, bk_X0_lawLets_147, bk_X0_lawLets_148, pm_arr, pm_call, pm_e_c0, pm_e_c1, pm_e_cti, pm_e_ctl, pm_e_ctr, pm_e_go, pm_e_i, pm_e_ii, pm_e_ldi, pm_e_ldr, pm_e_lk, pm_e_r, pm_e_ri, pm_e_rm0, pm_e_rm1, pm_e_rs0, pm_e_rs1, pm_e_sw0, pm_e_sw1, pm_e_wp0, pm_e_wp1, pm_f2, pm_f3, pm_fld, pm_fv, pm_obj, pm_recv, pm_s_aload_n, pm_s_getfield, pm_s_goto, pm_s_iadd, pm_s_iaload, pm_s_iconst, pm_s_ifCond_eq, pm_s_ifCond_ne, pm_s_if_icmp_ne, pm_s_iload, pm_s_iload_n, pm_s_invokevirtual, pm_s_ireturn, pm_s_istore, pm_s_istore_n, pm_s_tableswitch, ct_X0_lawLets, tt_X0_closesRound, tt_X0_suitsTurn, pS, pR, pC, pE, pL, -Int32.not_le, -Int32.not_lt, -Int64.not_le, -Int64.not_lt, sx_1, sx_2]
      simp (disch := omega) only [ni_in, ni_cl, ni_add, ni_mul, ni_sub, ni_lt, ni_le, ni_eq, ni_eq0, ni_lt0, ni_0le, ni_0lt, ni_le0, ni_a1, ni_a3, ni_a7, ni_a15, mn.1, mo.1]
      refine ⟨by omega, by omega, fun h => ?_, fun h => ?_⟩
      · refine hb42 _ _ _ ?_
        simp [bk_X0_lawLets_0, bk_X0_lawLets_21, bk_X0_lawLets_22, bk_X0_lawLets_42, bk_X0_lawLets_43, bk_X0_lawLets_80, bk_X0_lawLets_93, bk_X0_lawLets_94, bk_X0_lawLets_95, bk_X0_lawLets_113, bk_X0_lawLets_117, bk_X0_lawLets_118, bk_X0_lawLets_119, bk_X0_lawLets_146, bk_X0_lawLets_147, bk_X0_lawLets_148, pm_arr, pm_call, pm_e_c0, pm_e_c1, pm_e_cti, pm_e_ctl, pm_e_ctr, pm_e_go, pm_e_i, pm_e_ii, pm_e_ldi, pm_e_ldr, pm_e_lk, pm_e_r, pm_e_ri, pm_e_rm0, pm_e_rm1, pm_e_rs0, pm_e_rs1, pm_e_sw0, pm_e_sw1, pm_e_wp0, pm_e_wp1, pm_f2, pm_f3, pm_fld, pm_fv, pm_obj, pm_recv, pm_s_aload_n, pm_s_getfield, pm_s_goto, pm_s_iadd, pm_s_iaload, pm_s_iconst, pm_s_ifCond_eq, pm_s_ifCond_ne, pm_s_if_icmp_ne, pm_s_iload, pm_s_iload_n, pm_s_invokevirtual, pm_s_ireturn, pm_s_istore, pm_s_istore_n, pm_s_tableswitch, ct_X0_lawLets, tt_X0_closesRound, tt_X0_suitsTurn, pS, pR, pC, pE, pL, -Int32.not_le, -Int32.not_lt, -Int64.not_le, -Int64.not_lt]
        exact key a false ea (by simp [h])
      · exact key a true ea (by simp [h])
    refine hb0 _ _ _ ?_
    simp [bk_X0_lawLets_0, bk_X0_lawLets_21, bk_X0_lawLets_22, bk_X0_lawLets_42, bk_X0_lawLets_43, bk_X0_lawLets_80, bk_X0_lawLets_93, bk_X0_lawLets_94, bk_X0_lawLets_95, bk_X0_lawLets_113, bk_X0_lawLets_117, bk_X0_lawLets_118, bk_X0_lawLets_119, bk_X0_lawLets_146, bk_X0_lawLets_147, bk_X0_lawLets_148, pm_arr, pm_call, pm_e_c0, pm_e_c1, pm_e_cti, pm_e_ctl, pm_e_ctr, pm_e_go, pm_e_i, pm_e_ii, pm_e_ldi, pm_e_ldr, pm_e_lk, pm_e_r, pm_e_ri, pm_e_rm0, pm_e_rm1, pm_e_rs0, pm_e_rs1, pm_e_sw0, pm_e_sw1, pm_e_wp0, pm_e_wp1, pm_f2, pm_f3, pm_fld, pm_fv, pm_obj, pm_recv, pm_s_aload_n, pm_s_getfield, pm_s_goto, pm_s_iadd, pm_s_iaload, pm_s_iconst, pm_s_ifCond_eq, pm_s_ifCond_ne, pm_s_if_icmp_ne, pm_s_iload, pm_s_iload_n, pm_s_invokevirtual, pm_s_ireturn, pm_s_istore, pm_s_istore_n, pm_s_tableswitch, ct_X0_lawLets, tt_X0_closesRound, tt_X0_suitsTurn, pS, pR, pC, pE, pL, -Int32.not_le, -Int32.not_lt, -Int64.not_le, -Int64.not_lt, lv_args, sx_1, sx_3]
    simp (disch := omega) only [ni_in, ni_cl, ni_add, ni_mul, ni_sub, ni_lt, ni_le, ni_eq, ni_eq0, ni_lt0, ni_0le, ni_0lt, ni_le0, ni_a1, ni_a3, ni_a7, ni_a15, mn.2, mo.2]
    refine ⟨by omega, by omega, fun h => ?_, fun h => ?_⟩
    · refine hb21 _ _ _ ?_
      simp [bk_X0_lawLets_0, bk_X0_lawLets_21, bk_X0_lawLets_22, bk_X0_lawLets_42, bk_X0_lawLets_43, bk_X0_lawLets_80, bk_X0_lawLets_93, bk_X0_lawLets_94, bk_X0_lawLets_95, bk_X0_lawLets_113, bk_X0_lawLets_117, bk_X0_lawLets_118, bk_X0_lawLets_119, bk_X0_lawLets_146, bk_X0_lawLets_147, bk_X0_lawLets_148, pm_arr, pm_call, pm_e_c0, pm_e_c1, pm_e_cti, pm_e_ctl, pm_e_ctr, pm_e_go, pm_e_i, pm_e_ii, pm_e_ldi, pm_e_ldr, pm_e_lk, pm_e_r, pm_e_ri, pm_e_rm0, pm_e_rm1, pm_e_rs0, pm_e_rs1, pm_e_sw0, pm_e_sw1, pm_e_wp0, pm_e_wp1, pm_f2, pm_f3, pm_fld, pm_fv, pm_obj, pm_recv, pm_s_aload_n, pm_s_getfield, pm_s_goto, pm_s_iadd, pm_s_iaload, pm_s_iconst, pm_s_ifCond_eq, pm_s_ifCond_ne, pm_s_if_icmp_ne, pm_s_iload, pm_s_iload_n, pm_s_invokevirtual, pm_s_ireturn, pm_s_istore, pm_s_istore_n, pm_s_tableswitch, ct_X0_lawLets, tt_X0_closesRound, tt_X0_suitsTurn, pS, pR, pC, pE, pL, -Int32.not_le, -Int32.not_lt, -Int64.not_le, -Int64.not_lt]
      exact key2 false (by simp [h])
    · exact key2 true (by simp [h])
  · exact hT.elim
theorem bt0_or2 (a b c : Int32) : (a ||| b) &&& c = (a &&& c) ||| (b &&& c) := by
  apply Int32.toBitVec.inj
  simp only [Int32.toBitVec_and, Int32.toBitVec_or]
  ext i
  simp [Bool.and_or_distrib_right]
theorem bt0_or0 (a b : Int32) : a ||| b = 0 ↔ a = 0 ∧ b = 0 := by
  rw [← Int32.toBitVec_inj, ← Int32.toBitVec_inj, ← Int32.toBitVec_inj, Int32.toBitVec_or]
  exact BitVec.or_eq_zero_iff
theorem bt0_ne : ∀ j, j < 13 → ∀ o, o < 13 → ((nI 1 <<< (nI j &&& 31)) &&& (nI 1 <<< (nI o &&& 31)) = 0 ↔ ¬ o = j) := by decide +kernel
theorem bt0_nz : ∀ o, o < 13 → ¬ nI 1 <<< (nI o &&& 31) = 0 := by decide +kernel
theorem bt0_or (v : Int32) {j o : Nat} (hj : j < 13) (ho : o < 13) : bt0 (v ||| (nI 1 <<< (nI j &&& 31))) o = (bt0 v o || decide (o = j)) := by
  unfold bt0
  rw [bt0_or2]
  by_cases h1 : v &&& (nI 1 <<< (nI o &&& 31)) = 0
  · by_cases h2 : o = j
    · subst h2; simp [bt0_or0, h1, bt0_nz o ho]
    · simp [bt0_or0, h1, bt0_ne j hj o ho, h2]
  · simp [bt0_or0, h1]
theorem bt0_0 : ∀ o, o < 13 → bt0 (nI 0) o = false := by decide +kernel
theorem bt0_1 : ∀ o, o < 13 → bt0 (nI 1) o = decide (o = 0) := by decide +kernel
def tt_X0_targetsOf : pm_T := fun args M k => match args with
  | [.ref 1, .int x] => ∃ P n, x = nI n ∧ Dk0 M P ∧ (1 ≤ n ∧ n ≤ pS P * pR P) ∧ ∀ v, (∀ o, o ≤ pS P * pR P → bt0 v o = letF P n o) → k (some (.int v)) M
  | _ => False
abbrev ct_X0_targetsOf : List pm_C := [(false, 41, 0, 1, (some .int), tt_X0_size), (false, 57, 0, 3, (some .boolean), tt_X0_lawLets)]
set_option maxHeartbeats 4000000 in
theorem sm_X0_targetsOf  : pm_Sem SHx yX0_targetsOf cX0_targetsOf 4 (some .int) 3 tt_X0_targetsOf := by
  refine pm_Sem_intro bl_X0_targetsOf ct_X0_targetsOf cs_X0_targetsOf rfl (List.forall_mem_cons.mpr ⟨⟨_, _, _, _, sm_X0_size, by decide, cm_X0_size, by decide +kernel⟩, List.forall_mem_cons.mpr ⟨⟨_, _, _, _, sm_X0_lawLets, by decide, cm_X0_lawLets, by decide +kernel⟩, fun _ h => absurd h List.not_mem_nil⟩⟩) ck_X0_targetsOf (by decide +kernel) (by decide) ?_
  intro X k hX args M hT
  have hb0 := hX 0 bk_X0_targetsOf_0 (List.mem_of_getElem? (i := 0) rfl)
  have hb21 := hX 21 bk_X0_targetsOf_21 (List.mem_of_getElem? (i := 1) rfl)
  have hb25 := hX 25 bk_X0_targetsOf_25 (List.mem_of_getElem? (i := 2) rfl)
  have hb26 := hX 26 bk_X0_targetsOf_26 (List.mem_of_getElem? (i := 3) rfl)
  have hb29 := hX 29 bk_X0_targetsOf_29 (List.mem_of_getElem? (i := 4) rfl)
  have hb52 := hX 52 bk_X0_targetsOf_52 (List.mem_of_getElem? (i := 5) rfl)
  have hb58 := hX 58 bk_X0_targetsOf_58 (List.mem_of_getElem? (i := 6) rfl)
  clear hX
  unfold tt_X0_targetsOf at hT; split at hT
  · obtain ⟨⟨s, r, c, e, w⟩, n, rfl, hD0, ⟨n1, n2⟩, hT⟩ := hT
    have hD := hD0
    obtain ⟨⟨h1, h2, h3, h4, h5, h6, h7, h8, h9⟩, ⟨m3, m4, m5, m6, m7⟩, hd⟩ := hD
    dsimp only [pS, pR, pC, pE, pL] at *
    have mn := hd n n1 n2
    have qn := ra_le (n := n) h3
    refine ⟨by simp [lg_sl, Value.category], ?_⟩
    have loop : ∀ (f o : Nat) (v : Int32), s * r + 1 ≤ o + f → 1 ≤ o → o ≤ s * r + 1 → (∀ j, j ≤ s * r → bt0 v j = (letF (s, r, c, e, w) n j && decide (j < o))) → X 29 [(0, .ref 1), (1, .int (nI n)), (2, .int v), (3, .int (nI o))] [] M := by
      intro f
      induction f with
      | zero =>
        intro o v f1 f2 f3 f4
        have e1 : o = s * r + 1 := by omega
        subst e1
        refine hb29 _ _ _ ?_
        simp [bk_X0_targetsOf_0, bk_X0_targetsOf_21, bk_X0_targetsOf_25, bk_X0_targetsOf_26, bk_X0_targetsOf_29, bk_X0_targetsOf_52, bk_X0_targetsOf_58, pm_arr, pm_call, pm_e_c0, pm_e_c1, pm_e_cti, pm_e_ctl, pm_e_ctr, pm_e_go, pm_e_i, pm_e_ii, pm_e_ldi, pm_e_ldr, pm_e_lk, pm_e_r, pm_e_ri, pm_e_rm0, pm_e_rm1, pm_e_rs0, pm_e_rs1, pm_e_wp0, pm_e_wp1, pm_f2, pm_f3, pm_fld, pm_fv, pm_obj, pm_recv, pm_s_aload_n, pm_s_getfield, pm_s_goto, pm_s_iaload, pm_s_iconst, pm_s_ifCond_eq, pm_s_if_icmp_gt, pm_s_if_icmp_ne, pm_s_iinc, pm_s_iload_n, pm_s_invokevirtual, pm_s_ior, pm_s_ireturn, pm_s_ishl, pm_s_istore_n, ct_X0_targetsOf, tt_X0_size, tt_X0_lawLets, pS, pR, pC, pE, pL, -Int32.not_le, -Int32.not_lt, -Int64.not_le, -Int64.not_lt, sx_1, m3, m4]
        simp (disch := omega) only [ni_in, ni_cl, ni_add, ni_mul, ni_sub, ni_lt, ni_le, ni_eq, ni_eq0, ni_lt0, ni_0le, ni_0lt, ni_le0, ni_a1, ni_a3, ni_a7, ni_a15]
        refine ⟨fun _ => ?_, fun h => by omega⟩
        refine hb58 _ _ _ ?_
        simp [bk_X0_targetsOf_0, bk_X0_targetsOf_21, bk_X0_targetsOf_25, bk_X0_targetsOf_26, bk_X0_targetsOf_29, bk_X0_targetsOf_52, bk_X0_targetsOf_58, pm_arr, pm_call, pm_e_c0, pm_e_c1, pm_e_cti, pm_e_ctl, pm_e_ctr, pm_e_go, pm_e_i, pm_e_ii, pm_e_ldi, pm_e_ldr, pm_e_lk, pm_e_r, pm_e_ri, pm_e_rm0, pm_e_rm1, pm_e_rs0, pm_e_rs1, pm_e_wp0, pm_e_wp1, pm_f2, pm_f3, pm_fld, pm_fv, pm_obj, pm_recv, pm_s_aload_n, pm_s_getfield, pm_s_goto, pm_s_iaload, pm_s_iconst, pm_s_ifCond_eq, pm_s_if_icmp_gt, pm_s_if_icmp_ne, pm_s_iinc, pm_s_iload_n, pm_s_invokevirtual, pm_s_ior, pm_s_ireturn, pm_s_ishl, pm_s_istore_n, ct_X0_targetsOf, tt_X0_size, tt_X0_lawLets, pS, pR, pC, pE, pL, -Int32.not_le, -Int32.not_lt, -Int64.not_le, -Int64.not_lt]
        exact hT v (fun j hj => by rw [f4 j hj]; simp; omega)
      | succ f ih =>
        intro o v f1 f2 f3 f4
        refine hb29 _ _ _ ?_
        simp [bk_X0_targetsOf_29, pm_e_wp1, pm_e_wp0, pm_s_iload_n, pm_s_aload_n, pm_e_ldi, pm_e_ldr, pm_e_lk, pm_f2, pm_f3, pm_s_invokevirtual, ct_X0_targetsOf, pm_call, pm_recv, pm_obj, sx_1, tt_X0_size, m3, m4, pm_s_if_icmp_gt, pm_e_ii, pm_e_go, pm_e_rs0, pm_e_rs1, pm_e_cti, pm_e_ctr]
        simp (disch := omega) only [ni_in, ni_cl, ni_add, ni_mul, ni_sub, ni_lt, ni_le, ni_eq, ni_eq0, ni_lt0, ni_0le, ni_0lt, ni_le0, ni_a1, ni_a3, ni_a7, ni_a15]
        refine ⟨fun h => ?_, fun h => ?_⟩
        · refine hb58 _ _ _ ?_
          simp [bk_X0_targetsOf_0, bk_X0_targetsOf_21, bk_X0_targetsOf_25, bk_X0_targetsOf_26, bk_X0_targetsOf_29, bk_X0_targetsOf_52, bk_X0_targetsOf_58, pm_arr, pm_call, pm_e_c0, pm_e_c1, pm_e_cti, pm_e_ctl, pm_e_ctr, pm_e_go, pm_e_i, pm_e_ii, pm_e_ldi, pm_e_ldr, pm_e_lk, pm_e_r, pm_e_ri, pm_e_rm0, pm_e_rm1, pm_e_rs0, pm_e_rs1, pm_e_wp0, pm_e_wp1, pm_f2, pm_f3, pm_fld, pm_fv, pm_obj, pm_recv, pm_s_aload_n, pm_s_getfield, pm_s_goto, pm_s_iaload, pm_s_iconst, pm_s_ifCond_eq, pm_s_if_icmp_gt, pm_s_if_icmp_ne, pm_s_iinc, pm_s_iload_n, pm_s_invokevirtual, pm_s_ior, pm_s_ireturn, pm_s_ishl, pm_s_istore_n, ct_X0_targetsOf, tt_X0_size, tt_X0_lawLets, pS, pR, pC, pE, pL, -Int32.not_le, -Int32.not_lt, -Int64.not_le, -Int64.not_lt]
          exact hT v (fun j hj => by rw [f4 j hj]; simp; omega)
        · refine ⟨(s, r, c, e, w), n, o, rfl, rfl, hD0, ⟨n1, n2⟩, ⟨f2, by omega⟩, ?_⟩
          simp [bk_X0_targetsOf_0, bk_X0_targetsOf_21, bk_X0_targetsOf_25, bk_X0_targetsOf_26, bk_X0_targetsOf_29, bk_X0_targetsOf_52, bk_X0_targetsOf_58, pm_arr, pm_call, pm_e_c0, pm_e_c1, pm_e_cti, pm_e_ctl, pm_e_ctr, pm_e_go, pm_e_i, pm_e_ii, pm_e_ldi, pm_e_ldr, pm_e_lk, pm_e_r, pm_e_ri, pm_e_rm0, pm_e_rm1, pm_e_rs0, pm_e_rs1, pm_e_wp0, pm_e_wp1, pm_f2, pm_f3, pm_fld, pm_fv, pm_obj, pm_recv, pm_s_aload_n, pm_s_getfield, pm_s_goto, pm_s_iaload, pm_s_iconst, pm_s_ifCond_eq, pm_s_if_icmp_gt, pm_s_if_icmp_ne, pm_s_iinc, pm_s_iload_n, pm_s_invokevirtual, pm_s_ior, pm_s_ireturn, pm_s_ishl, pm_s_istore_n, ct_X0_targetsOf, tt_X0_size, tt_X0_lawLets, pS, pR, pC, pE, pL, -Int32.not_le, -Int32.not_lt, -Int64.not_le, -Int64.not_lt, pb_eq0]
          have h52 : ∀ v', (∀ j, j ≤ s * r → bt0 v' j = (letF (s, r, c, e, w) n j && decide (j < o + 1))) → X 52 [(0, .ref 1), (1, .int (nI n)), (2, .int v'), (3, .int (nI o))] [] M := by
            intro v' hv'
            refine hb52 _ _ _ ?_
            simp [bk_X0_targetsOf_0, bk_X0_targetsOf_21, bk_X0_targetsOf_25, bk_X0_targetsOf_26, bk_X0_targetsOf_29, bk_X0_targetsOf_52, bk_X0_targetsOf_58, pm_arr, pm_call, pm_e_c0, pm_e_c1, pm_e_cti, pm_e_ctl, pm_e_ctr, pm_e_go, pm_e_i, pm_e_ii, pm_e_ldi, pm_e_ldr, pm_e_lk, pm_e_r, pm_e_ri, pm_e_rm0, pm_e_rm1, pm_e_rs0, pm_e_rs1, pm_e_wp0, pm_e_wp1, pm_f2, pm_f3, pm_fld, pm_fv, pm_obj, pm_recv, pm_s_aload_n, pm_s_getfield, pm_s_goto, pm_s_iaload, pm_s_iconst, pm_s_ifCond_eq, pm_s_if_icmp_gt, pm_s_if_icmp_ne, pm_s_iinc, pm_s_iload_n, pm_s_invokevirtual, pm_s_ior, pm_s_ireturn, pm_s_ishl, pm_s_istore_n, ct_X0_targetsOf, tt_X0_size, tt_X0_lawLets, pS, pR, pC, pE, pL, -Int32.not_le, -Int32.not_lt, -Int64.not_le, -Int64.not_lt]
            rw [ni_add]
            exact ih (o + 1) v' (by omega) (by omega) (by omega) hv'
          refine ⟨fun hf => h52 v (fun j hj => ?_), fun hf => h52 _ (fun j hj => ?_)⟩
          · rw [f4 j hj]
            by_cases e1 : j = o
            · subst e1; simp [hf]
            · congr 1; exact decide_eq_decide.mpr (by omega)
          · rw [bt0_or v (by omega) (by omega), f4 j hj]
            by_cases e1 : j = o
            · subst e1; simp [hf]
            · simp only [e1, decide_false, Bool.or_false]; congr 1; exact decide_eq_decide.mpr (by omega)
    have h26 : ∀ (b : Bool), b = letF (s, r, c, e, w) n 0 → X 26 [(0, .ref 1), (1, .int (nI n))] [.int (pb b)] M := by
      intro b eb
      refine hb26 _ _ _ ?_
      simp [bk_X0_targetsOf_0, bk_X0_targetsOf_21, bk_X0_targetsOf_25, bk_X0_targetsOf_26, bk_X0_targetsOf_29, bk_X0_targetsOf_52, bk_X0_targetsOf_58, pm_arr, pm_call, pm_e_c0, pm_e_c1, pm_e_cti, pm_e_ctl, pm_e_ctr, pm_e_go, pm_e_i, pm_e_ii, pm_e_ldi, pm_e_ldr, pm_e_lk, pm_e_r, pm_e_ri, pm_e_rm0, pm_e_rm1, pm_e_rs0, pm_e_rs1, pm_e_wp0, pm_e_wp1, pm_f2, pm_f3, pm_fld, pm_fv, pm_obj, pm_recv, pm_s_aload_n, pm_s_getfield, pm_s_goto, pm_s_iaload, pm_s_iconst, pm_s_ifCond_eq, pm_s_if_icmp_gt, pm_s_if_icmp_ne, pm_s_iinc, pm_s_iload_n, pm_s_invokevirtual, pm_s_ior, pm_s_ireturn, pm_s_ishl, pm_s_istore_n, ct_X0_targetsOf, tt_X0_size, tt_X0_lawLets, pS, pR, pC, pE, pL, -Int32.not_le, -Int32.not_lt, -Int64.not_le, -Int64.not_lt]
      refine loop (s * r) 1 (pb b) (by omega) (by omega) (by omega) (fun j hj => ?_)
      cases b
      · rw [pb_f, ← ni_0, bt0_0 j (by omega)]
        by_cases e1 : j = 0
        · subst e1; simp [← eb]
        · simp; omega
      · rw [pb_t, ← ni_1, bt0_1 j (by omega)]
        by_cases e1 : j = 0
        · subst e1; simp [← eb]
        · simp [e1]
    have h21 : letF (s, r, c, e, w) n 0 = true → X 21 [(0, .ref 1), (1, .int (nI n))] [] M := by
      intro hf
      refine hb21 _ _ _ ?_
      simp [bk_X0_targetsOf_0, bk_X0_targetsOf_21, bk_X0_targetsOf_25, bk_X0_targetsOf_26, bk_X0_targetsOf_29, bk_X0_targetsOf_52, bk_X0_targetsOf_58, pm_arr, pm_call, pm_e_c0, pm_e_c1, pm_e_cti, pm_e_ctl, pm_e_ctr, pm_e_go, pm_e_i, pm_e_ii, pm_e_ldi, pm_e_ldr, pm_e_lk, pm_e_r, pm_e_ri, pm_e_rm0, pm_e_rm1, pm_e_rs0, pm_e_rs1, pm_e_wp0, pm_e_wp1, pm_f2, pm_f3, pm_fld, pm_fv, pm_obj, pm_recv, pm_s_aload_n, pm_s_getfield, pm_s_goto, pm_s_iaload, pm_s_iconst, pm_s_ifCond_eq, pm_s_if_icmp_gt, pm_s_if_icmp_ne, pm_s_iinc, pm_s_iload_n, pm_s_invokevirtual, pm_s_ior, pm_s_ireturn, pm_s_ishl, pm_s_istore_n, ct_X0_targetsOf, tt_X0_size, tt_X0_lawLets, pS, pR, pC, pE, pL, -Int32.not_le, -Int32.not_lt, -Int64.not_le, -Int64.not_lt]
      exact h26 true hf.symm
    refine hb0 _ _ _ ?_
    simp [bk_X0_targetsOf_0, bk_X0_targetsOf_21, bk_X0_targetsOf_25, bk_X0_targetsOf_26, bk_X0_targetsOf_29, bk_X0_targetsOf_52, bk_X0_targetsOf_58, pm_arr, pm_call, pm_e_c0, pm_e_c1, pm_e_cti, pm_e_ctl, pm_e_ctr, pm_e_go, pm_e_i, pm_e_ii, pm_e_ldi, pm_e_ldr, pm_e_lk, pm_e_r, pm_e_ri, pm_e_rm0, pm_e_rm1, pm_e_rs0, pm_e_rs1, pm_e_wp0, pm_e_wp1, pm_f2, pm_f3, pm_fld, pm_fv, pm_obj, pm_recv, pm_s_aload_n, pm_s_getfield, pm_s_goto, pm_s_iaload, pm_s_iconst, pm_s_ifCond_eq, pm_s_if_icmp_gt, pm_s_if_icmp_ne, pm_s_iinc, pm_s_iload_n, pm_s_invokevirtual, pm_s_ior, pm_s_ireturn, pm_s_ishl, pm_s_istore_n, ct_X0_targetsOf, tt_X0_size, tt_X0_lawLets, pS, pR, pC, pE, pL, -Int32.not_le, -Int32.not_lt, -Int64.not_le, -Int64.not_lt, lv_args, sx_1, sx_3, m7, m4]
    simp (disch := omega) only [ni_in, ni_cl, ni_add, ni_mul, ni_sub, ni_lt, ni_le, ni_eq, ni_eq0, ni_lt0, ni_0le, ni_0lt, ni_le0, ni_a1, ni_a3, ni_a7, ni_a15, mn.2]
    refine ⟨fun h => h21 (by simp [letF, pL, h]), fun h => ⟨by omega, fun h' => ?_, fun h' => h21 (by simp [letF, pL, pR, h'])⟩⟩
    refine hb25 _ _ _ ?_
    simp [bk_X0_targetsOf_0, bk_X0_targetsOf_21, bk_X0_targetsOf_25, bk_X0_targetsOf_26, bk_X0_targetsOf_29, bk_X0_targetsOf_52, bk_X0_targetsOf_58, pm_arr, pm_call, pm_e_c0, pm_e_c1, pm_e_cti, pm_e_ctl, pm_e_ctr, pm_e_go, pm_e_i, pm_e_ii, pm_e_ldi, pm_e_ldr, pm_e_lk, pm_e_r, pm_e_ri, pm_e_rm0, pm_e_rm1, pm_e_rs0, pm_e_rs1, pm_e_wp0, pm_e_wp1, pm_f2, pm_f3, pm_fld, pm_fv, pm_obj, pm_recv, pm_s_aload_n, pm_s_getfield, pm_s_goto, pm_s_iaload, pm_s_iconst, pm_s_ifCond_eq, pm_s_if_icmp_gt, pm_s_if_icmp_ne, pm_s_iinc, pm_s_iload_n, pm_s_invokevirtual, pm_s_ior, pm_s_ireturn, pm_s_ishl, pm_s_istore_n, ct_X0_targetsOf, tt_X0_size, tt_X0_lawLets, pS, pR, pC, pE, pL, -Int32.not_le, -Int32.not_lt, -Int64.not_le, -Int64.not_lt]
    exact h26 false (by simp [letF, pL, pR, h, h'])
  · exact hT.elim
/-- the five numbers -/
def DkF (M : pm_M) (P : Pm) : Prop := M.1 1 3 = nI (pS P) ∧ M.1 1 4 = nI (pR P) ∧ M.1 1 5 = nI (pC P) ∧ M.1 1 6 = nI (pE P) ∧ M.1 1 7 = nI (pL P)
def tt_X0_choose : pm_T := fun args M k => match args with
  | [.ref 1, .int a, .int b, .int c, .int d, .int e] => ∃ P, a = nI (pS P) ∧ b = nI (pR P) ∧ c = nI (pC P) ∧ d = nI (pE P) ∧ e = nI (pL P) ∧ okP P ∧ ∀ M', DkX M' P → pm_fr [1, 2, 3, 4] M M' → k none M'
  | _ => False
abbrev ct_X0_choose : List pm_C := [(false, 37, 0, 3, (some .int), tt_X0_cardOf), (false, 41, 0, 1, (some .int), tt_X0_size), (false, 45, 0, 2, (some .int), tt_X0_targetsOf)]
set_option maxHeartbeats 4000000 in
theorem sm_X0_choose  : pm_Sem SHx yX0_choose cX0_choose 9 none 4 tt_X0_choose := by
  refine pm_Sem_intro bl_X0_choose ct_X0_choose cs_X0_choose rfl (List.forall_mem_cons.mpr ⟨⟨_, _, _, _, sm_X0_cardOf, by decide, cm_X0_cardOf, by decide +kernel⟩, List.forall_mem_cons.mpr ⟨⟨_, _, _, _, sm_X0_size, by decide, cm_X0_size, by decide +kernel⟩, List.forall_mem_cons.mpr ⟨⟨_, _, _, _, sm_X0_targetsOf, by decide, cm_X0_targetsOf, by decide +kernel⟩, fun _ h => absurd h List.not_mem_nil⟩⟩⟩) ck_X0_choose (by decide +kernel) (by decide) ?_
  intro X k hX args M hT
  have hb0 := hX 0 bk_X0_choose_0 (List.mem_of_getElem? (i := 0) rfl)
  have hb30 := hX 30 bk_X0_choose_30 (List.mem_of_getElem? (i := 1) rfl)
  have hb42 := hX 42 bk_X0_choose_42 (List.mem_of_getElem? (i := 2) rfl)
  have hb85 := hX 85 bk_X0_choose_85 (List.mem_of_getElem? (i := 3) rfl)
  have hb91 := hX 91 bk_X0_choose_91 (List.mem_of_getElem? (i := 4) rfl)
  have hb94 := hX 94 bk_X0_choose_94 (List.mem_of_getElem? (i := 5) rfl)
  have hb122 := hX 122 bk_X0_choose_122 (List.mem_of_getElem? (i := 6) rfl)
  clear hX
  unfold tt_X0_choose at hT; split at hT
  · obtain ⟨⟨s, r, c, e, w⟩, rfl, rfl, rfl, rfl, rfl, hP0, hT⟩ := hT
    have hP := hP0
    obtain ⟨h1, h2, h3, h4, h5, h6, h7, h8, h9⟩ := hP
    dsimp only [pS, pR, pC, pE, pL] at *
    refine ⟨by simp [lg_sl, Value.category], ?_⟩
    -- the targets
    have loop3 : ∀ (f i : Nat) (M' : pm_M), s * r + 1 ≤ i + f → 1 ≤ i → i ≤ s * r + 1 → pm_fr [1, 2, 3, 4] M M' → Dk0 M' (s, r, c, e, w) → (∀ n, 1 ≤ n → n < i → n ≤ s * r → ∀ o, o ≤ s * r → bt0 (M'.1 4 n) o = letF (s, r, c, e, w) n o) → X 94 [(0, .ref 1), (6, .int (nI i))] [] M' := by
      intro f
      induction f with
      | zero =>
        intro i M' f1 f2 f3 hf hD hA
        refine hb94 _ _ _ ?_
        simp [bk_X0_choose_94, pm_e_wp1, pm_e_wp0, pm_s_iload, pm_s_aload_n, pm_e_ldi, pm_e_ldr, pm_e_lk, pm_f2, pm_f3, pm_s_invokevirtual, ct_X0_choose, pm_call, pm_recv, pm_obj, sx_1, tt_X0_size, pm_s_if_icmp_gt, pm_e_ii, pm_e_go, pm_e_rs0, pm_e_rs1, pm_e_cti, pm_e_ctr, pS, pR, hD.2.1.1, hD.2.1.2.1]
        simp (disch := omega) only [ni_in, ni_cl, ni_add, ni_mul, ni_sub, ni_lt, ni_le, ni_eq, ni_eq0, ni_lt0, ni_0le, ni_0lt, ni_le0, ni_a1, ni_a3, ni_a7, ni_a15]
        refine ⟨fun _ => ?_, fun h => by omega⟩
        refine hb122 _ _ _ ?_
        simp [bk_X0_choose_0, bk_X0_choose_30, bk_X0_choose_42, bk_X0_choose_85, bk_X0_choose_91, bk_X0_choose_94, bk_X0_choose_122, pm_arr, pm_call, pm_e_c0, pm_e_c1, pm_e_cti, pm_e_ctl, pm_e_ctr, pm_e_go, pm_e_i, pm_e_ii, pm_e_ldi, pm_e_ldr, pm_e_lk, pm_e_r, pm_e_rii, pm_e_rm0, pm_e_rm1, pm_e_rs0, pm_e_rs1, pm_e_wp0, pm_e_wp1, pm_f2, pm_f3, pm_fld, pm_fv, pm_obj, pm_recv, pm_s_aload_n, pm_s_getfield, pm_s_goto, pm_s_iastore, pm_s_iconst, pm_s_if_icmp_ge, pm_s_if_icmp_gt, pm_s_iinc, pm_s_iload, pm_s_iload_n, pm_s_invokevirtual, pm_s_istore, pm_s_putfield, pm_s_return, ct_X0_choose, tt_X0_cardOf, tt_X0_size, tt_X0_targetsOf, pS, pR, pC, pE, pL, -Int32.not_le, -Int32.not_lt, -Int64.not_le, -Int64.not_lt]
        exact hT M' ⟨hD, fun n q1 q2 => hA n q1 (by dsimp only [pS, pR] at q2; omega) q2⟩ hf
      | succ f ih =>
        intro i M' f1 f2 f3 hf hD hA
        refine hb94 _ _ _ ?_
        simp [bk_X0_choose_94, pm_e_wp1, pm_e_wp0, pm_s_iload, pm_s_aload_n, pm_e_ldi, pm_e_ldr, pm_e_lk, pm_f2, pm_f3, pm_s_invokevirtual, ct_X0_choose, pm_call, pm_recv, pm_obj, sx_1, tt_X0_size, pm_s_if_icmp_gt, pm_e_ii, pm_e_go, pm_e_rs0, pm_e_rs1, pm_e_cti, pm_e_ctr, pm_s_getfield, pm_e_r, pm_fld, pm_fv, pS, pR, hD.2.1.1, hD.2.1.2.1]
        simp (disch := omega) only [ni_in, ni_cl, ni_add, ni_mul, ni_sub, ni_lt, ni_le, ni_eq, ni_eq0, ni_lt0, ni_0le, ni_0lt, ni_le0, ni_a1, ni_a3, ni_a7, ni_a15]
        refine ⟨fun h => ?_, fun h => ?_⟩
        · refine hb122 _ _ _ ?_
          simp [bk_X0_choose_0, bk_X0_choose_30, bk_X0_choose_42, bk_X0_choose_85, bk_X0_choose_91, bk_X0_choose_94, bk_X0_choose_122, pm_arr, pm_call, pm_e_c0, pm_e_c1, pm_e_cti, pm_e_ctl, pm_e_ctr, pm_e_go, pm_e_i, pm_e_ii, pm_e_ldi, pm_e_ldr, pm_e_lk, pm_e_r, pm_e_rii, pm_e_rm0, pm_e_rm1, pm_e_rs0, pm_e_rs1, pm_e_wp0, pm_e_wp1, pm_f2, pm_f3, pm_fld, pm_fv, pm_obj, pm_recv, pm_s_aload_n, pm_s_getfield, pm_s_goto, pm_s_iastore, pm_s_iconst, pm_s_if_icmp_ge, pm_s_if_icmp_gt, pm_s_iinc, pm_s_iload, pm_s_iload_n, pm_s_invokevirtual, pm_s_istore, pm_s_putfield, pm_s_return, ct_X0_choose, tt_X0_cardOf, tt_X0_size, tt_X0_targetsOf, pS, pR, pC, pE, pL, -Int32.not_le, -Int32.not_lt, -Int64.not_le, -Int64.not_lt]
          exact hT M' ⟨hD, fun n q1 q2 => hA n q1 (by dsimp only [pS, pR] at q2; omega) q2⟩ hf
        · refine ⟨(s, r, c, e, w), i, rfl, hD, ⟨f2, by dsimp only [pS, pR]; omega⟩, fun v hv => ?_⟩
          simp [bk_X0_choose_0, bk_X0_choose_30, bk_X0_choose_42, bk_X0_choose_85, bk_X0_choose_91, bk_X0_choose_94, bk_X0_choose_122, pm_arr, pm_call, pm_e_c0, pm_e_c1, pm_e_cti, pm_e_ctl, pm_e_ctr, pm_e_go, pm_e_i, pm_e_ii, pm_e_ldi, pm_e_ldr, pm_e_lk, pm_e_r, pm_e_rii, pm_e_rm0, pm_e_rm1, pm_e_rs0, pm_e_rs1, pm_e_wp0, pm_e_wp1, pm_f2, pm_f3, pm_fld, pm_fv, pm_obj, pm_recv, pm_s_aload_n, pm_s_getfield, pm_s_goto, pm_s_iastore, pm_s_iconst, pm_s_if_icmp_ge, pm_s_if_icmp_gt, pm_s_iinc, pm_s_iload, pm_s_iload_n, pm_s_invokevirtual, pm_s_istore, pm_s_putfield, pm_s_return, ct_X0_choose, tt_X0_cardOf, tt_X0_size, tt_X0_targetsOf, pS, pR, pC, pE, pL, -Int32.not_le, -Int32.not_lt, -Int64.not_le, -Int64.not_lt, sx_4]
          simp (disch := omega) only [ni_in, ni_cl, ni_add, ni_mul, ni_sub, ni_lt, ni_le, ni_eq, ni_eq0, ni_lt0, ni_0le, ni_0lt, ni_le0, ni_a1, ni_a3, ni_a7, ni_a15]
          refine ⟨by omega, ?_⟩
          refine ih (i + 1) _ (by omega) (by omega) (by omega) (hf.set (by simp)) ?_ ?_
          · refine ⟨hD.1, ?_, fun n q1 q2 => ?_⟩
            · simp only [me_1]; simpa using hD.2.1
            · have := hD.2.2 n q1 q2
              simp only [me_1]; simpa using this
          · intro n q1 q2 q3 o q4
            by_cases e1 : n = i
            · subst e1; simp only [me_1]; simpa using hv o q4
            · simp only [me_1]; simpa [e1] using hA n q1 (by omega) q3 o q4
    -- the cards
    have loop1 : ∀ (f i : Nat) (M' : pm_M), s ≤ i + f → i ≤ s → pm_fr [1, 2, 3, 4] M M' → DkF M' (s, r, c, e, w) → (∀ n, 1 ≤ n → n ≤ s * r → su r n < i → M'.1 2 n = nI (su r n) ∧ M'.1 3 n = nI (ra r n)) → X 30 [(0, .ref 1), (6, .int (nI i))] [] M' := by
      intro f
      induction f with
      | zero =>
        intro i M' f1 f2 hf hF hA
        refine hb30 _ _ _ ?_
        simp [bk_X0_choose_0, bk_X0_choose_30, bk_X0_choose_42, bk_X0_choose_85, bk_X0_choose_91, bk_X0_choose_94, bk_X0_choose_122, pm_arr, pm_call, pm_e_c0, pm_e_c1, pm_e_cti, pm_e_ctl, pm_e_ctr, pm_e_go, pm_e_i, pm_e_ii, pm_e_ldi, pm_e_ldr, pm_e_lk, pm_e_r, pm_e_rii, pm_e_rm0, pm_e_rm1, pm_e_rs0, pm_e_rs1, pm_e_wp0, pm_e_wp1, pm_f2, pm_f3, pm_fld, pm_fv, pm_obj, pm_recv, pm_s_aload_n, pm_s_getfield, pm_s_goto, pm_s_iastore, pm_s_iconst, pm_s_if_icmp_ge, pm_s_if_icmp_gt, pm_s_iinc, pm_s_iload, pm_s_iload_n, pm_s_invokevirtual, pm_s_istore, pm_s_putfield, pm_s_return, ct_X0_choose, tt_X0_cardOf, tt_X0_size, tt_X0_targetsOf, pS, pR, pC, pE, pL, -Int32.not_le, -Int32.not_lt, -Int64.not_le, -Int64.not_lt, sx_1, hF.1]
        simp (disch := omega) only [ni_in, ni_cl, ni_add, ni_mul, ni_sub, ni_lt, ni_le, ni_eq, ni_eq0, ni_lt0, ni_0le, ni_0lt, ni_le0, ni_a1, ni_a3, ni_a7, ni_a15]
        refine ⟨fun _ => ?_, fun h => by omega⟩
        refine hb91 _ _ _ ?_
        simp [bk_X0_choose_0, bk_X0_choose_30, bk_X0_choose_42, bk_X0_choose_85, bk_X0_choose_91, bk_X0_choose_94, bk_X0_choose_122, pm_arr, pm_call, pm_e_c0, pm_e_c1, pm_e_cti, pm_e_ctl, pm_e_ctr, pm_e_go, pm_e_i, pm_e_ii, pm_e_ldi, pm_e_ldr, pm_e_lk, pm_e_r, pm_e_rii, pm_e_rm0, pm_e_rm1, pm_e_rs0, pm_e_rs1, pm_e_wp0, pm_e_wp1, pm_f2, pm_f3, pm_fld, pm_fv, pm_obj, pm_recv, pm_s_aload_n, pm_s_getfield, pm_s_goto, pm_s_iastore, pm_s_iconst, pm_s_if_icmp_ge, pm_s_if_icmp_gt, pm_s_iinc, pm_s_iload, pm_s_iload_n, pm_s_invokevirtual, pm_s_istore, pm_s_putfield, pm_s_return, ct_X0_choose, tt_X0_cardOf, tt_X0_size, tt_X0_targetsOf, pS, pR, pC, pE, pL, -Int32.not_le, -Int32.not_lt, -Int64.not_le, -Int64.not_lt]
        exact loop3 (s * r) 1 M' (by omega) (by omega) (by omega) hf ⟨hP0, hF, fun n q1 q2 => hA n q1 q2 (by have := su_lt (s := s) h3 q1 q2; omega)⟩ (fun n q1 q2 => by omega)
      | succ f ih =>
        intro i M' f1 f2 hf hF hA
        refine hb30 _ _ _ ?_
        simp [bk_X0_choose_0, bk_X0_choose_30, bk_X0_choose_42, bk_X0_choose_85, bk_X0_choose_91, bk_X0_choose_94, bk_X0_choose_122, pm_arr, pm_call, pm_e_c0, pm_e_c1, pm_e_cti, pm_e_ctl, pm_e_ctr, pm_e_go, pm_e_i, pm_e_ii, pm_e_ldi, pm_e_ldr, pm_e_lk, pm_e_r, pm_e_rii, pm_e_rm0, pm_e_rm1, pm_e_rs0, pm_e_rs1, pm_e_wp0, pm_e_wp1, pm_f2, pm_f3, pm_fld, pm_fv, pm_obj, pm_recv, pm_s_aload_n, pm_s_getfield, pm_s_goto, pm_s_iastore, pm_s_iconst, pm_s_if_icmp_ge, pm_s_if_icmp_gt, pm_s_iinc, pm_s_iload, pm_s_iload_n, pm_s_invokevirtual, pm_s_istore, pm_s_putfield, pm_s_return, ct_X0_choose, tt_X0_cardOf, tt_X0_size, tt_X0_targetsOf, pS, pR, pC, pE, pL, -Int32.not_le, -Int32.not_lt, -Int64.not_le, -Int64.not_lt, sx_1, hF.1]
        simp (disch := omega) only [ni_in, ni_cl, ni_add, ni_mul, ni_sub, ni_lt, ni_le, ni_eq, ni_eq0, ni_lt0, ni_0le, ni_0lt, ni_le0, ni_a1, ni_a3, ni_a7, ni_a15]
        refine ⟨fun h => ?_, fun h => ?_⟩
        · refine hb91 _ _ _ ?_
          simp [bk_X0_choose_0, bk_X0_choose_30, bk_X0_choose_42, bk_X0_choose_85, bk_X0_choose_91, bk_X0_choose_94, bk_X0_choose_122, pm_arr, pm_call, pm_e_c0, pm_e_c1, pm_e_cti, pm_e_ctl, pm_e_ctr, pm_e_go, pm_e_i, pm_e_ii, pm_e_ldi, pm_e_ldr, pm_e_lk, pm_e_r, pm_e_rii, pm_e_rm0, pm_e_rm1, pm_e_rs0, pm_e_rs1, pm_e_wp0, pm_e_wp1, pm_f2, pm_f3, pm_fld, pm_fv, pm_obj, pm_recv, pm_s_aload_n, pm_s_getfield, pm_s_goto, pm_s_iastore, pm_s_iconst, pm_s_if_icmp_ge, pm_s_if_icmp_gt, pm_s_iinc, pm_s_iload, pm_s_iload_n, pm_s_invokevirtual, pm_s_istore, pm_s_putfield, pm_s_return, ct_X0_choose, tt_X0_cardOf, tt_X0_size, tt_X0_targetsOf, pS, pR, pC, pE, pL, -Int32.not_le, -Int32.not_lt, -Int64.not_le, -Int64.not_lt]
          exact loop3 (s * r) 1 M' (by omega) (by omega) (by omega) hf ⟨hP0, hF, fun n q1 q2 => hA n q1 q2 (by have := su_lt (s := s) h3 q1 q2; omega)⟩ (fun n q1 q2 => by omega)
        · have loop2 : ∀ (g j : Nat) (M' : pm_M), r + 1 ≤ j + g → 1 ≤ j → j ≤ r + 1 → pm_fr [1, 2, 3, 4] M M' → DkF M' (s, r, c, e, w) → (∀ n, 1 ≤ n → n ≤ s * r → su r n < i ∨ (su r n = i ∧ ra r n < j) → M'.1 2 n = nI (su r n) ∧ M'.1 3 n = nI (ra r n)) → X 42 [(0, .ref 1), (6, .int (nI i)), (7, .int (nI j))] [] M' := by
            intro g
            have done : ∀ (j : Nat) (M' : pm_M), r < j → pm_fr [1, 2, 3, 4] M M' → DkF M' (s, r, c, e, w) → (∀ n, 1 ≤ n → n ≤ s * r → su r n < i ∨ (su r n = i ∧ ra r n < j) → M'.1 2 n = nI (su r n) ∧ M'.1 3 n = nI (ra r n)) → X 85 [(0, .ref 1), (6, .int (nI i))] [] M' := by
              intro j M' g3 hf hF hA
              refine hb85 _ _ _ ?_
              simp [bk_X0_choose_0, bk_X0_choose_30, bk_X0_choose_42, bk_X0_choose_85, bk_X0_choose_91, bk_X0_choose_94, bk_X0_choose_122, pm_arr, pm_call, pm_e_c0, pm_e_c1, pm_e_cti, pm_e_ctl, pm_e_ctr, pm_e_go, pm_e_i, pm_e_ii, pm_e_ldi, pm_e_ldr, pm_e_lk, pm_e_r, pm_e_rii, pm_e_rm0, pm_e_rm1, pm_e_rs0, pm_e_rs1, pm_e_wp0, pm_e_wp1, pm_f2, pm_f3, pm_fld, pm_fv, pm_obj, pm_recv, pm_s_aload_n, pm_s_getfield, pm_s_goto, pm_s_iastore, pm_s_iconst, pm_s_if_icmp_ge, pm_s_if_icmp_gt, pm_s_iinc, pm_s_iload, pm_s_iload_n, pm_s_invokevirtual, pm_s_istore, pm_s_putfield, pm_s_return, ct_X0_choose, tt_X0_cardOf, tt_X0_size, tt_X0_targetsOf, pS, pR, pC, pE, pL, -Int32.not_le, -Int32.not_lt, -Int64.not_le, -Int64.not_lt]
              rw [ni_add]
              exact ih (i + 1) M' (by omega) (by omega) hf hF (fun n q1 q2 q3 => hA n q1 q2 (by have := ra_le (n := n) h3; omega))
            induction g with
            | zero =>
              intro j M' g1 g2 g3 hf hF hA
              refine hb42 _ _ _ ?_
              simp [bk_X0_choose_0, bk_X0_choose_30, bk_X0_choose_42, bk_X0_choose_85, bk_X0_choose_91, bk_X0_choose_94, bk_X0_choose_122, pm_arr, pm_call, pm_e_c0, pm_e_c1, pm_e_cti, pm_e_ctl, pm_e_ctr, pm_e_go, pm_e_i, pm_e_ii, pm_e_ldi, pm_e_ldr, pm_e_lk, pm_e_r, pm_e_rii, pm_e_rm0, pm_e_rm1, pm_e_rs0, pm_e_rs1, pm_e_wp0, pm_e_wp1, pm_f2, pm_f3, pm_fld, pm_fv, pm_obj, pm_recv, pm_s_aload_n, pm_s_getfield, pm_s_goto, pm_s_iastore, pm_s_iconst, pm_s_if_icmp_ge, pm_s_if_icmp_gt, pm_s_iinc, pm_s_iload, pm_s_iload_n, pm_s_invokevirtual, pm_s_istore, pm_s_putfield, pm_s_return, ct_X0_choose, tt_X0_cardOf, tt_X0_size, tt_X0_targetsOf, pS, pR, pC, pE, pL, -Int32.not_le, -Int32.not_lt, -Int64.not_le, -Int64.not_lt, sx_1, hF.2.1]
              simp (disch := omega) only [ni_in, ni_cl, ni_add, ni_mul, ni_sub, ni_lt, ni_le, ni_eq, ni_eq0, ni_lt0, ni_0le, ni_0lt, ni_le0, ni_a1, ni_a3, ni_a7, ni_a15]
              refine ⟨fun _ => done j M' (by omega) hf hF hA, fun h => by omega⟩
            | succ g ihg =>
              intro j M' g1 g2 g3 hf hF hA
              refine hb42 _ _ _ ?_
              have hcl : i * r + j ≤ s * r ∨ r < j := by
                rcases Nat.lt_or_ge r j with q | q
                · exact Or.inr q
                · exact Or.inl (card_le (by omega) q)
              simp [bk_X0_choose_0, bk_X0_choose_30, bk_X0_choose_42, bk_X0_choose_85, bk_X0_choose_91, bk_X0_choose_94, bk_X0_choose_122, pm_arr, pm_call, pm_e_c0, pm_e_c1, pm_e_cti, pm_e_ctl, pm_e_ctr, pm_e_go, pm_e_i, pm_e_ii, pm_e_ldi, pm_e_ldr, pm_e_lk, pm_e_r, pm_e_rii, pm_e_rm0, pm_e_rm1, pm_e_rs0, pm_e_rs1, pm_e_wp0, pm_e_wp1, pm_f2, pm_f3, pm_fld, pm_fv, pm_obj, pm_recv, pm_s_aload_n, pm_s_getfield, pm_s_goto, pm_s_iastore, pm_s_iconst, pm_s_if_icmp_ge, pm_s_if_icmp_gt, pm_s_iinc, pm_s_iload, pm_s_iload_n, pm_s_invokevirtual, pm_s_istore, pm_s_putfield, pm_s_return, ct_X0_choose, tt_X0_cardOf, tt_X0_size, tt_X0_targetsOf, pS, pR, pC, pE, pL, -Int32.not_le, -Int32.not_lt, -Int64.not_le, -Int64.not_lt, sx_1, sx_2, sx_3, hF.2.1, ni_15]
              simp (disch := omega) only [ni_in, ni_cl, ni_add, ni_mul, ni_sub, ni_lt, ni_le, ni_eq, ni_eq0, ni_lt0, ni_0le, ni_0lt, ni_le0, ni_a1, ni_a3, ni_a7, ni_a15]
              refine ⟨fun _ => done j M' (by omega) hf hF hA, fun h => ?_⟩
              have hc : i * r + j ≤ s * r := card_le (by omega) (by omega)
              have e16 : (i * r + j) % 16 = i * r + j := Nat.mod_eq_of_lt (by omega)
              rw [ni_a15 (by omega), e16, ni_cl (by omega)]
              refine ihg (j + 1) _ (by omega) (by omega) (by omega) ((hf.set (by simp)).set (by simp)) ?_ ?_
              · unfold DkF at hF ⊢; simp only [me_1]; simpa using hF
              · intro n q1 q2 q3
                by_cases e1 : n = i * r + j
                · subst e1; simp only [me_1]; simp [su_of (s := i) g2 (show j ≤ r by omega), ra_of (s := i) g2 (show j ≤ r by omega)]
                · have q4 : su r n < i ∨ (su r n = i ∧ ra r n < j) := by
                    rcases q3 with q3 | ⟨q3, q5⟩
                    · exact Or.inl q3
                    · rcases Nat.lt_or_ge (ra r n) j with q6 | q6
                      · exact Or.inr ⟨q3, q6⟩
                      · exfalso; apply e1
                        have := su_ra (r := r) q1
                        rw [q3] at this
                        omega
                  have := hA n q1 q2 q4
                  simp only [me_1]; simpa [e1] using this
          exact loop2 r 1 M' (by omega) (by omega) (by omega) hf hF (fun n q1 q2 q3 => hA n q1 q2 (by rcases q3 with q3 | ⟨_, q3⟩; exact q3; have := ra_ge (r := r) (n := n); omega))
    refine hb0 _ _ _ ?_
    simp [bk_X0_choose_0, bk_X0_choose_30, bk_X0_choose_42, bk_X0_choose_85, bk_X0_choose_91, bk_X0_choose_94, bk_X0_choose_122, pm_arr, pm_call, pm_e_c0, pm_e_c1, pm_e_cti, pm_e_ctl, pm_e_ctr, pm_e_go, pm_e_i, pm_e_ii, pm_e_ldi, pm_e_ldr, pm_e_lk, pm_e_r, pm_e_rii, pm_e_rm0, pm_e_rm1, pm_e_rs0, pm_e_rs1, pm_e_wp0, pm_e_wp1, pm_f2, pm_f3, pm_fld, pm_fv, pm_obj, pm_recv, pm_s_aload_n, pm_s_getfield, pm_s_goto, pm_s_iastore, pm_s_iconst, pm_s_if_icmp_ge, pm_s_if_icmp_gt, pm_s_iinc, pm_s_iload, pm_s_iload_n, pm_s_invokevirtual, pm_s_istore, pm_s_putfield, pm_s_return, ct_X0_choose, tt_X0_cardOf, tt_X0_size, tt_X0_targetsOf, pS, pR, pC, pE, pL, -Int32.not_le, -Int32.not_lt, -Int64.not_le, -Int64.not_lt, lv_args, sx_1]
    refine loop1 s 0 _ (by omega) (by omega) (((((pm_fr.rfl.set (by simp)).set (by simp)).set (by simp)).set (by simp)).set (by simp)) ?_ (fun n _ _ h => by omega)
    unfold DkF; simp only [me_1]; simp
  · exact hT.elim
end
section
/-! A STAND (at 5, or the search's at 32) -/
def isSt (p : Nat) : Prop := p = 5 ∨ p = 32
theorem st_0 {p : Nat} (h : isSt p) : SHx[p]? = some (.inr (.inr (4, [some 1, some (p + 1), some (p + 2), some (p + 3), some (p + 4), some (p + 5), none]))) := by rcases h with rfl | rfl <;> rfl
theorem st_1 {p : Nat} (h : isSt p) : SHx[p + 1]? = some (.inl (4, 4)) := by rcases h with rfl | rfl <;> rfl
theorem st_2 {p : Nat} (h : isSt p) : SHx[p + 2]? = some (.inl (0, 4)) := by rcases h with rfl | rfl <;> rfl
theorem st_3 {p : Nat} (h : isSt p) : SHx[p + 3]? = some (.inl (0, 2)) := by rcases h with rfl | rfl <;> rfl
theorem st_4 {p : Nat} (h : isSt p) : SHx[p + 4]? = some (.inl (0, 4)) := by rcases h with rfl | rfl <;> rfl
theorem st_5 {p : Nat} (h : isSt p) : SHx[p + 5]? = some (.inl (4, 4)) := by rcases h with rfl | rfl <;> rfl
abbrev stF (p : Nat) : List Nat := [p, p + 1, p + 2, p + 3, p + 4, p + 5]
def okS (S : St) : Prop := (∀ i, i < 4 → (S.1 i).length ≤ 12 ∧ ∀ d ∈ S.1 i, 1 ≤ d ∧ d ≤ 12) ∧ (∀ j, j < 2 → S.2.1 j ≤ 12) ∧ ∀ i, i < 4 → S.2.2 i ≤ 6
def SdX (M : pm_M) (p ec : Nat) (S : St) : Prop := okS S ∧ ec ≤ 2 ∧ M.1 p 6 = nI ec ∧ (∀ i, i < 4 → M.2 (p + 1) i = lN (pq (S.1 i)) ∧ M.1 (p + 2) i = nI (S.1 i).length ∧ M.1 (p + 4) i = nI (S.2.2 i)) ∧ ∀ j, j < 2 → M.1 (p + 3) j = nI (S.2.1 j)
theorem SdX.c {M : pm_M} {p ec : Nat} {S : St} (h : SdX M p ec S) {i : Nat} (hi : i < 4) : M.2 (p + 1) i = lN (pq (S.1 i)) := (h.2.2.2.1 i hi).1
theorem SdX.n {M : pm_M} {p ec : Nat} {S : St} (h : SdX M p ec S) {i : Nat} (hi : i < 4) : M.1 (p + 2) i = nI (S.1 i).length := (h.2.2.2.1 i hi).2.1
theorem SdX.h {M : pm_M} {p ec : Nat} {S : St} (h : SdX M p ec S) {i : Nat} (hi : i < 4) : M.1 (p + 4) i = nI (S.2.2 i) := (h.2.2.2.1 i hi).2.2
theorem SdX.e {M : pm_M} {p ec : Nat} {S : St} (h : SdX M p ec S) {j : Nat} (hj : j < 2) : M.1 (p + 3) j = nI (S.2.1 j) := h.2.2.2.2 j hj
theorem SdX.d16 {M : pm_M} {p ec : Nat} {S : St} (h : SdX M p ec S) {i : Nat} (hi : i < 4) : ∀ d ∈ S.1 i, d < 16 := fun d hd => by have := (h.1.1 i hi).2 d hd; omega
theorem SdX.len {M : pm_M} {p ec : Nat} {S : St} (h : SdX M p ec S) {i : Nat} (hi : i < 4) : (S.1 i).length ≤ 12 := (h.1.1 i hi).1
theorem pq_48 {l : List Nat} (h : ∀ d ∈ l, d < 16) (hn : l.length ≤ 12) : pq l < 2 ^ 48 := by
  have h1 := pq_lt h
  have h2 : (16 : Nat) ^ l.length ≤ 16 ^ 12 := Nat.pow_le_pow_right (by decide) hn
  have e : (16 : Nat) ^ 12 = 2 ^ 48 := by decide
  omega
theorem SdX.p48 {M : pm_M} {p ec : Nat} {S : St} (h : SdX M p ec S) {i : Nat} (hi : i < 4) : pq (S.1 i) < 2 ^ 48 := pq_48 (h.d16 hi) (h.len hi)
theorem lastC_le {l : List Nat} (h : ∀ d ∈ l, d ≤ 12) : lastC l ≤ 12 := by
  induction l using rev_ind with
  | nil => simp [lastC]
  | snoc l d ih => simp [lastC]; exact h d (by simp)
theorem SdX.moved {M M' : pm_M} {p ec : Nat} {S : St} {ps : List Nat} (h : SdX M p ec S) (hf : pm_fr ps M M') (hp : ∀ q ∈ stF p, q ∉ ps) : SdX M' p ec S := by
  obtain ⟨a, b, c, d, e⟩ := h
  refine ⟨a, b, ?_, fun i hi => ⟨?_, ?_, ?_⟩, fun j hj => ?_⟩
  · rw [hf.i (hp _ (by simp))]; exact c
  · rw [hf.l (hp _ (by simp))]; exact (d i hi).1
  · rw [hf.i (hp _ (by simp))]; exact (d i hi).2.1
  · rw [hf.i (hp _ (by simp))]; exact (d i hi).2.2
  · rw [hf.i (hp _ (by simp))]; exact e j hj
def aPush (S : St) (i d : Nat) : St := (up S.1 i (S.1 i ++ [d]), S.2.1, S.2.2)
def aPop (S : St) (i : Nat) : St := (up S.1 i (S.1 i).dropLast, S.2.1, S.2.2)
def tt_X4_push : pm_T := fun args M k => match args with
  | [.ref p, .int x, .int y] => ∃ ec S i d, isSt p ∧ x = nI i ∧ y = nI d ∧ SdX M p ec S ∧ i < 4 ∧ (1 ≤ d ∧ d ≤ 12) ∧ (S.1 i).length < 12 ∧ ∀ M', SdX M' p ec (aPush S i d) → pm_fr (stF p) M M' → k none M'
  | _ => False
abbrev ct_X4_push : List pm_C := []
set_option maxHeartbeats 4000000 in
theorem sm_X4_push  : pm_Sem SHx yX4_push cX4_push 3 none 1 tt_X4_push := by
  refine pm_Sem_intro bl_X4_push ct_X4_push cs_X4_push rfl (fun _ h => absurd h List.not_mem_nil) ck_X4_push (by decide +kernel) (by decide) ?_
  intro X k hX args M hT
  have hb0 := hX 0 bk_X4_push_0 (List.mem_of_getElem? (i := 0) rfl)
  clear hX
  unfold tt_X4_push at hT; split at hT
  · next p x y =>
    obtain ⟨ec, S, i, d, hp, rfl, rfl, hS, hi, ⟨d1, d2⟩, hl, hT⟩ := hT
    refine ⟨by simp [lg_sl, Value.category], ?_⟩
    refine hb0 _ _ _ ?_
    simp [bk_X4_push_0, pm_arr, pm_e_c0, pm_e_c1, pm_e_cti, pm_e_ctl, pm_e_ctr, pm_e_go, pm_e_i, pm_e_ii, pm_e_ldi, pm_e_ldr, pm_e_li, pm_e_lk, pm_e_ll, pm_e_r, pm_e_ri, pm_e_rii, pm_e_ril, pm_e_rm0, pm_e_rm1, pm_e_rs0, pm_e_rs1, pm_e_v2, pm_e_wp0, pm_e_wp1, pm_f2, pm_f3, pm_fld, pm_fv, pm_obj, pm_s_aload_n, pm_s_dup2, pm_s_getfield, pm_s_i2l, pm_s_iadd, pm_s_iaload, pm_s_iastore, pm_s_iconst, pm_s_iload_n, pm_s_laload, pm_s_lastore, pm_s_lor, pm_s_lshl, pm_s_return, ct_X4_push, pS, pR, pC, pE, pL, -Int32.not_le, -Int32.not_lt, -Int64.not_le, -Int64.not_lt, lv_args, st_0 hp, st_1 hp, st_2 hp]
    simp (disch := omega) only [ni_in, ni_cl, ni_add, ni_mul, ni_sub, ni_lt, ni_le, ni_eq, ni_eq0, ni_lt0, ni_0le, ni_0lt, ni_le0, ni_a1, ni_a3, ni_a7, ni_a15, hS.c hi, hS.n hi, me_3]
    repeat refine ⟨by omega, ?_⟩
    refine hT _ ?_ ((pm_fr.rfl.setL (by simp)).set (by simp))
    have h48 := hS.p48 hi
    have e1 : (lN (pq (S.1 i)) <<< ((nI 4).toInt64 &&& 63)) ||| (nI d).toInt64 = lN (pq (S.1 i ++ [d])) := by
      rw [wb_shl _ (by decide), ni_l (by omega), ln_or (k := 4) (by omega) (by omega), pq_app]
      congr 1; omega
    rw [e1]
    obtain ⟨a, b, c, dd, e⟩ := hS
    refine ⟨⟨fun j hj => ?_, a.2⟩, b, ?_, fun j hj => ?_, fun j hj => ?_⟩
    · by_cases ej : j = i
      · subst ej
        simp only [aPush, up_s, List.length_append, List.length_singleton]
        refine ⟨by omega, fun z hz => ?_⟩
        rcases List.mem_append.mp hz with q | q
        · exact (a.1 j hj).2 z q
        · simp at q; omega
      · simp only [aPush, up_n _ _ ej]; exact a.1 j hj
    · simp only [me_1, me_3]; simpa using c
    · by_cases ej : j = i
      · subst ej
        simp only [me_1, me_2, me_3, me_4, aPush, up_s]
        have := dd j hj
        simp [this.2.2]
      · simp only [me_1, me_2, me_3, me_4, aPush, up_n _ _ ej]
        have := dd j hj
        simp [ej, this]
    · simp only [me_1, me_2, me_3]; simpa [aPush] using e j hj
  · exact hT.elim
def tt_X4_pop : pm_T := fun args M k => match args with
  | [.ref p, .int x] => ∃ ec S i, isSt p ∧ x = nI i ∧ SdX M p ec S ∧ i < 4 ∧ S.1 i ≠ [] ∧ ∀ M', SdX M' p ec (aPop S i) → pm_fr (stF p) M M' → k none M'
  | _ => False
abbrev ct_X4_pop : List pm_C := []
set_option maxHeartbeats 4000000 in
theorem sm_X4_pop  : pm_Sem SHx yX4_pop cX4_pop 2 none 1 tt_X4_pop := by
  refine pm_Sem_intro bl_X4_pop ct_X4_pop cs_X4_pop rfl (fun _ h => absurd h List.not_mem_nil) ck_X4_pop (by decide +kernel) (by decide) ?_
  intro X k hX args M hT
  have hb0 := hX 0 bk_X4_pop_0 (List.mem_of_getElem? (i := 0) rfl)
  clear hX
  unfold tt_X4_pop at hT; split at hT
  · next p x =>
    obtain ⟨ec, S, i, hp, rfl, hS, hi, hl, hT⟩ := hT
    have hn0 : 0 < (S.1 i).length := List.length_pos_iff.mpr hl
    refine ⟨by simp [lg_sl, Value.category], ?_⟩
    refine hb0 _ _ _ ?_
    simp [bk_X4_pop_0, pm_arr, pm_e_c0, pm_e_c1, pm_e_cti, pm_e_ctl, pm_e_ctr, pm_e_go, pm_e_ii, pm_e_ldi, pm_e_ldr, pm_e_li, pm_e_lk, pm_e_r, pm_e_ri, pm_e_rii, pm_e_ril, pm_e_rm0, pm_e_rm1, pm_e_rs0, pm_e_rs1, pm_e_v2, pm_e_wp0, pm_e_wp1, pm_f2, pm_f3, pm_fld, pm_fv, pm_obj, pm_s_aload_n, pm_s_dup2, pm_s_getfield, pm_s_iaload, pm_s_iastore, pm_s_iconst, pm_s_iload_n, pm_s_isub, pm_s_laload, pm_s_lastore, pm_s_lushr, pm_s_return, ct_X4_pop, pS, pR, pC, pE, pL, -Int32.not_le, -Int32.not_lt, -Int64.not_le, -Int64.not_lt, lv_args, st_0 hp, st_1 hp, st_2 hp]
    simp (disch := omega) only [ni_in, ni_cl, ni_add, ni_mul, ni_sub, ni_lt, ni_le, ni_eq, ni_eq0, ni_lt0, ni_0le, ni_0lt, ni_le0, ni_a1, ni_a3, ni_a7, ni_a15, hS.c hi, hS.n hi, me_3]
    repeat refine ⟨by omega, ?_⟩
    refine hT _ ?_ ((pm_fr.rfl.setL (by simp)).set (by simp))
    have h48 := hS.p48 hi
    have e1 : ((lN (pq (S.1 i))).toUInt64 >>> ((nI 4).toInt64.toUInt64 &&& Int64.toUInt64 63)).toInt64 = lN (pq (S.1 i).dropLast) := by
      rw [wb_shr (by omega) (by decide), ← dropLast_pq (hS.d16 hi)]
    rw [e1]
    obtain ⟨a, b, c, dd, e⟩ := hS
    refine ⟨⟨fun j hj => ?_, a.2⟩, b, ?_, fun j hj => ?_, fun j hj => ?_⟩
    · by_cases ej : j = i
      · subst ej
        simp only [aPop, up_s, List.length_dropLast]
        have := a.1 j hj
        exact ⟨by omega, fun z hz => this.2 z ((List.dropLast_sublist _).subset hz)⟩
      · simp only [aPop, up_n _ _ ej]; exact a.1 j hj
    · simp only [me_1, me_3]; simpa using c
    · by_cases ej : j = i
      · subst ej
        simp only [me_1, me_2, me_3, me_4, aPop, up_s]
        have := dd j hj
        simp [this.2.2]
      · simp only [me_1, me_2, me_3, me_4, aPop, up_n _ _ ej]
        have := dd j hj
        simp [ej, this]
    · simp only [me_1, me_2, me_3]; simpa [aPop] using e j hj
  · exact hT.elim
def tt_X4_lastOf : pm_T := fun args M k => match args with
  | [.ref p, .int x] => ∃ ec S i, isSt p ∧ x = nI i ∧ SdX M p ec S ∧ i < 4 ∧ k (some (.int (nI (lastC (S.1 i))))) M
  | _ => False
abbrev ct_X4_lastOf : List pm_C := []
set_option maxHeartbeats 4000000 in
theorem sm_X4_lastOf  : pm_Sem SHx yX4_lastOf cX4_lastOf 2 (some .int) 1 tt_X4_lastOf := by
  refine pm_Sem_intro bl_X4_lastOf ct_X4_lastOf cs_X4_lastOf rfl (fun _ h => absurd h List.not_mem_nil) ck_X4_lastOf (by decide +kernel) (by decide) ?_
  intro X k hX args M hT
  have hb0 := hX 0 bk_X4_lastOf_0 (List.mem_of_getElem? (i := 0) rfl)
  clear hX
  unfold tt_X4_lastOf at hT; split at hT
  · next p x =>
    obtain ⟨ec, S, i, hp, rfl, hS, hi, hT⟩ := hT
    have h48 := hS.p48 hi
    refine ⟨by simp [lg_sl, Value.category], ?_⟩
    refine hb0 _ _ _ ?_
    simp [bk_X4_lastOf_0, pm_arr, pm_e_c0, pm_e_c1, pm_e_cti, pm_e_ctl, pm_e_ctr, pm_e_go, pm_e_ii, pm_e_l, pm_e_ldi, pm_e_ldr, pm_e_lk, pm_e_r, pm_e_ri, pm_e_rm0, pm_e_rm1, pm_e_rs0, pm_e_rs1, pm_e_wp0, pm_e_wp1, pm_f2, pm_f3, pm_fld, pm_fv, pm_obj, pm_s_aload_n, pm_s_bipush, pm_s_getfield, pm_s_iand, pm_s_iload_n, pm_s_ireturn, pm_s_l2i, pm_s_laload, ct_X4_lastOf, pS, pR, pC, pE, pL, -Int32.not_le, -Int32.not_lt, -Int64.not_le, -Int64.not_lt, lv_args, st_0 hp, st_1 hp]
    simp (disch := omega) only [ni_in, ni_cl, ni_add, ni_mul, ni_sub, ni_lt, ni_le, ni_eq, ni_eq0, ni_lt0, ni_0le, ni_0lt, ni_le0, ni_a1, ni_a3, ni_a7, ni_a15, hS.c hi, ln_i]
    refine ⟨hi, ?_⟩
    rw [show nI (pq (S.1 i)) &&& nI 15 = nI (lastC (S.1 i)) from by
      rw [← lastC_pq (hS.d16 hi)]; exact pk_and _ 4 (by decide) |>.trans (by rw [show (nI (pq (S.1 i))).toBitVec.toNat = pq (S.1 i) % 2 ^ 32 from rfl]; congr 1; omega)]
    exact hT
  · exact hT.elim
end
section
/-! the rest of the small ones of a stand -/
def st00 : St := (fun _ => [], fun _ => 0, fun _ => 0)
def tt_X4_clear : pm_T := fun args M k => match args with
  | [.ref p, .int x] => ∃ ec, isSt p ∧ x = nI ec ∧ ec ≤ 2 ∧ ∀ M', SdX M' p ec st00 → pm_fr (stF p) M M' → k none M'
  | _ => False
abbrev ct_X4_clear : List pm_C := [(true, 36, 0, 2, none, tt_J7_fill_d0a16 SHx), (true, 42, 0, 2, none, tt_J7_fill_53178 SHx)]
theorem pm_fr.fill {ps : List Nat} {M M' : pm_M} {q n : Nat} {v : Int32} (h : pm_fr ps M M') (hq : q ∈ ps) : pm_fr ps M (pm_fill M' q n v) := fun a ha => by
  have hn : a ≠ q := fun e => ha (e ▸ hq)
  refine ⟨?_, (h a ha).2⟩
  rw [← (h a ha).1]; funext j; simp [pm_fill, hn]
theorem pm_fr.fillL {ps : List Nat} {M M' : pm_M} {q n : Nat} {v : Int64} (h : pm_fr ps M M') (hq : q ∈ ps) : pm_fr ps M (pm_fillL M' q n v) := fun a ha => by
  have hn : a ≠ q := fun e => ha (e ▸ hq)
  refine ⟨(h a ha).1, ?_⟩
  rw [← (h a ha).2]; funext j; simp [pm_fillL, hn]
set_option maxHeartbeats 4000000 in
theorem sm_X4_clear  : pm_Sem SHx yX4_clear cX4_clear 2 none 2 tt_X4_clear := by
  refine pm_Sem_intro bl_X4_clear ct_X4_clear cs_X4_clear rfl (List.forall_mem_cons.mpr ⟨⟨_, _, _, _, sm_J7_fill_d0a16, by decide, cm_J7_fill_d0a16, by decide +kernel⟩, List.forall_mem_cons.mpr ⟨⟨_, _, _, _, sm_J7_fill_53178, by decide, cm_J7_fill_53178, by decide +kernel⟩, fun _ h => absurd h List.not_mem_nil⟩⟩) ck_X4_clear (by decide +kernel) (by decide) ?_
  intro X k hX args M hT
  have hb0 := hX 0 bk_X4_clear_0 (List.mem_of_getElem? (i := 0) rfl)
  clear hX
  unfold tt_X4_clear at hT; split at hT
  · next p x =>
    obtain ⟨ec, hp, rfl, he, hT⟩ := hT
    refine ⟨by simp [lg_sl, Value.category], ?_⟩
    refine hb0 _ _ _ ?_
    simp [bk_X4_clear_0, pm_call, pm_e_c0, pm_e_c1, pm_e_cti, pm_e_ctl, pm_e_ctr, pm_e_go, pm_e_ldi, pm_e_ldr, pm_e_lk, pm_e_r, pm_e_rm0, pm_e_rm1, pm_e_rs0, pm_e_rs1, pm_e_wp0, pm_e_wp1, pm_f2, pm_f3, pm_fld, pm_fv, pm_obj, pm_recv, pm_s_aload_n, pm_s_getfield, pm_s_iconst, pm_s_iload_n, pm_s_invokestatic, pm_s_lconst, pm_s_putfield, pm_s_return, ct_X4_clear, pS, pR, pC, pE, pL, -Int32.not_le, -Int32.not_lt, -Int64.not_le, -Int64.not_lt, lv_args, st_0 hp]
    refine ⟨4, st_1 hp, by decide, ?_⟩
    simp [bk_X4_clear_0, pm_call, pm_e_c0, pm_e_c1, pm_e_cti, pm_e_ctl, pm_e_ctr, pm_e_go, pm_e_ldi, pm_e_ldr, pm_e_lk, pm_e_r, pm_e_rm0, pm_e_rm1, pm_e_rs0, pm_e_rs1, pm_e_wp0, pm_e_wp1, pm_f2, pm_f3, pm_fld, pm_fv, pm_obj, pm_recv, pm_s_aload_n, pm_s_getfield, pm_s_iconst, pm_s_iload_n, pm_s_invokestatic, pm_s_lconst, pm_s_putfield, pm_s_return, ct_X4_clear, pS, pR, pC, pE, pL, -Int32.not_le, -Int32.not_lt, -Int64.not_le, -Int64.not_lt, lv_args, st_0 hp]
    refine ⟨4, st_2 hp, by decide, ?_⟩
    simp [bk_X4_clear_0, pm_call, pm_e_c0, pm_e_c1, pm_e_cti, pm_e_ctl, pm_e_ctr, pm_e_go, pm_e_ldi, pm_e_ldr, pm_e_lk, pm_e_r, pm_e_rm0, pm_e_rm1, pm_e_rs0, pm_e_rs1, pm_e_wp0, pm_e_wp1, pm_f2, pm_f3, pm_fld, pm_fv, pm_obj, pm_recv, pm_s_aload_n, pm_s_getfield, pm_s_iconst, pm_s_iload_n, pm_s_invokestatic, pm_s_lconst, pm_s_putfield, pm_s_return, ct_X4_clear, pS, pR, pC, pE, pL, -Int32.not_le, -Int32.not_lt, -Int64.not_le, -Int64.not_lt, lv_args, st_0 hp]
    refine ⟨2, st_3 hp, by decide, ?_⟩
    simp [bk_X4_clear_0, pm_call, pm_e_c0, pm_e_c1, pm_e_cti, pm_e_ctl, pm_e_ctr, pm_e_go, pm_e_ldi, pm_e_ldr, pm_e_lk, pm_e_r, pm_e_rm0, pm_e_rm1, pm_e_rs0, pm_e_rs1, pm_e_wp0, pm_e_wp1, pm_f2, pm_f3, pm_fld, pm_fv, pm_obj, pm_recv, pm_s_aload_n, pm_s_getfield, pm_s_iconst, pm_s_iload_n, pm_s_invokestatic, pm_s_lconst, pm_s_putfield, pm_s_return, ct_X4_clear, pS, pR, pC, pE, pL, -Int32.not_le, -Int32.not_lt, -Int64.not_le, -Int64.not_lt, lv_args, st_0 hp]
    refine ⟨4, st_4 hp, by decide, ?_⟩
    simp [bk_X4_clear_0, pm_call, pm_e_c0, pm_e_c1, pm_e_cti, pm_e_ctl, pm_e_ctr, pm_e_go, pm_e_ldi, pm_e_ldr, pm_e_lk, pm_e_r, pm_e_rm0, pm_e_rm1, pm_e_rs0, pm_e_rs1, pm_e_wp0, pm_e_wp1, pm_f2, pm_f3, pm_fld, pm_fv, pm_obj, pm_recv, pm_s_aload_n, pm_s_getfield, pm_s_iconst, pm_s_iload_n, pm_s_invokestatic, pm_s_lconst, pm_s_putfield, pm_s_return, ct_X4_clear, pS, pR, pC, pE, pL, -Int32.not_le, -Int32.not_lt, -Int64.not_le, -Int64.not_lt, lv_args, st_0 hp]
    refine hT _ ?_ (((((pm_fr.rfl.set (by simp)).fillL (by simp)).fill (by simp)).fill (by simp)).fill (by simp))
    refine ⟨⟨fun i _ => ⟨by simp [st00], fun d hd => by simp [st00] at hd⟩, fun j _ => by simp [st00], fun j _ => by simp [st00]⟩, he, ?_, fun i hi => ⟨?_, ?_, ?_⟩, fun j hj => ?_⟩
    · simp [pm_fill, pm_fillL, pm_set]
    · simp [pm_fill, pm_fillL, pm_set, hi, st00, pq_nil]
    · simp [pm_fill, pm_fillL, pm_set, hi, st00]
    · simp [pm_fill, pm_fillL, pm_set, hi, st00]
    · simp [pm_fill, pm_fillL, pm_set, hj, st00]
  · exact hT.elim
/-- the card at a place of a column, or 0 -/
def tt_X4_cardAt : pm_T := fun args M k => match args with
  | [.ref p, .int x, .int y] => ∃ ec S i, isSt p ∧ x = nI i ∧ SdX M p ec S ∧ i < 4 ∧ (∀ j, j < (S.1 i).length → y = nI j → k (some (.int (nI ((S.1 i).getD j 0)))) M) ∧ ((∀ j, j < (S.1 i).length → y ≠ nI j) → k (some (.int (nI 0))) M)
  | _ => False
abbrev ct_X4_cardAt : List pm_C := [(true, 51, 6, 3, (some .boolean), tt_X6_isWithin)]
set_option maxHeartbeats 4000000 in
theorem sm_X4_cardAt  : pm_Sem SHx yX4_cardAt cX4_cardAt 3 (some .int) 2 tt_X4_cardAt := by
  refine pm_Sem_intro bl_X4_cardAt ct_X4_cardAt cs_X4_cardAt rfl (List.forall_mem_cons.mpr ⟨⟨_, _, _, _, sm_X6_isWithin, by decide, cm_X6_isWithin, by decide +kernel⟩, fun _ h => absurd h List.not_mem_nil⟩) ck_X4_cardAt (by decide +kernel) (by decide) ?_
  intro X k hX args M hT
  have hb0 := hX 0 bk_X4_cardAt_0 (List.mem_of_getElem? (i := 0) rfl)
  have hb18 := hX 18 bk_X4_cardAt_18 (List.mem_of_getElem? (i := 1) rfl)
  clear hX
  unfold tt_X4_cardAt at hT; split at hT
  · next p x y =>
    obtain ⟨ec, S, i, hp, rfl, hS, hi, hT1, hT2⟩ := hT
    have h48 := hS.p48 hi
    have hl12 := hS.len hi
    refine ⟨by simp [lg_sl, Value.category], ?_⟩
    refine hb0 _ _ _ ?_
    simp [bk_X4_cardAt_0, bk_X4_cardAt_18, pm_arr, pm_call, pm_e_c0, pm_e_c1, pm_e_cti, pm_e_ctl, pm_e_ctr, pm_e_go, pm_e_i, pm_e_ii, pm_e_l, pm_e_ldi, pm_e_ldr, pm_e_li, pm_e_lk, pm_e_r, pm_e_ri, pm_e_rm0, pm_e_rm1, pm_e_rs0, pm_e_rs1, pm_e_wp0, pm_e_wp1, pm_f2, pm_f3, pm_fld, pm_fv, pm_obj, pm_recv, pm_s_aload_n, pm_s_bipush, pm_s_getfield, pm_s_iaload, pm_s_iand, pm_s_iconst, pm_s_ifCond_ne, pm_s_iload_n, pm_s_imul, pm_s_invokestatic, pm_s_ireturn, pm_s_isub, pm_s_l2i, pm_s_laload, pm_s_lushr, ct_X4_cardAt, tt_X6_isWithin, pS, pR, pC, pE, pL, -Int32.not_le, -Int32.not_lt, -Int64.not_le, -Int64.not_lt, lv_args, st_0 hp, st_2 hp, pb_eq0]
    simp (disch := omega) only [ni_in, ni_cl, ni_add, ni_mul, ni_sub, ni_lt, ni_le, ni_eq, ni_eq0, ni_lt0, ni_0le, ni_0lt, ni_le0, ni_a1, ni_a3, ni_a7, ni_a15, hS.n hi]
    refine ⟨hi, fun hw => ?_, fun hw => ?_⟩
    · have hl0 : 0 < (S.1 i).length := by
        rcases Nat.eq_zero_or_pos (S.1 i).length with h | h
        · exfalso
          rw [h, show nI 0 - nI 1 = -nI 1 from by decide] at hw
          simp only [wi, Bool.and_eq_true, Bool.not_eq_true', decide_eq_false_iff_not, Int32.not_lt] at hw
          have h1 := Int32.le_trans hw.1 hw.2
          exact absurd h1 (by decide)
        · exact h
      rw [ni_sub (by omega)] at hw
      obtain ⟨j, rfl, j1, j2⟩ := wi_ex (by decide) (by omega) hw
      refine hb18 _ _ _ ?_
      simp [bk_X4_cardAt_0, bk_X4_cardAt_18, pm_arr, pm_call, pm_e_c0, pm_e_c1, pm_e_cti, pm_e_ctl, pm_e_ctr, pm_e_go, pm_e_i, pm_e_ii, pm_e_l, pm_e_ldi, pm_e_ldr, pm_e_li, pm_e_lk, pm_e_r, pm_e_ri, pm_e_rm0, pm_e_rm1, pm_e_rs0, pm_e_rs1, pm_e_wp0, pm_e_wp1, pm_f2, pm_f3, pm_fld, pm_fv, pm_obj, pm_recv, pm_s_aload_n, pm_s_bipush, pm_s_getfield, pm_s_iaload, pm_s_iand, pm_s_iconst, pm_s_ifCond_ne, pm_s_iload_n, pm_s_imul, pm_s_invokestatic, pm_s_ireturn, pm_s_isub, pm_s_l2i, pm_s_laload, pm_s_lushr, ct_X4_cardAt, tt_X6_isWithin, pS, pR, pC, pE, pL, -Int32.not_le, -Int32.not_lt, -Int64.not_le, -Int64.not_lt, st_0 hp, st_1 hp, st_2 hp]
      simp (disch := omega) only [ni_in, ni_cl, ni_add, ni_mul, ni_sub, ni_lt, ni_le, ni_eq, ni_eq0, ni_lt0, ni_0le, ni_0lt, ni_le0, ni_a1, ni_a3, ni_a7, ni_a15, hS.n hi, hS.c hi]
      repeat refine ⟨by omega, ?_⟩
      rw [wb_shr (by omega) (by omega), ln_i]
      have e1 : nI (pq (S.1 i) / 2 ^ (4 * ((S.1 i).length - 1 - j))) &&& nI 15 = nI ((S.1 i).getD j 0) := by
        rw [← pq_at (hS.d16 hi) (show j < (S.1 i).length by omega), show (16 : Nat) = 2 ^ 4 from rfl, ← Nat.pow_mul]
        refine (pk_and _ 4 (by decide)).trans ?_
        rw [show (nI (pq (S.1 i) / 2 ^ (4 * ((S.1 i).length - 1 - j)))).toBitVec.toNat = (pq (S.1 i) / 2 ^ (4 * ((S.1 i).length - 1 - j))) % 2 ^ 32 from rfl]
        congr 1
        exact Nat.mod_mod_of_dvd _ (by decide)
      rw [e1]
      exact hT1 j (by omega) rfl
    · refine hT2 (fun j hj => ?_)
      rw [ni_sub (by omega)] at hw
      exact wi_no (by decide) (by omega) hw (by omega) (by omega)
  · exact hT.elim
def hoS (S : St) : Nat := S.2.2 0 + S.2.2 1 + S.2.2 2 + S.2.2 3
def tt_X4_cardsInHouses : pm_T := fun args M k => match args with
  | [.ref p] => ∃ ec S, isSt p ∧ SdX M p ec S ∧ k (some (.int (nI (hoS S)))) M
  | _ => False
abbrev ct_X4_cardsInHouses : List pm_C := []
set_option maxHeartbeats 4000000 in
theorem sm_X4_cardsInHouses  : pm_Sem SHx yX4_cardsInHouses cX4_cardsInHouses 1 (some .int) 1 tt_X4_cardsInHouses := by
  refine pm_Sem_intro bl_X4_cardsInHouses ct_X4_cardsInHouses cs_X4_cardsInHouses rfl (fun _ h => absurd h List.not_mem_nil) ck_X4_cardsInHouses (by decide +kernel) (by decide) ?_
  intro X k hX args M hT
  have hb0 := hX 0 bk_X4_cardsInHouses_0 (List.mem_of_getElem? (i := 0) rfl)
  clear hX
  unfold tt_X4_cardsInHouses at hT; split at hT
  · next p =>
    obtain ⟨ec, S, hp, hS, hT⟩ := hT
    refine ⟨by simp [lg_sl, Value.category], ?_⟩
    refine hb0 _ _ _ ?_
    simp [bk_X4_cardsInHouses_0, pm_arr, pm_e_c0, pm_e_c1, pm_e_cti, pm_e_ctl, pm_e_ctr, pm_e_go, pm_e_ii, pm_e_ldr, pm_e_lk, pm_e_r, pm_e_ri, pm_e_rm0, pm_e_rm1, pm_e_rs0, pm_e_rs1, pm_e_wp0, pm_e_wp1, pm_f2, pm_f3, pm_fld, pm_fv, pm_obj, pm_s_aload_n, pm_s_getfield, pm_s_iadd, pm_s_iaload, pm_s_iconst, pm_s_ireturn, ct_X4_cardsInHouses, pS, pR, pC, pE, pL, -Int32.not_le, -Int32.not_lt, -Int64.not_le, -Int64.not_lt, lv_args, st_0 hp, st_4 hp]
    simp (disch := omega) only [ni_in, ni_cl, ni_add, ni_mul, ni_sub, ni_lt, ni_le, ni_eq, ni_eq0, ni_lt0, ni_0le, ni_0lt, ni_le0, ni_a1, ni_a3, ni_a7, ni_a15, hS.h (show 0 < 4 by decide), hS.h (show 1 < 4 by decide), hS.h (show 2 < 4 by decide), hS.h (show 3 < 4 by decide)]
    repeat refine ⟨by omega, ?_⟩
    exact hT
  · exact hT.elim
def tt_X4_isDone : pm_T := fun args M k => match args with
  | [.ref p] => ∃ ec S P, isSt p ∧ SdX M p ec S ∧ DkX M P ∧ k (some (.int (pb (decide (hoS S = pS P * pR P))))) M
  | _ => False
abbrev ct_X4_isDone : List pm_C := [(false, 55, 4, 1, (some .int), tt_X4_cardsInHouses), (false, 59, 0, 1, (some .int), tt_X0_size)]
set_option maxHeartbeats 4000000 in
theorem sm_X4_isDone  : pm_Sem SHx yX4_isDone cX4_isDone 1 (some .boolean) 2 tt_X4_isDone := by
  refine pm_Sem_intro bl_X4_isDone ct_X4_isDone cs_X4_isDone rfl (List.forall_mem_cons.mpr ⟨⟨_, _, _, _, sm_X4_cardsInHouses, by decide, cm_X4_cardsInHouses, by decide +kernel⟩, List.forall_mem_cons.mpr ⟨⟨_, _, _, _, sm_X0_size, by decide, cm_X0_size, by decide +kernel⟩, fun _ h => absurd h List.not_mem_nil⟩⟩) ck_X4_isDone (by decide +kernel) (by decide) ?_
  intro X k hX args M hT
  have hb0 := hX 0 bk_X4_isDone_0 (List.mem_of_getElem? (i := 0) rfl)
  have hb18 := hX 18 bk_X4_isDone_18 (List.mem_of_getElem? (i := 1) rfl)
  have hb19 := hX 19 bk_X4_isDone_19 (List.mem_of_getElem? (i := 2) rfl)
  clear hX
  unfold tt_X4_isDone at hT; split at hT
  · next p =>
    obtain ⟨ec, S, P, hp, hS, hD, hT⟩ := hT
    have hP := hD.1.1
    have b0 := hS.1.2.2 0 (by decide)
    have b1 := hS.1.2.2 1 (by decide)
    have b2 := hS.1.2.2 2 (by decide)
    have b3 := hS.1.2.2 3 (by decide)
    have hb : hoS S ≤ 24 := by unfold hoS; omega
    refine ⟨by simp [lg_sl, Value.category], ?_⟩
    refine hb0 _ _ _ ?_
    simp [bk_X4_isDone_0, bk_X4_isDone_18, bk_X4_isDone_19, pm_call, pm_e_c0, pm_e_c1, pm_e_cti, pm_e_ctl, pm_e_ctr, pm_e_go, pm_e_ii, pm_e_ldr, pm_e_lk, pm_e_r, pm_e_rm0, pm_e_rm1, pm_e_rs0, pm_e_rs1, pm_e_wp0, pm_e_wp1, pm_f2, pm_f3, pm_fld, pm_fv, pm_obj, pm_recv, pm_s_aload_n, pm_s_getfield, pm_s_goto, pm_s_iconst, pm_s_if_icmp_ne, pm_s_invokevirtual, pm_s_ireturn, ct_X4_isDone, tt_X0_size, pS, pR, pC, pE, pL, -Int32.not_le, -Int32.not_lt, -Int64.not_le, -Int64.not_lt, lv_args, st_0 hp, sx_1]
    refine ⟨ec, S, hp, hS, ?_⟩
    simp [bk_X4_isDone_0, bk_X4_isDone_18, bk_X4_isDone_19, pm_call, pm_e_c0, pm_e_c1, pm_e_cti, pm_e_ctl, pm_e_ctr, pm_e_go, pm_e_ii, pm_e_ldr, pm_e_lk, pm_e_r, pm_e_rm0, pm_e_rm1, pm_e_rs0, pm_e_rs1, pm_e_wp0, pm_e_wp1, pm_f2, pm_f3, pm_fld, pm_fv, pm_obj, pm_recv, pm_s_aload_n, pm_s_getfield, pm_s_goto, pm_s_iconst, pm_s_if_icmp_ne, pm_s_invokevirtual, pm_s_ireturn, ct_X4_isDone, tt_X0_size, pS, pR, pC, pE, pL, -Int32.not_le, -Int32.not_lt, -Int64.not_le, -Int64.not_lt, lv_args, st_0 hp, sx_1, hD.1.2.1.1, hD.1.2.1.2.1]
    obtain ⟨h1, h2, h3, h4, h5, h6, h7, h8, h9⟩ := hP
    dsimp only [pS, pR] at h1 h2 h3 h4 h5 hT
    simp (disch := omega) only [ni_in, ni_cl, ni_add, ni_mul, ni_sub, ni_lt, ni_le, ni_eq, ni_eq0, ni_lt0, ni_0le, ni_0lt, ni_le0, ni_a1, ni_a3, ni_a7, ni_a15]
    repeat' first
      | refine ⟨fun _ => ?_, fun _ => ?_⟩
      | (refine hb18 _ _ _ ?_; simp [bk_X4_isDone_0, bk_X4_isDone_18, bk_X4_isDone_19, pm_call, pm_e_c0, pm_e_c1, pm_e_cti, pm_e_ctl, pm_e_ctr, pm_e_go, pm_e_ii, pm_e_ldr, pm_e_lk, pm_e_r, pm_e_rm0, pm_e_rm1, pm_e_rs0, pm_e_rs1, pm_e_wp0, pm_e_wp1, pm_f2, pm_f3, pm_fld, pm_fv, pm_obj, pm_recv, pm_s_aload_n, pm_s_getfield, pm_s_goto, pm_s_iconst, pm_s_if_icmp_ne, pm_s_invokevirtual, pm_s_ireturn, ct_X4_isDone, tt_X0_size, pS, pR, pC, pE, pL, -Int32.not_le, -Int32.not_lt, -Int64.not_le, -Int64.not_lt, ni_0, ni_1])
      | (refine hb19 _ _ _ ?_; simp [bk_X4_isDone_0, bk_X4_isDone_18, bk_X4_isDone_19, pm_call, pm_e_c0, pm_e_c1, pm_e_cti, pm_e_ctl, pm_e_ctr, pm_e_go, pm_e_ii, pm_e_ldr, pm_e_lk, pm_e_r, pm_e_rm0, pm_e_rm1, pm_e_rs0, pm_e_rs1, pm_e_wp0, pm_e_wp1, pm_f2, pm_f3, pm_fld, pm_fv, pm_obj, pm_recv, pm_s_aload_n, pm_s_getfield, pm_s_goto, pm_s_iconst, pm_s_if_icmp_ne, pm_s_invokevirtual, pm_s_ireturn, ct_X4_isDone, tt_X0_size, pS, pR, pC, pE, pL, -Int32.not_le, -Int32.not_lt, -Int64.not_le, -Int64.not_lt, ni_0, ni_1])
    all_goals simp_all [ni_0, ni_1, pb_t, pb_f, -Int32.not_le, -Int32.not_lt]
  · exact hT.elim
end
section
/-- the first free cell, or 2 -/
def ffc (ec : Nat) (S : St) : Nat := if 0 < ec ∧ S.2.1 0 = 0 then 0 else if 1 < ec ∧ S.2.1 1 = 0 then 1 else 2
def ffI (n : Nat) : Int32 := if n = 2 then -nI 1 else nI n
def nfc (ec : Nat) (S : St) : Nat := (if 0 < ec ∧ S.2.1 0 = 0 then 1 else 0) + (if 1 < ec ∧ S.2.1 1 = 0 then 1 else 0)
def tt_X4_firstFreeCell : pm_T := fun args M k => match args with
  | [.ref p] => ∃ ec S, isSt p ∧ SdX M p ec S ∧ k (some (.int (ffI (ffc ec S)))) M
  | _ => False
abbrev ct_X4_firstFreeCell : List pm_C := []
set_option maxHeartbeats 4000000 in
theorem sm_X4_firstFreeCell  : pm_Sem SHx yX4_firstFreeCell cX4_firstFreeCell 2 (some .int) 1 tt_X4_firstFreeCell := by
  refine pm_Sem_intro bl_X4_firstFreeCell ct_X4_firstFreeCell cs_X4_firstFreeCell rfl (fun _ h => absurd h List.not_mem_nil) ck_X4_firstFreeCell (by decide +kernel) (by decide) ?_
  intro X k hX args M hT
  have hb0 := hX 0 bk_X4_firstFreeCell_0 (List.mem_of_getElem? (i := 0) rfl)
  have hb2 := hX 2 bk_X4_firstFreeCell_2 (List.mem_of_getElem? (i := 1) rfl)
  have hb26 := hX 26 bk_X4_firstFreeCell_26 (List.mem_of_getElem? (i := 2) rfl)
  have hb32 := hX 32 bk_X4_firstFreeCell_32 (List.mem_of_getElem? (i := 3) rfl)
  clear hX
  unfold tt_X4_firstFreeCell at hT; split at hT
  · next p =>
    obtain ⟨ec, S, hp, hS, hT⟩ := hT
    have hec := hS.2.1
    have hcc := hS.2.2.1
    have b0 := hS.1.2.1 0 (by decide)
    have b1 := hS.1.2.1 1 (by decide)
    refine ⟨by simp [lg_sl, Value.category], ?_⟩
    have out : ffc ec S = 2 → X 32 [] [] M := by
      intro hf
      refine hb32 _ _ _ ?_
      simp [bk_X4_firstFreeCell_0, bk_X4_firstFreeCell_2, bk_X4_firstFreeCell_26, bk_X4_firstFreeCell_32, pm_arr, pm_e_c0, pm_e_c1, pm_e_cti, pm_e_ctl, pm_e_ctr, pm_e_go, pm_e_i, pm_e_ii, pm_e_ldi, pm_e_ldr, pm_e_lk, pm_e_r, pm_e_ri, pm_e_rm0, pm_e_rm1, pm_e_rs0, pm_e_rs1, pm_e_wp0, pm_e_wp1, pm_f2, pm_f3, pm_fld, pm_fv, pm_obj, pm_s_aload_n, pm_s_getfield, pm_s_goto, pm_s_iaload, pm_s_iconst, pm_s_ifCond_ne, pm_s_if_icmp_ge, pm_s_iinc, pm_s_iload_n, pm_s_ireturn, pm_s_istore_n, ct_X4_firstFreeCell, pS, pR, pC, pE, pL, -Int32.not_le, -Int32.not_lt, -Int64.not_le, -Int64.not_lt]
      rw [hf] at hT; exact hT
    have e2 : ffc ec S = 2 → X 2 [(0, .ref p), (1, .int (nI 2))] [] M := by
      intro hf
      refine hb2 _ _ _ ?_
      simp [bk_X4_firstFreeCell_0, bk_X4_firstFreeCell_2, bk_X4_firstFreeCell_26, bk_X4_firstFreeCell_32, pm_arr, pm_e_c0, pm_e_c1, pm_e_cti, pm_e_ctl, pm_e_ctr, pm_e_go, pm_e_i, pm_e_ii, pm_e_ldi, pm_e_ldr, pm_e_lk, pm_e_r, pm_e_ri, pm_e_rm0, pm_e_rm1, pm_e_rs0, pm_e_rs1, pm_e_wp0, pm_e_wp1, pm_f2, pm_f3, pm_fld, pm_fv, pm_obj, pm_s_aload_n, pm_s_getfield, pm_s_goto, pm_s_iaload, pm_s_iconst, pm_s_ifCond_ne, pm_s_if_icmp_ge, pm_s_iinc, pm_s_iload_n, pm_s_ireturn, pm_s_istore_n, ct_X4_firstFreeCell, pS, pR, pC, pE, pL, -Int32.not_le, -Int32.not_lt, -Int64.not_le, -Int64.not_lt, st_0 hp, st_3 hp, hcc]
      exact out hf
    have e1 : (¬ (0 < ec ∧ S.2.1 0 = 0)) → X 2 [(0, .ref p), (1, .int (nI 1))] [] M := by
      intro h0
      refine hb2 _ _ _ ?_
      simp [bk_X4_firstFreeCell_0, bk_X4_firstFreeCell_2, bk_X4_firstFreeCell_26, bk_X4_firstFreeCell_32, pm_arr, pm_e_c0, pm_e_c1, pm_e_cti, pm_e_ctl, pm_e_ctr, pm_e_go, pm_e_i, pm_e_ii, pm_e_ldi, pm_e_ldr, pm_e_lk, pm_e_r, pm_e_ri, pm_e_rm0, pm_e_rm1, pm_e_rs0, pm_e_rs1, pm_e_wp0, pm_e_wp1, pm_f2, pm_f3, pm_fld, pm_fv, pm_obj, pm_s_aload_n, pm_s_getfield, pm_s_goto, pm_s_iaload, pm_s_iconst, pm_s_ifCond_ne, pm_s_if_icmp_ge, pm_s_iinc, pm_s_iload_n, pm_s_ireturn, pm_s_istore_n, ct_X4_firstFreeCell, pS, pR, pC, pE, pL, -Int32.not_le, -Int32.not_lt, -Int64.not_le, -Int64.not_lt, st_0 hp, st_3 hp, hcc]
      simp (disch := omega) only [ni_in, ni_cl, ni_add, ni_mul, ni_sub, ni_lt, ni_le, ni_eq, ni_eq0, ni_lt0, ni_0le, ni_0lt, ni_le0, ni_a1, ni_a3, ni_a7, ni_a15, hS.e (show 1 < 2 by decide)]
      refine ⟨fun h => out ?_, fun h => ⟨fun h' => by omega, fun _ => ⟨by omega, fun h3 => ?_, fun h3 => ?_⟩⟩⟩
      · simp only [ffc, h0, if_false]; rw [if_neg (by omega)]
      · refine hb26 _ _ _ ?_
        simp [bk_X4_firstFreeCell_0, bk_X4_firstFreeCell_2, bk_X4_firstFreeCell_26, bk_X4_firstFreeCell_32, pm_arr, pm_e_c0, pm_e_c1, pm_e_cti, pm_e_ctl, pm_e_ctr, pm_e_go, pm_e_i, pm_e_ii, pm_e_ldi, pm_e_ldr, pm_e_lk, pm_e_r, pm_e_ri, pm_e_rm0, pm_e_rm1, pm_e_rs0, pm_e_rs1, pm_e_wp0, pm_e_wp1, pm_f2, pm_f3, pm_fld, pm_fv, pm_obj, pm_s_aload_n, pm_s_getfield, pm_s_goto, pm_s_iaload, pm_s_iconst, pm_s_ifCond_ne, pm_s_if_icmp_ge, pm_s_iinc, pm_s_iload_n, pm_s_ireturn, pm_s_istore_n, ct_X4_firstFreeCell, pS, pR, pC, pE, pL, -Int32.not_le, -Int32.not_lt, -Int64.not_le, -Int64.not_lt]
        rw [ni_add]
        refine e2 ?_
        simp only [ffc, h0, if_false]; rw [if_neg (by omega)]
      · have : ffc ec S = 1 := by simp only [ffc, h0, if_false]; rw [if_pos ⟨by omega, h3⟩]
        rw [this] at hT; exact hT
    refine hb0 _ _ _ ?_
    simp [bk_X4_firstFreeCell_0, bk_X4_firstFreeCell_2, bk_X4_firstFreeCell_26, bk_X4_firstFreeCell_32, pm_arr, pm_e_c0, pm_e_c1, pm_e_cti, pm_e_ctl, pm_e_ctr, pm_e_go, pm_e_i, pm_e_ii, pm_e_ldi, pm_e_ldr, pm_e_lk, pm_e_r, pm_e_ri, pm_e_rm0, pm_e_rm1, pm_e_rs0, pm_e_rs1, pm_e_wp0, pm_e_wp1, pm_f2, pm_f3, pm_fld, pm_fv, pm_obj, pm_s_aload_n, pm_s_getfield, pm_s_goto, pm_s_iaload, pm_s_iconst, pm_s_ifCond_ne, pm_s_if_icmp_ge, pm_s_iinc, pm_s_iload_n, pm_s_ireturn, pm_s_istore_n, ct_X4_firstFreeCell, pS, pR, pC, pE, pL, -Int32.not_le, -Int32.not_lt, -Int64.not_le, -Int64.not_lt, lv_args]
    refine hb2 _ _ _ ?_
    simp [bk_X4_firstFreeCell_0, bk_X4_firstFreeCell_2, bk_X4_firstFreeCell_26, bk_X4_firstFreeCell_32, pm_arr, pm_e_c0, pm_e_c1, pm_e_cti, pm_e_ctl, pm_e_ctr, pm_e_go, pm_e_i, pm_e_ii, pm_e_ldi, pm_e_ldr, pm_e_lk, pm_e_r, pm_e_ri, pm_e_rm0, pm_e_rm1, pm_e_rs0, pm_e_rs1, pm_e_wp0, pm_e_wp1, pm_f2, pm_f3, pm_fld, pm_fv, pm_obj, pm_s_aload_n, pm_s_getfield, pm_s_goto, pm_s_iaload, pm_s_iconst, pm_s_ifCond_ne, pm_s_if_icmp_ge, pm_s_iinc, pm_s_iload_n, pm_s_ireturn, pm_s_istore_n, ct_X4_firstFreeCell, pS, pR, pC, pE, pL, -Int32.not_le, -Int32.not_lt, -Int64.not_le, -Int64.not_lt, st_0 hp, st_3 hp, hcc]
    simp (disch := omega) only [ni_in, ni_cl, ni_add, ni_mul, ni_sub, ni_lt, ni_le, ni_eq, ni_eq0, ni_lt0, ni_0le, ni_0lt, ni_le0, ni_a1, ni_a3, ni_a7, ni_a15, hS.e (show 0 < 2 by decide)]
    refine ⟨fun h => out ?_, fun h => ⟨fun h' => by omega, fun _ => ⟨by omega, fun h3 => ?_, fun h3 => ?_⟩⟩⟩
    · unfold ffc; rw [if_neg (by omega), if_neg (by omega)]
    · refine hb26 _ _ _ ?_
      simp [bk_X4_firstFreeCell_0, bk_X4_firstFreeCell_2, bk_X4_firstFreeCell_26, bk_X4_firstFreeCell_32, pm_arr, pm_e_c0, pm_e_c1, pm_e_cti, pm_e_ctl, pm_e_ctr, pm_e_go, pm_e_i, pm_e_ii, pm_e_ldi, pm_e_ldr, pm_e_lk, pm_e_r, pm_e_ri, pm_e_rm0, pm_e_rm1, pm_e_rs0, pm_e_rs1, pm_e_wp0, pm_e_wp1, pm_f2, pm_f3, pm_fld, pm_fv, pm_obj, pm_s_aload_n, pm_s_getfield, pm_s_goto, pm_s_iaload, pm_s_iconst, pm_s_ifCond_ne, pm_s_if_icmp_ge, pm_s_iinc, pm_s_iload_n, pm_s_ireturn, pm_s_istore_n, ct_X4_firstFreeCell, pS, pR, pC, pE, pL, -Int32.not_le, -Int32.not_lt, -Int64.not_le, -Int64.not_lt]
      rw [ni_add]
      exact e1 (by omega)
    · have : ffc ec S = 0 := by unfold ffc; rw [if_pos ⟨by omega, h3⟩]
      rw [this] at hT; exact hT
  · exact hT.elim
def tt_X4_freeCells : pm_T := fun args M k => match args with
  | [.ref p] => ∃ ec S, isSt p ∧ SdX M p ec S ∧ k (some (.int (nI (nfc ec S)))) M
  | _ => False
abbrev ct_X4_freeCells : List pm_C := []
set_option maxHeartbeats 4000000 in
theorem sm_X4_freeCells  : pm_Sem SHx yX4_freeCells cX4_freeCells 3 (some .int) 1 tt_X4_freeCells := by
  refine pm_Sem_intro bl_X4_freeCells ct_X4_freeCells cs_X4_freeCells rfl (fun _ h => absurd h List.not_mem_nil) ck_X4_freeCells (by decide +kernel) (by decide) ?_
  intro X k hX args M hT
  have hb0 := hX 0 bk_X4_freeCells_0 (List.mem_of_getElem? (i := 0) rfl)
  have hb4 := hX 4 bk_X4_freeCells_4 (List.mem_of_getElem? (i := 1) rfl)
  have hb31 := hX 31 bk_X4_freeCells_31 (List.mem_of_getElem? (i := 2) rfl)
  have hb32 := hX 32 bk_X4_freeCells_32 (List.mem_of_getElem? (i := 3) rfl)
  have hb40 := hX 40 bk_X4_freeCells_40 (List.mem_of_getElem? (i := 4) rfl)
  clear hX
  unfold tt_X4_freeCells at hT; split at hT
  · next p =>
    obtain ⟨ec, S, hp, hS, hT⟩ := hT
    have hec := hS.2.1
    have hcc := hS.2.2.1
    have b0 := hS.1.2.1 0 (by decide)
    have b1 := hS.1.2.1 1 (by decide)
    refine ⟨by simp [lg_sl, Value.category], ?_⟩
    have out : ∀ n, n = nfc ec S → X 40 [(1, .int (nI n))] [] M := by
      intro n hn
      refine hb40 _ _ _ ?_
      simp [bk_X4_freeCells_0, bk_X4_freeCells_4, bk_X4_freeCells_31, bk_X4_freeCells_32, bk_X4_freeCells_40, pm_arr, pm_e_c0, pm_e_c1, pm_e_cti, pm_e_ctl, pm_e_ctr, pm_e_go, pm_e_i, pm_e_ii, pm_e_ldi, pm_e_ldr, pm_e_lk, pm_e_r, pm_e_ri, pm_e_rm0, pm_e_rm1, pm_e_rs0, pm_e_rs1, pm_e_wp0, pm_e_wp1, pm_f2, pm_f3, pm_fld, pm_fv, pm_obj, pm_s_aload_n, pm_s_getfield, pm_s_goto, pm_s_iadd, pm_s_iaload, pm_s_iconst, pm_s_ifCond_ne, pm_s_if_icmp_ge, pm_s_iinc, pm_s_iload_n, pm_s_ireturn, pm_s_istore_n, ct_X4_freeCells, pS, pR, pC, pE, pL, -Int32.not_le, -Int32.not_lt, -Int64.not_le, -Int64.not_lt]
      rw [hn]; exact hT
    have e2 : ∀ n, n = nfc ec S → X 4 [(0, .ref p), (1, .int (nI n)), (2, .int (nI 2))] [] M := by
      intro n hf
      refine hb4 _ _ _ ?_
      simp [bk_X4_freeCells_0, bk_X4_freeCells_4, bk_X4_freeCells_31, bk_X4_freeCells_32, bk_X4_freeCells_40, pm_arr, pm_e_c0, pm_e_c1, pm_e_cti, pm_e_ctl, pm_e_ctr, pm_e_go, pm_e_i, pm_e_ii, pm_e_ldi, pm_e_ldr, pm_e_lk, pm_e_r, pm_e_ri, pm_e_rm0, pm_e_rm1, pm_e_rs0, pm_e_rs1, pm_e_wp0, pm_e_wp1, pm_f2, pm_f3, pm_fld, pm_fv, pm_obj, pm_s_aload_n, pm_s_getfield, pm_s_goto, pm_s_iadd, pm_s_iaload, pm_s_iconst, pm_s_ifCond_ne, pm_s_if_icmp_ge, pm_s_iinc, pm_s_iload_n, pm_s_ireturn, pm_s_istore_n, ct_X4_freeCells, pS, pR, pC, pE, pL, -Int32.not_le, -Int32.not_lt, -Int64.not_le, -Int64.not_lt, st_0 hp, st_3 hp, hcc]
      exact out n hf
    have e1 : ∀ n, n = (if 0 < ec ∧ S.2.1 0 = 0 then 1 else 0) → X 4 [(0, .ref p), (1, .int (nI n)), (2, .int (nI 1))] [] M := by
      intro n hn
      refine hb4 _ _ _ ?_
      simp [bk_X4_freeCells_0, bk_X4_freeCells_4, bk_X4_freeCells_31, bk_X4_freeCells_32, bk_X4_freeCells_40, pm_arr, pm_e_c0, pm_e_c1, pm_e_cti, pm_e_ctl, pm_e_ctr, pm_e_go, pm_e_i, pm_e_ii, pm_e_ldi, pm_e_ldr, pm_e_lk, pm_e_r, pm_e_ri, pm_e_rm0, pm_e_rm1, pm_e_rs0, pm_e_rs1, pm_e_wp0, pm_e_wp1, pm_f2, pm_f3, pm_fld, pm_fv, pm_obj, pm_s_aload_n, pm_s_getfield, pm_s_goto, pm_s_iadd, pm_s_iaload, pm_s_iconst, pm_s_ifCond_ne, pm_s_if_icmp_ge, pm_s_iinc, pm_s_iload_n, pm_s_ireturn, pm_s_istore_n, ct_X4_freeCells, pS, pR, pC, pE, pL, -Int32.not_le, -Int32.not_lt, -Int64.not_le, -Int64.not_lt, st_0 hp, st_3 hp, hcc]
      simp (disch := omega) only [ni_in, ni_cl, ni_add, ni_mul, ni_sub, ni_lt, ni_le, ni_eq, ni_eq0, ni_lt0, ni_0le, ni_0lt, ni_le0, ni_a1, ni_a3, ni_a7, ni_a15, hS.e (show 1 < 2 by decide)]
      refine ⟨fun h => out n ?_, fun h => ⟨fun h' => by omega, fun _ => ⟨by omega, fun h3 => ?_, fun h3 => ?_⟩⟩⟩
      · unfold nfc; rw [← hn, if_neg (by omega)]; rfl
      · refine hb31 _ _ _ ?_
        simp [bk_X4_freeCells_0, bk_X4_freeCells_4, bk_X4_freeCells_31, bk_X4_freeCells_32, bk_X4_freeCells_40, pm_arr, pm_e_c0, pm_e_c1, pm_e_cti, pm_e_ctl, pm_e_ctr, pm_e_go, pm_e_i, pm_e_ii, pm_e_ldi, pm_e_ldr, pm_e_lk, pm_e_r, pm_e_ri, pm_e_rm0, pm_e_rm1, pm_e_rs0, pm_e_rs1, pm_e_wp0, pm_e_wp1, pm_f2, pm_f3, pm_fld, pm_fv, pm_obj, pm_s_aload_n, pm_s_getfield, pm_s_goto, pm_s_iadd, pm_s_iaload, pm_s_iconst, pm_s_ifCond_ne, pm_s_if_icmp_ge, pm_s_iinc, pm_s_iload_n, pm_s_ireturn, pm_s_istore_n, ct_X4_freeCells, pS, pR, pC, pE, pL, -Int32.not_le, -Int32.not_lt, -Int64.not_le, -Int64.not_lt]
        refine hb32 _ _ _ ?_
        simp [bk_X4_freeCells_0, bk_X4_freeCells_4, bk_X4_freeCells_31, bk_X4_freeCells_32, bk_X4_freeCells_40, pm_arr, pm_e_c0, pm_e_c1, pm_e_cti, pm_e_ctl, pm_e_ctr, pm_e_go, pm_e_i, pm_e_ii, pm_e_ldi, pm_e_ldr, pm_e_lk, pm_e_r, pm_e_ri, pm_e_rm0, pm_e_rm1, pm_e_rs0, pm_e_rs1, pm_e_wp0, pm_e_wp1, pm_f2, pm_f3, pm_fld, pm_fv, pm_obj, pm_s_aload_n, pm_s_getfield, pm_s_goto, pm_s_iadd, pm_s_iaload, pm_s_iconst, pm_s_ifCond_ne, pm_s_if_icmp_ge, pm_s_iinc, pm_s_iload_n, pm_s_ireturn, pm_s_istore_n, ct_X4_freeCells, pS, pR, pC, pE, pL, -Int32.not_le, -Int32.not_lt, -Int64.not_le, -Int64.not_lt]
        simp only [ni_add]
        exact e2 _ (by unfold nfc; rw [← hn, if_neg (by omega)])
      · refine hb32 _ _ _ ?_
        simp [bk_X4_freeCells_0, bk_X4_freeCells_4, bk_X4_freeCells_31, bk_X4_freeCells_32, bk_X4_freeCells_40, pm_arr, pm_e_c0, pm_e_c1, pm_e_cti, pm_e_ctl, pm_e_ctr, pm_e_go, pm_e_i, pm_e_ii, pm_e_ldi, pm_e_ldr, pm_e_lk, pm_e_r, pm_e_ri, pm_e_rm0, pm_e_rm1, pm_e_rs0, pm_e_rs1, pm_e_wp0, pm_e_wp1, pm_f2, pm_f3, pm_fld, pm_fv, pm_obj, pm_s_aload_n, pm_s_getfield, pm_s_goto, pm_s_iadd, pm_s_iaload, pm_s_iconst, pm_s_ifCond_ne, pm_s_if_icmp_ge, pm_s_iinc, pm_s_iload_n, pm_s_ireturn, pm_s_istore_n, ct_X4_freeCells, pS, pR, pC, pE, pL, -Int32.not_le, -Int32.not_lt, -Int64.not_le, -Int64.not_lt]
        simp only [ni_add]
        exact e2 _ (by unfold nfc; rw [← hn, if_pos ⟨by omega, h3⟩])
    refine hb0 _ _ _ ?_
    simp [bk_X4_freeCells_0, bk_X4_freeCells_4, bk_X4_freeCells_31, bk_X4_freeCells_32, bk_X4_freeCells_40, pm_arr, pm_e_c0, pm_e_c1, pm_e_cti, pm_e_ctl, pm_e_ctr, pm_e_go, pm_e_i, pm_e_ii, pm_e_ldi, pm_e_ldr, pm_e_lk, pm_e_r, pm_e_ri, pm_e_rm0, pm_e_rm1, pm_e_rs0, pm_e_rs1, pm_e_wp0, pm_e_wp1, pm_f2, pm_f3, pm_fld, pm_fv, pm_obj, pm_s_aload_n, pm_s_getfield, pm_s_goto, pm_s_iadd, pm_s_iaload, pm_s_iconst, pm_s_ifCond_ne, pm_s_if_icmp_ge, pm_s_iinc, pm_s_iload_n, pm_s_ireturn, pm_s_istore_n, ct_X4_freeCells, pS, pR, pC, pE, pL, -Int32.not_le, -Int32.not_lt, -Int64.not_le, -Int64.not_lt, lv_args]
    refine hb4 _ _ _ ?_
    simp [bk_X4_freeCells_0, bk_X4_freeCells_4, bk_X4_freeCells_31, bk_X4_freeCells_32, bk_X4_freeCells_40, pm_arr, pm_e_c0, pm_e_c1, pm_e_cti, pm_e_ctl, pm_e_ctr, pm_e_go, pm_e_i, pm_e_ii, pm_e_ldi, pm_e_ldr, pm_e_lk, pm_e_r, pm_e_ri, pm_e_rm0, pm_e_rm1, pm_e_rs0, pm_e_rs1, pm_e_wp0, pm_e_wp1, pm_f2, pm_f3, pm_fld, pm_fv, pm_obj, pm_s_aload_n, pm_s_getfield, pm_s_goto, pm_s_iadd, pm_s_iaload, pm_s_iconst, pm_s_ifCond_ne, pm_s_if_icmp_ge, pm_s_iinc, pm_s_iload_n, pm_s_ireturn, pm_s_istore_n, ct_X4_freeCells, pS, pR, pC, pE, pL, -Int32.not_le, -Int32.not_lt, -Int64.not_le, -Int64.not_lt, st_0 hp, st_3 hp, hcc]
    simp (disch := omega) only [ni_in, ni_cl, ni_add, ni_mul, ni_sub, ni_lt, ni_le, ni_eq, ni_eq0, ni_lt0, ni_0le, ni_0lt, ni_le0, ni_a1, ni_a3, ni_a7, ni_a15, hS.e (show 0 < 2 by decide)]
    refine ⟨fun h => out 0 ?_, fun h => ⟨fun h' => by omega, fun _ => ⟨by omega, fun h3 => ?_, fun h3 => ?_⟩⟩⟩
    · unfold nfc; rw [if_neg (by omega), if_neg (by omega)]
    · refine hb31 _ _ _ ?_
      simp [bk_X4_freeCells_0, bk_X4_freeCells_4, bk_X4_freeCells_31, bk_X4_freeCells_32, bk_X4_freeCells_40, pm_arr, pm_e_c0, pm_e_c1, pm_e_cti, pm_e_ctl, pm_e_ctr, pm_e_go, pm_e_i, pm_e_ii, pm_e_ldi, pm_e_ldr, pm_e_lk, pm_e_r, pm_e_ri, pm_e_rm0, pm_e_rm1, pm_e_rs0, pm_e_rs1, pm_e_wp0, pm_e_wp1, pm_f2, pm_f3, pm_fld, pm_fv, pm_obj, pm_s_aload_n, pm_s_getfield, pm_s_goto, pm_s_iadd, pm_s_iaload, pm_s_iconst, pm_s_ifCond_ne, pm_s_if_icmp_ge, pm_s_iinc, pm_s_iload_n, pm_s_ireturn, pm_s_istore_n, ct_X4_freeCells, pS, pR, pC, pE, pL, -Int32.not_le, -Int32.not_lt, -Int64.not_le, -Int64.not_lt]
      refine hb32 _ _ _ ?_
      simp [bk_X4_freeCells_0, bk_X4_freeCells_4, bk_X4_freeCells_31, bk_X4_freeCells_32, bk_X4_freeCells_40, pm_arr, pm_e_c0, pm_e_c1, pm_e_cti, pm_e_ctl, pm_e_ctr, pm_e_go, pm_e_i, pm_e_ii, pm_e_ldi, pm_e_ldr, pm_e_lk, pm_e_r, pm_e_ri, pm_e_rm0, pm_e_rm1, pm_e_rs0, pm_e_rs1, pm_e_wp0, pm_e_wp1, pm_f2, pm_f3, pm_fld, pm_fv, pm_obj, pm_s_aload_n, pm_s_getfield, pm_s_goto, pm_s_iadd, pm_s_iaload, pm_s_iconst, pm_s_ifCond_ne, pm_s_if_icmp_ge, pm_s_iinc, pm_s_iload_n, pm_s_ireturn, pm_s_istore_n, ct_X4_freeCells, pS, pR, pC, pE, pL, -Int32.not_le, -Int32.not_lt, -Int64.not_le, -Int64.not_lt]
      simp only [ni_add]
      exact e1 _ (by rw [if_neg (by omega)])
    · refine hb32 _ _ _ ?_
      simp [bk_X4_freeCells_0, bk_X4_freeCells_4, bk_X4_freeCells_31, bk_X4_freeCells_32, bk_X4_freeCells_40, pm_arr, pm_e_c0, pm_e_c1, pm_e_cti, pm_e_ctl, pm_e_ctr, pm_e_go, pm_e_i, pm_e_ii, pm_e_ldi, pm_e_ldr, pm_e_lk, pm_e_r, pm_e_ri, pm_e_rm0, pm_e_rm1, pm_e_rs0, pm_e_rs1, pm_e_wp0, pm_e_wp1, pm_f2, pm_f3, pm_fld, pm_fv, pm_obj, pm_s_aload_n, pm_s_getfield, pm_s_goto, pm_s_iadd, pm_s_iaload, pm_s_iconst, pm_s_ifCond_ne, pm_s_if_icmp_ge, pm_s_iinc, pm_s_iload_n, pm_s_ireturn, pm_s_istore_n, ct_X4_freeCells, pS, pR, pC, pE, pL, -Int32.not_le, -Int32.not_lt, -Int64.not_le, -Int64.not_lt]
      simp only [ni_add]
      exact e1 _ (by rw [if_pos ⟨by omega, h3⟩])
  · exact hT.elim
/-- the card that a move takes -/
def cardF (S : St) (a : Nat) : Nat := if a < 4 then lastC (S.1 a) else S.2.1 (a - 4)
def tt_X4_cardFrom : pm_T := fun args M k => match args with
  | [.ref p, .int x] => ∃ ec S a, isSt p ∧ x = nI a ∧ SdX M p ec S ∧ a < 6 ∧ k (some (.int (nI (cardF S a)))) M
  | _ => False
abbrev ct_X4_cardFrom : List pm_C := [(false, 79, 4, 2, (some .int), tt_X4_lastOf)]
set_option maxHeartbeats 4000000 in
theorem sm_X4_cardFrom  : pm_Sem SHx yX4_cardFrom cX4_cardFrom 2 (some .int) 2 tt_X4_cardFrom := by
  refine pm_Sem_intro bl_X4_cardFrom ct_X4_cardFrom cs_X4_cardFrom rfl (List.forall_mem_cons.mpr ⟨⟨_, _, _, _, sm_X4_lastOf, by decide, cm_X4_lastOf, by decide +kernel⟩, fun _ h => absurd h List.not_mem_nil⟩) ck_X4_cardFrom (by decide +kernel) (by decide) ?_
  intro X k hX args M hT
  have hb0 := hX 0 bk_X4_cardFrom_0 (List.mem_of_getElem? (i := 0) rfl)
  have hb13 := hX 13 bk_X4_cardFrom_13 (List.mem_of_getElem? (i := 1) rfl)
  have hb21 := hX 21 bk_X4_cardFrom_21 (List.mem_of_getElem? (i := 2) rfl)
  clear hX
  unfold tt_X4_cardFrom at hT; split at hT
  · next p x =>
    obtain ⟨ec, S, a, hp, rfl, hS, ha, hT⟩ := hT
    refine ⟨by simp [lg_sl, Value.category], ?_⟩
    have h21 : ∀ n, n = cardF S a → X 21 [] [.int (nI n)] M := by
      intro n hn
      refine hb21 _ _ _ ?_
      simp [bk_X4_cardFrom_0, bk_X4_cardFrom_13, bk_X4_cardFrom_21, pm_arr, pm_call, pm_e_c0, pm_e_c1, pm_e_cti, pm_e_ctl, pm_e_ctr, pm_e_go, pm_e_ii, pm_e_ldi, pm_e_ldr, pm_e_lk, pm_e_r, pm_e_ri, pm_e_rm0, pm_e_rm1, pm_e_rs0, pm_e_rs1, pm_e_wp0, pm_e_wp1, pm_f2, pm_f3, pm_fld, pm_fv, pm_obj, pm_recv, pm_s_aload_n, pm_s_getfield, pm_s_goto, pm_s_iaload, pm_s_iconst, pm_s_if_icmp_ge, pm_s_iload_n, pm_s_invokevirtual, pm_s_ireturn, pm_s_isub, ct_X4_cardFrom, pS, pR, pC, pE, pL, -Int32.not_le, -Int32.not_lt, -Int64.not_le, -Int64.not_lt]
      rw [hn]; exact hT
    refine hb0 _ _ _ ?_
    simp [bk_X4_cardFrom_0, bk_X4_cardFrom_13, bk_X4_cardFrom_21, pm_arr, pm_call, pm_e_c0, pm_e_c1, pm_e_cti, pm_e_ctl, pm_e_ctr, pm_e_go, pm_e_ii, pm_e_ldi, pm_e_ldr, pm_e_lk, pm_e_r, pm_e_ri, pm_e_rm0, pm_e_rm1, pm_e_rs0, pm_e_rs1, pm_e_wp0, pm_e_wp1, pm_f2, pm_f3, pm_fld, pm_fv, pm_obj, pm_recv, pm_s_aload_n, pm_s_getfield, pm_s_goto, pm_s_iaload, pm_s_iconst, pm_s_if_icmp_ge, pm_s_iload_n, pm_s_invokevirtual, pm_s_ireturn, pm_s_isub, ct_X4_cardFrom, pS, pR, pC, pE, pL, -Int32.not_le, -Int32.not_lt, -Int64.not_le, -Int64.not_lt, lv_args, st_0 hp]
    simp (disch := omega) only [ni_in, ni_cl, ni_add, ni_mul, ni_sub, ni_lt, ni_le, ni_eq, ni_eq0, ni_lt0, ni_0le, ni_0lt, ni_le0, ni_a1, ni_a3, ni_a7, ni_a15]
    refine ⟨fun h => ?_, fun h => ⟨ec, S, a, hp, rfl, hS, by omega, ?_⟩⟩
    · refine hb13 _ _ _ ?_
      simp [bk_X4_cardFrom_0, bk_X4_cardFrom_13, bk_X4_cardFrom_21, pm_arr, pm_call, pm_e_c0, pm_e_c1, pm_e_cti, pm_e_ctl, pm_e_ctr, pm_e_go, pm_e_ii, pm_e_ldi, pm_e_ldr, pm_e_lk, pm_e_r, pm_e_ri, pm_e_rm0, pm_e_rm1, pm_e_rs0, pm_e_rs1, pm_e_wp0, pm_e_wp1, pm_f2, pm_f3, pm_fld, pm_fv, pm_obj, pm_recv, pm_s_aload_n, pm_s_getfield, pm_s_goto, pm_s_iaload, pm_s_iconst, pm_s_if_icmp_ge, pm_s_iload_n, pm_s_invokevirtual, pm_s_ireturn, pm_s_isub, ct_X4_cardFrom, pS, pR, pC, pE, pL, -Int32.not_le, -Int32.not_lt, -Int64.not_le, -Int64.not_lt, st_0 hp, st_3 hp]
      simp (disch := omega) only [ni_in, ni_cl, ni_add, ni_mul, ni_sub, ni_lt, ni_le, ni_eq, ni_eq0, ni_lt0, ni_0le, ni_0lt, ni_le0, ni_a1, ni_a3, ni_a7, ni_a15, hS.e (show a - 4 < 2 by omega)]
      exact ⟨by omega, h21 _ (by simp [cardF, show ¬ a < 4 by omega])⟩
    · simp [bk_X4_cardFrom_0, bk_X4_cardFrom_13, bk_X4_cardFrom_21, pm_arr, pm_call, pm_e_c0, pm_e_c1, pm_e_cti, pm_e_ctl, pm_e_ctr, pm_e_go, pm_e_ii, pm_e_ldi, pm_e_ldr, pm_e_lk, pm_e_r, pm_e_ri, pm_e_rm0, pm_e_rm1, pm_e_rs0, pm_e_rs1, pm_e_wp0, pm_e_wp1, pm_f2, pm_f3, pm_fld, pm_fv, pm_obj, pm_recv, pm_s_aload_n, pm_s_getfield, pm_s_goto, pm_s_iaload, pm_s_iconst, pm_s_if_icmp_ge, pm_s_iload_n, pm_s_invokevirtual, pm_s_ireturn, pm_s_isub, ct_X4_cardFrom, pS, pR, pC, pE, pL, -Int32.not_le, -Int32.not_lt, -Int64.not_le, -Int64.not_lt]
      exact h21 _ (by simp [cardF, show a < 4 by omega])
  · exact hT.elim
def tt_X4_isNextInHouse : pm_T := fun args M k => match args with
  | [.ref p, .int x] => ∃ ec S P n, isSt p ∧ x = nI n ∧ SdX M p ec S ∧ DkX M P ∧ (1 ≤ n ∧ n ≤ pS P * pR P) ∧ k (some (.int (pb (decide (S.2.2 (su (pR P) n) + 1 = ra (pR P) n))))) M
  | _ => False
abbrev ct_X4_isNextInHouse : List pm_C := []
set_option maxHeartbeats 4000000 in
theorem sm_X4_isNextInHouse  : pm_Sem SHx yX4_isNextInHouse cX4_isNextInHouse 2 (some .boolean) 1 tt_X4_isNextInHouse := by
  refine pm_Sem_intro bl_X4_isNextInHouse ct_X4_isNextInHouse cs_X4_isNextInHouse rfl (fun _ h => absurd h List.not_mem_nil) ck_X4_isNextInHouse (by decide +kernel) (by decide) ?_
  intro X k hX args M hT
  have hb0 := hX 0 bk_X4_isNextInHouse_0 (List.mem_of_getElem? (i := 0) rfl)
  have hb32 := hX 32 bk_X4_isNextInHouse_32 (List.mem_of_getElem? (i := 1) rfl)
  have hb33 := hX 33 bk_X4_isNextInHouse_33 (List.mem_of_getElem? (i := 2) rfl)
  clear hX
  unfold tt_X4_isNextInHouse at hT; split at hT
  · next p x =>
    obtain ⟨ec, S, ⟨s, r, c, e, w⟩, n, hp, rfl, hS, hD, ⟨n1, n2⟩, hT⟩ := hT
    have hP := hD.1.1
    have mn := hD.1.2.2 n n1 n2
    obtain ⟨h1, h2, h3, h4, h5, h6, h7, h8, h9⟩ := hP
    dsimp only [pS, pR, pC, pE, pL] at *
    have un := su_lt h3 n1 n2
    have qn := ra_le (n := n) h3
    have gn := ra_ge (r := r) (n := n)
    have bh := hS.1.2.2 (su r n) (by omega)
    refine ⟨by simp [lg_sl, Value.category], ?_⟩
    refine hb0 _ _ _ ?_
    simp [bk_X4_isNextInHouse_0, bk_X4_isNextInHouse_32, bk_X4_isNextInHouse_33, pm_arr, pm_e_c0, pm_e_c1, pm_e_cti, pm_e_ctl, pm_e_ctr, pm_e_go, pm_e_ii, pm_e_ldi, pm_e_ldr, pm_e_lk, pm_e_r, pm_e_ri, pm_e_rm0, pm_e_rm1, pm_e_rs0, pm_e_rs1, pm_e_wp0, pm_e_wp1, pm_f2, pm_f3, pm_fld, pm_fv, pm_obj, pm_s_aload_n, pm_s_getfield, pm_s_goto, pm_s_iaload, pm_s_iconst, pm_s_if_icmp_ne, pm_s_iload_n, pm_s_ireturn, pm_s_isub, ct_X4_isNextInHouse, pS, pR, pC, pE, pL, -Int32.not_le, -Int32.not_lt, -Int64.not_le, -Int64.not_lt, lv_args, st_0 hp, st_4 hp, sx_1, sx_2, sx_3]
    simp (disch := omega) only [ni_in, ni_cl, ni_add, ni_mul, ni_sub, ni_lt, ni_le, ni_eq, ni_eq0, ni_lt0, ni_0le, ni_0lt, ni_le0, ni_a1, ni_a3, ni_a7, ni_a15, mn.1, mn.2, hS.h (show su r n < 4 by omega)]
    repeat refine ⟨by omega, ?_⟩
    refine ⟨fun h => ?_, fun h => ?_⟩
    · refine hb32 _ _ _ ?_
      simp [bk_X4_isNextInHouse_0, bk_X4_isNextInHouse_32, bk_X4_isNextInHouse_33, pm_arr, pm_e_c0, pm_e_c1, pm_e_cti, pm_e_ctl, pm_e_ctr, pm_e_go, pm_e_ii, pm_e_ldi, pm_e_ldr, pm_e_lk, pm_e_r, pm_e_ri, pm_e_rm0, pm_e_rm1, pm_e_rs0, pm_e_rs1, pm_e_wp0, pm_e_wp1, pm_f2, pm_f3, pm_fld, pm_fv, pm_obj, pm_s_aload_n, pm_s_getfield, pm_s_goto, pm_s_iaload, pm_s_iconst, pm_s_if_icmp_ne, pm_s_iload_n, pm_s_ireturn, pm_s_isub, ct_X4_isNextInHouse, pS, pR, pC, pE, pL, -Int32.not_le, -Int32.not_lt, -Int64.not_le, -Int64.not_lt]
      refine hb33 _ _ _ ?_
      simp [bk_X4_isNextInHouse_0, bk_X4_isNextInHouse_32, bk_X4_isNextInHouse_33, pm_arr, pm_e_c0, pm_e_c1, pm_e_cti, pm_e_ctl, pm_e_ctr, pm_e_go, pm_e_ii, pm_e_ldi, pm_e_ldr, pm_e_lk, pm_e_r, pm_e_ri, pm_e_rm0, pm_e_rm1, pm_e_rs0, pm_e_rs1, pm_e_wp0, pm_e_wp1, pm_f2, pm_f3, pm_fld, pm_fv, pm_obj, pm_s_aload_n, pm_s_getfield, pm_s_goto, pm_s_iaload, pm_s_iconst, pm_s_if_icmp_ne, pm_s_iload_n, pm_s_ireturn, pm_s_isub, ct_X4_isNextInHouse, pS, pR, pC, pE, pL, -Int32.not_le, -Int32.not_lt, -Int64.not_le, -Int64.not_lt, ni_0]
      rw [decide_eq_false (show ¬ S.2.2 (su r n) + 1 = ra r n by omega)] at hT; exact hT
    · refine hb33 _ _ _ ?_
      simp [bk_X4_isNextInHouse_0, bk_X4_isNextInHouse_32, bk_X4_isNextInHouse_33, pm_arr, pm_e_c0, pm_e_c1, pm_e_cti, pm_e_ctl, pm_e_ctr, pm_e_go, pm_e_ii, pm_e_ldi, pm_e_ldr, pm_e_lk, pm_e_r, pm_e_ri, pm_e_rm0, pm_e_rm1, pm_e_rs0, pm_e_rs1, pm_e_wp0, pm_e_wp1, pm_f2, pm_f3, pm_fld, pm_fv, pm_obj, pm_s_aload_n, pm_s_getfield, pm_s_goto, pm_s_iaload, pm_s_iconst, pm_s_if_icmp_ne, pm_s_iload_n, pm_s_ireturn, pm_s_isub, ct_X4_isNextInHouse, pS, pR, pC, pE, pL, -Int32.not_le, -Int32.not_lt, -Int64.not_le, -Int64.not_lt, ni_1]
      rw [decide_eq_true (show S.2.2 (su r n) + 1 = ra r n by omega)] at hT; exact hT
  · exact hT.elim
end
section
/-- which moves have a name -/
def nmF (C E a b : Int32) : Bool :=
  if b = nI 4 then wi a (nI 0) (C - nI 1)
  else (wi a (nI 0) (C - nI 1) || wi a (nI 4) (nI 4 + E - nI 1)) && ((wi b (nI 0) (C - nI 1) && !decide (b = a)) || decide (b = nI 5))
def tt_X4_isNamed : pm_T := fun args M k => match args with
  | [.ref p, .int a, .int b] => isSt p ∧ k (some (.int (pb (nmF (M.1 1 5) (M.1 p 6) a b)))) M
  | _ => False
abbrev ct_X4_isNamed : List pm_C := [(true, 51, 6, 3, (some .boolean), tt_X6_isWithin)]
set_option maxHeartbeats 4000000 in
theorem sm_X4_isNamed  : pm_Sem SHx yX4_isNamed cX4_isNamed 6 (some .boolean) 2 tt_X4_isNamed := by
  refine pm_Sem_intro bl_X4_isNamed ct_X4_isNamed cs_X4_isNamed rfl (List.forall_mem_cons.mpr ⟨⟨_, _, _, _, sm_X6_isWithin, by decide, cm_X6_isWithin, by decide +kernel⟩, fun _ h => absurd h List.not_mem_nil⟩) ck_X4_isNamed (by decide +kernel) (by decide) ?_
  intro X k hX args M hT
  have hb0 := hX 0 bk_X4_isNamed_0 (List.mem_of_getElem? (i := 0) rfl)
  have hb37 := hX 37 bk_X4_isNamed_37 (List.mem_of_getElem? (i := 1) rfl)
  have hb63 := hX 63 bk_X4_isNamed_63 (List.mem_of_getElem? (i := 2) rfl)
  have hb64 := hX 64 bk_X4_isNamed_64 (List.mem_of_getElem? (i := 3) rfl)
  have hb75 := hX 75 bk_X4_isNamed_75 (List.mem_of_getElem? (i := 4) rfl)
  have hb85 := hX 85 bk_X4_isNamed_85 (List.mem_of_getElem? (i := 5) rfl)
  have hb89 := hX 89 bk_X4_isNamed_89 (List.mem_of_getElem? (i := 6) rfl)
  have hb90 := hX 90 bk_X4_isNamed_90 (List.mem_of_getElem? (i := 7) rfl)
  clear hX
  unfold tt_X4_isNamed at hT; split at hT
  · next p a b =>
    obtain ⟨hp, hT⟩ := hT
    unfold nmF at hT
    refine ⟨by simp [lg_sl, Value.category], ?_⟩
    generalize hA : wi a (nI 0) (M.1 1 5 - nI 1) = A at hT
    generalize hB : wi a (nI 4) (nI 4 + M.1 p 6 - nI 1) = B at hT
    generalize hC : wi b (nI 0) (M.1 1 5 - nI 1) = C at hT
    refine hb0 _ _ _ ?_
    simp [bk_X4_isNamed_0, bk_X4_isNamed_37, bk_X4_isNamed_63, bk_X4_isNamed_64, bk_X4_isNamed_75, bk_X4_isNamed_85, bk_X4_isNamed_89, bk_X4_isNamed_90, pm_call, pm_e_c0, pm_e_c1, pm_e_cti, pm_e_ctl, pm_e_ctr, pm_e_go, pm_e_i, pm_e_ii, pm_e_ldi, pm_e_ldr, pm_e_lk, pm_e_r, pm_e_rm0, pm_e_rm1, pm_e_rs0, pm_e_rs1, pm_e_wp0, pm_e_wp1, pm_f2, pm_f3, pm_fld, pm_fv, pm_obj, pm_recv, pm_s_aload_n, pm_s_getfield, pm_s_goto, pm_s_iadd, pm_s_iconst, pm_s_ifCond_eq, pm_s_ifCond_ne, pm_s_if_icmp_eq, pm_s_if_icmp_ne, pm_s_iload, pm_s_iload_n, pm_s_invokestatic, pm_s_ireturn, pm_s_istore, pm_s_istore_n, pm_s_isub, ct_X4_isNamed, tt_X6_isWithin, pS, pR, pC, pE, pL, -Int32.not_le, -Int32.not_lt, -Int64.not_le, -Int64.not_lt, lv_args, st_0 hp, sx_1, hA, hB, pb_01]
    refine ⟨fun h4 => ?_, fun h4 => ?_⟩
    · refine hb37 _ _ _ ?_
      simp [bk_X4_isNamed_0, bk_X4_isNamed_37, bk_X4_isNamed_63, bk_X4_isNamed_64, bk_X4_isNamed_75, bk_X4_isNamed_85, bk_X4_isNamed_89, bk_X4_isNamed_90, pm_call, pm_e_c0, pm_e_c1, pm_e_cti, pm_e_ctl, pm_e_ctr, pm_e_go, pm_e_i, pm_e_ii, pm_e_ldi, pm_e_ldr, pm_e_lk, pm_e_r, pm_e_rm0, pm_e_rm1, pm_e_rs0, pm_e_rs1, pm_e_wp0, pm_e_wp1, pm_f2, pm_f3, pm_fld, pm_fv, pm_obj, pm_recv, pm_s_aload_n, pm_s_getfield, pm_s_goto, pm_s_iadd, pm_s_iconst, pm_s_ifCond_eq, pm_s_ifCond_ne, pm_s_if_icmp_eq, pm_s_if_icmp_ne, pm_s_iload, pm_s_iload_n, pm_s_invokestatic, pm_s_ireturn, pm_s_istore, pm_s_istore_n, pm_s_isub, ct_X4_isNamed, tt_X6_isWithin, pS, pR, pC, pE, pL, -Int32.not_le, -Int32.not_lt, -Int64.not_le, -Int64.not_lt, lv_args, st_0 hp, sx_1, hC, pb_eq0]
      repeat' first
        | refine ⟨fun _ => ?_, fun _ => ?_⟩
        | (refine hb63 _ _ _ ?_; simp [bk_X4_isNamed_0, bk_X4_isNamed_37, bk_X4_isNamed_63, bk_X4_isNamed_64, bk_X4_isNamed_75, bk_X4_isNamed_85, bk_X4_isNamed_89, bk_X4_isNamed_90, pm_call, pm_e_c0, pm_e_c1, pm_e_cti, pm_e_ctl, pm_e_ctr, pm_e_go, pm_e_i, pm_e_ii, pm_e_ldi, pm_e_ldr, pm_e_lk, pm_e_r, pm_e_rm0, pm_e_rm1, pm_e_rs0, pm_e_rs1, pm_e_wp0, pm_e_wp1, pm_f2, pm_f3, pm_fld, pm_fv, pm_obj, pm_recv, pm_s_aload_n, pm_s_getfield, pm_s_goto, pm_s_iadd, pm_s_iconst, pm_s_ifCond_eq, pm_s_ifCond_ne, pm_s_if_icmp_eq, pm_s_if_icmp_ne, pm_s_iload, pm_s_iload_n, pm_s_invokestatic, pm_s_ireturn, pm_s_istore, pm_s_istore_n, pm_s_isub, ct_X4_isNamed, tt_X6_isWithin, pS, pR, pC, pE, pL, -Int32.not_le, -Int32.not_lt, -Int64.not_le, -Int64.not_lt, pb_eq0, ni_0, ni_1])
        | (refine hb64 _ _ _ ?_; simp [bk_X4_isNamed_0, bk_X4_isNamed_37, bk_X4_isNamed_63, bk_X4_isNamed_64, bk_X4_isNamed_75, bk_X4_isNamed_85, bk_X4_isNamed_89, bk_X4_isNamed_90, pm_call, pm_e_c0, pm_e_c1, pm_e_cti, pm_e_ctl, pm_e_ctr, pm_e_go, pm_e_i, pm_e_ii, pm_e_ldi, pm_e_ldr, pm_e_lk, pm_e_r, pm_e_rm0, pm_e_rm1, pm_e_rs0, pm_e_rs1, pm_e_wp0, pm_e_wp1, pm_f2, pm_f3, pm_fld, pm_fv, pm_obj, pm_recv, pm_s_aload_n, pm_s_getfield, pm_s_goto, pm_s_iadd, pm_s_iconst, pm_s_ifCond_eq, pm_s_ifCond_ne, pm_s_if_icmp_eq, pm_s_if_icmp_ne, pm_s_iload, pm_s_iload_n, pm_s_invokestatic, pm_s_ireturn, pm_s_istore, pm_s_istore_n, pm_s_isub, ct_X4_isNamed, tt_X6_isWithin, pS, pR, pC, pE, pL, -Int32.not_le, -Int32.not_lt, -Int64.not_le, -Int64.not_lt, pb_eq0, ni_0, ni_1])
        | (refine hb75 _ _ _ ?_; simp [bk_X4_isNamed_0, bk_X4_isNamed_37, bk_X4_isNamed_63, bk_X4_isNamed_64, bk_X4_isNamed_75, bk_X4_isNamed_85, bk_X4_isNamed_89, bk_X4_isNamed_90, pm_call, pm_e_c0, pm_e_c1, pm_e_cti, pm_e_ctl, pm_e_ctr, pm_e_go, pm_e_i, pm_e_ii, pm_e_ldi, pm_e_ldr, pm_e_lk, pm_e_r, pm_e_rm0, pm_e_rm1, pm_e_rs0, pm_e_rs1, pm_e_wp0, pm_e_wp1, pm_f2, pm_f3, pm_fld, pm_fv, pm_obj, pm_recv, pm_s_aload_n, pm_s_getfield, pm_s_goto, pm_s_iadd, pm_s_iconst, pm_s_ifCond_eq, pm_s_ifCond_ne, pm_s_if_icmp_eq, pm_s_if_icmp_ne, pm_s_iload, pm_s_iload_n, pm_s_invokestatic, pm_s_ireturn, pm_s_istore, pm_s_istore_n, pm_s_isub, ct_X4_isNamed, tt_X6_isWithin, pS, pR, pC, pE, pL, -Int32.not_le, -Int32.not_lt, -Int64.not_le, -Int64.not_lt, pb_eq0, ni_0, ni_1])
        | (refine hb85 _ _ _ ?_; simp [bk_X4_isNamed_0, bk_X4_isNamed_37, bk_X4_isNamed_63, bk_X4_isNamed_64, bk_X4_isNamed_75, bk_X4_isNamed_85, bk_X4_isNamed_89, bk_X4_isNamed_90, pm_call, pm_e_c0, pm_e_c1, pm_e_cti, pm_e_ctl, pm_e_ctr, pm_e_go, pm_e_i, pm_e_ii, pm_e_ldi, pm_e_ldr, pm_e_lk, pm_e_r, pm_e_rm0, pm_e_rm1, pm_e_rs0, pm_e_rs1, pm_e_wp0, pm_e_wp1, pm_f2, pm_f3, pm_fld, pm_fv, pm_obj, pm_recv, pm_s_aload_n, pm_s_getfield, pm_s_goto, pm_s_iadd, pm_s_iconst, pm_s_ifCond_eq, pm_s_ifCond_ne, pm_s_if_icmp_eq, pm_s_if_icmp_ne, pm_s_iload, pm_s_iload_n, pm_s_invokestatic, pm_s_ireturn, pm_s_istore, pm_s_istore_n, pm_s_isub, ct_X4_isNamed, tt_X6_isWithin, pS, pR, pC, pE, pL, -Int32.not_le, -Int32.not_lt, -Int64.not_le, -Int64.not_lt, pb_eq0, ni_0, ni_1])
        | (refine hb89 _ _ _ ?_; simp [bk_X4_isNamed_0, bk_X4_isNamed_37, bk_X4_isNamed_63, bk_X4_isNamed_64, bk_X4_isNamed_75, bk_X4_isNamed_85, bk_X4_isNamed_89, bk_X4_isNamed_90, pm_call, pm_e_c0, pm_e_c1, pm_e_cti, pm_e_ctl, pm_e_ctr, pm_e_go, pm_e_i, pm_e_ii, pm_e_ldi, pm_e_ldr, pm_e_lk, pm_e_r, pm_e_rm0, pm_e_rm1, pm_e_rs0, pm_e_rs1, pm_e_wp0, pm_e_wp1, pm_f2, pm_f3, pm_fld, pm_fv, pm_obj, pm_recv, pm_s_aload_n, pm_s_getfield, pm_s_goto, pm_s_iadd, pm_s_iconst, pm_s_ifCond_eq, pm_s_ifCond_ne, pm_s_if_icmp_eq, pm_s_if_icmp_ne, pm_s_iload, pm_s_iload_n, pm_s_invokestatic, pm_s_ireturn, pm_s_istore, pm_s_istore_n, pm_s_isub, ct_X4_isNamed, tt_X6_isWithin, pS, pR, pC, pE, pL, -Int32.not_le, -Int32.not_lt, -Int64.not_le, -Int64.not_lt, pb_eq0, ni_0, ni_1])
        | (refine hb90 _ _ _ ?_; simp [bk_X4_isNamed_0, bk_X4_isNamed_37, bk_X4_isNamed_63, bk_X4_isNamed_64, bk_X4_isNamed_75, bk_X4_isNamed_85, bk_X4_isNamed_89, bk_X4_isNamed_90, pm_call, pm_e_c0, pm_e_c1, pm_e_cti, pm_e_ctl, pm_e_ctr, pm_e_go, pm_e_i, pm_e_ii, pm_e_ldi, pm_e_ldr, pm_e_lk, pm_e_r, pm_e_rm0, pm_e_rm1, pm_e_rs0, pm_e_rs1, pm_e_wp0, pm_e_wp1, pm_f2, pm_f3, pm_fld, pm_fv, pm_obj, pm_recv, pm_s_aload_n, pm_s_getfield, pm_s_goto, pm_s_iadd, pm_s_iconst, pm_s_ifCond_eq, pm_s_ifCond_ne, pm_s_if_icmp_eq, pm_s_if_icmp_ne, pm_s_iload, pm_s_iload_n, pm_s_invokestatic, pm_s_ireturn, pm_s_istore, pm_s_istore_n, pm_s_isub, ct_X4_isNamed, tt_X6_isWithin, pS, pR, pC, pE, pL, -Int32.not_le, -Int32.not_lt, -Int64.not_le, -Int64.not_lt, pb_eq0, ni_0, ni_1])
      all_goals simp_all [ni_0, ni_1, pb_t, pb_f, -Int32.not_le, -Int32.not_lt]
    · simp_all
  · exact hT.elim
/-- why a move can't be: 0 it can -/
def whyF (P : Pm) (ec : Nat) (S : St) (a b : Nat) : Nat :=
  if cardF S a = 0 then 1
  else if b = 4 then (if ffc ec S = 2 then 2 else 0)
  else if b = 5 then (if S.2.2 (su (pR P) (cardF S a)) + 1 = ra (pR P) (cardF S a) then 0 else 3)
  else if letF P (cardF S a) (lastC (S.1 b)) = true then 0 else if S.1 b = [] then 5 else 4
/-- all cards of a stand are the deck's -/
def inD (P : Pm) (S : St) : Prop := (∀ i, i < 4 → ∀ d ∈ S.1 i, d ≤ pS P * pR P) ∧ ∀ j, j < 2 → S.2.1 j ≤ pS P * pR P
theorem lastC_in {l : List Nat} {m : Nat} (h : ∀ d ∈ l, d ≤ m) : lastC l ≤ m := by
  induction l using rev_ind with
  | nil => simp [lastC]
  | snoc l d ih => simp [lastC]; exact h d (by simp)
theorem cardF_le {P : Pm} {S : St} (h : inD P S) {a : Nat} (ha : a < 6) : cardF S a ≤ pS P * pR P := by
  unfold cardF; split
  · next q => exact lastC_in (h.1 a q)
  · exact h.2 _ (by omega)
theorem al_let {M : pm_M} {P : Pm} (hD : DkX M P) {n o : Nat} (n1 : 1 ≤ n) (n2 : n ≤ pS P * pR P) (o2 : o ≤ pS P * pR P) : pb (!decide (M.1 4 (nI n &&& nI 15).toNatClampNeg &&& (nI 1 <<< (nI o &&& 31)) = 0)) = pb (letF P n o) := by
  obtain ⟨⟨⟨h1, h2, h3, h4, h5, h6, h7, h8, h9⟩, -, -⟩, hd⟩ := hD
  rw [ni_a15 (by omega), Nat.mod_eq_of_lt (by omega), ni_cl (by omega), ← hd n n1 n2 o o2]; rfl
def tt_X4_whyNot : pm_T := fun args M k => match args with
  | [.ref p, .int x, .int y] => ∃ ec S P a b, isSt p ∧ x = nI a ∧ y = nI b ∧ SdX M p ec S ∧ DkX M P ∧ inD P S ∧ a < 6 ∧ b < 6 ∧ k (some (.int (nI (whyF P ec S a b)))) M
  | _ => False
abbrev ct_X4_whyNot : List pm_C := [(false, 83, 4, 2, (some .int), tt_X4_cardFrom), (false, 86, 4, 1, (some .int), tt_X4_firstFreeCell), (false, 89, 4, 2, (some .boolean), tt_X4_isNextInHouse), (false, 79, 4, 2, (some .int), tt_X4_lastOf), (false, 93, 0, 3, (some .boolean), tt_X0_allows)]
set_option maxHeartbeats 4000000 in
theorem sm_X4_whyNot  : pm_Sem SHx yX4_whyNot cX4_whyNot 4 (some .int) 3 tt_X4_whyNot := by
  refine pm_Sem_intro bl_X4_whyNot ct_X4_whyNot cs_X4_whyNot rfl (List.forall_mem_cons.mpr ⟨⟨_, _, _, _, sm_X4_cardFrom, by decide, cm_X4_cardFrom, by decide +kernel⟩, List.forall_mem_cons.mpr ⟨⟨_, _, _, _, sm_X4_firstFreeCell, by decide, cm_X4_firstFreeCell, by decide +kernel⟩, List.forall_mem_cons.mpr ⟨⟨_, _, _, _, sm_X4_isNextInHouse, by decide, cm_X4_isNextInHouse, by decide +kernel⟩, List.forall_mem_cons.mpr ⟨⟨_, _, _, _, sm_X4_lastOf, by decide, cm_X4_lastOf, by decide +kernel⟩, List.forall_mem_cons.mpr ⟨⟨_, _, _, _, sm_X0_allows, by decide, cm_X0_allows, by decide +kernel⟩, fun _ h => absurd h List.not_mem_nil⟩⟩⟩⟩⟩) ck_X4_whyNot (by decide +kernel) (by decide) ?_
  intro X k hX args M hT
  have hb0 := hX 0 bk_X4_whyNot_0 (List.mem_of_getElem? (i := 0) rfl)
  have hb12 := hX 12 bk_X4_whyNot_12 (List.mem_of_getElem? (i := 1) rfl)
  have hb29 := hX 29 bk_X4_whyNot_29 (List.mem_of_getElem? (i := 2) rfl)
  have hb30 := hX 30 bk_X4_whyNot_30 (List.mem_of_getElem? (i := 3) rfl)
  have hb31 := hX 31 bk_X4_whyNot_31 (List.mem_of_getElem? (i := 4) rfl)
  have hb48 := hX 48 bk_X4_whyNot_48 (List.mem_of_getElem? (i := 5) rfl)
  have hb49 := hX 49 bk_X4_whyNot_49 (List.mem_of_getElem? (i := 6) rfl)
  have hb50 := hX 50 bk_X4_whyNot_50 (List.mem_of_getElem? (i := 7) rfl)
  have hb68 := hX 68 bk_X4_whyNot_68 (List.mem_of_getElem? (i := 8) rfl)
  have hb81 := hX 81 bk_X4_whyNot_81 (List.mem_of_getElem? (i := 9) rfl)
  have hb82 := hX 82 bk_X4_whyNot_82 (List.mem_of_getElem? (i := 10) rfl)
  clear hX
  unfold tt_X4_whyNot at hT; split at hT
  · next p x y =>
    obtain ⟨ec, S, P, a, b, hp, rfl, rfl, hS, hD, hI, ha, hb, hT⟩ := hT
    have hP := hD.1.1
    obtain ⟨h1, h2, h3, h4, h5, h6, h7, h8, h9⟩ := hP
    have hcl := cardF_le hI ha
    refine ⟨by simp [lg_sl, Value.category], ?_⟩
    refine hb0 _ _ _ ?_
    simp [bk_X4_whyNot_0, bk_X4_whyNot_12, bk_X4_whyNot_29, bk_X4_whyNot_30, bk_X4_whyNot_31, bk_X4_whyNot_48, bk_X4_whyNot_49, bk_X4_whyNot_50, bk_X4_whyNot_68, bk_X4_whyNot_81, bk_X4_whyNot_82, pm_arr, pm_call, pm_e_c0, pm_e_c1, pm_e_cti, pm_e_ctl, pm_e_ctr, pm_e_go, pm_e_i, pm_e_ii, pm_e_ldi, pm_e_ldr, pm_e_lk, pm_e_r, pm_e_ri, pm_e_rm0, pm_e_rm1, pm_e_rs0, pm_e_rs1, pm_e_wp0, pm_e_wp1, pm_f2, pm_f3, pm_fld, pm_fv, pm_obj, pm_recv, pm_s_aload_n, pm_s_getfield, pm_s_goto, pm_s_iaload, pm_s_iconst, pm_s_ifCond_eq, pm_s_ifCond_ne, pm_s_if_icmp_ne, pm_s_iload_n, pm_s_invokevirtual, pm_s_ireturn, pm_s_istore_n, ct_X4_whyNot, tt_X0_allows, pS, pR, pC, pE, pL, -Int32.not_le, -Int32.not_lt, -Int64.not_le, -Int64.not_lt, lv_args, st_0 hp]
    refine ⟨ec, S, a, hp, rfl, hS, ha, ?_⟩
    simp [bk_X4_whyNot_0, bk_X4_whyNot_12, bk_X4_whyNot_29, bk_X4_whyNot_30, bk_X4_whyNot_31, bk_X4_whyNot_48, bk_X4_whyNot_49, bk_X4_whyNot_50, bk_X4_whyNot_68, bk_X4_whyNot_81, bk_X4_whyNot_82, pm_arr, pm_call, pm_e_c0, pm_e_c1, pm_e_cti, pm_e_ctl, pm_e_ctr, pm_e_go, pm_e_i, pm_e_ii, pm_e_ldi, pm_e_ldr, pm_e_lk, pm_e_r, pm_e_ri, pm_e_rm0, pm_e_rm1, pm_e_rs0, pm_e_rs1, pm_e_wp0, pm_e_wp1, pm_f2, pm_f3, pm_fld, pm_fv, pm_obj, pm_recv, pm_s_aload_n, pm_s_getfield, pm_s_goto, pm_s_iaload, pm_s_iconst, pm_s_ifCond_eq, pm_s_ifCond_ne, pm_s_if_icmp_ne, pm_s_iload_n, pm_s_invokevirtual, pm_s_ireturn, pm_s_istore_n, ct_X4_whyNot, tt_X0_allows, pS, pR, pC, pE, pL, -Int32.not_le, -Int32.not_lt, -Int64.not_le, -Int64.not_lt]
    simp (disch := omega) only [ni_in, ni_cl, ni_add, ni_mul, ni_sub, ni_lt, ni_le, ni_eq, ni_eq0, ni_lt0, ni_0le, ni_0lt, ni_le0, ni_a1, ni_a3, ni_a7, ni_a15]
    refine ⟨fun hc0 => ?_, fun hc0 => ?_⟩
    · refine hb12 _ _ _ ?_
      simp [bk_X4_whyNot_0, bk_X4_whyNot_12, bk_X4_whyNot_29, bk_X4_whyNot_30, bk_X4_whyNot_31, bk_X4_whyNot_48, bk_X4_whyNot_49, bk_X4_whyNot_50, bk_X4_whyNot_68, bk_X4_whyNot_81, bk_X4_whyNot_82, pm_arr, pm_call, pm_e_c0, pm_e_c1, pm_e_cti, pm_e_ctl, pm_e_ctr, pm_e_go, pm_e_i, pm_e_ii, pm_e_ldi, pm_e_ldr, pm_e_lk, pm_e_r, pm_e_ri, pm_e_rm0, pm_e_rm1, pm_e_rs0, pm_e_rs1, pm_e_wp0, pm_e_wp1, pm_f2, pm_f3, pm_fld, pm_fv, pm_obj, pm_recv, pm_s_aload_n, pm_s_getfield, pm_s_goto, pm_s_iaload, pm_s_iconst, pm_s_ifCond_eq, pm_s_ifCond_ne, pm_s_if_icmp_ne, pm_s_iload_n, pm_s_invokevirtual, pm_s_ireturn, pm_s_istore_n, ct_X4_whyNot, tt_X0_allows, pS, pR, pC, pE, pL, -Int32.not_le, -Int32.not_lt, -Int64.not_le, -Int64.not_lt, st_0 hp]
      simp (disch := omega) only [ni_in, ni_cl, ni_add, ni_mul, ni_sub, ni_lt, ni_le, ni_eq, ni_eq0, ni_lt0, ni_0le, ni_0lt, ni_le0, ni_a1, ni_a3, ni_a7, ni_a15]
      refine ⟨fun hb4 => ?_, fun hb4 => ?_⟩
      · refine hb31 _ _ _ ?_
        simp [bk_X4_whyNot_0, bk_X4_whyNot_12, bk_X4_whyNot_29, bk_X4_whyNot_30, bk_X4_whyNot_31, bk_X4_whyNot_48, bk_X4_whyNot_49, bk_X4_whyNot_50, bk_X4_whyNot_68, bk_X4_whyNot_81, bk_X4_whyNot_82, pm_arr, pm_call, pm_e_c0, pm_e_c1, pm_e_cti, pm_e_ctl, pm_e_ctr, pm_e_go, pm_e_i, pm_e_ii, pm_e_ldi, pm_e_ldr, pm_e_lk, pm_e_r, pm_e_ri, pm_e_rm0, pm_e_rm1, pm_e_rs0, pm_e_rs1, pm_e_wp0, pm_e_wp1, pm_f2, pm_f3, pm_fld, pm_fv, pm_obj, pm_recv, pm_s_aload_n, pm_s_getfield, pm_s_goto, pm_s_iaload, pm_s_iconst, pm_s_ifCond_eq, pm_s_ifCond_ne, pm_s_if_icmp_ne, pm_s_iload_n, pm_s_invokevirtual, pm_s_ireturn, pm_s_istore_n, ct_X4_whyNot, tt_X0_allows, pS, pR, pC, pE, pL, -Int32.not_le, -Int32.not_lt, -Int64.not_le, -Int64.not_lt, st_0 hp]
        simp (disch := omega) only [ni_in, ni_cl, ni_add, ni_mul, ni_sub, ni_lt, ni_le, ni_eq, ni_eq0, ni_lt0, ni_0le, ni_0lt, ni_le0, ni_a1, ni_a3, ni_a7, ni_a15]
        refine ⟨fun hb5 => ?_, fun hb5 => ?_⟩
        · refine hb50 _ _ _ ?_
          simp [bk_X4_whyNot_0, bk_X4_whyNot_12, bk_X4_whyNot_29, bk_X4_whyNot_30, bk_X4_whyNot_31, bk_X4_whyNot_48, bk_X4_whyNot_49, bk_X4_whyNot_50, bk_X4_whyNot_68, bk_X4_whyNot_81, bk_X4_whyNot_82, pm_arr, pm_call, pm_e_c0, pm_e_c1, pm_e_cti, pm_e_ctl, pm_e_ctr, pm_e_go, pm_e_i, pm_e_ii, pm_e_ldi, pm_e_ldr, pm_e_lk, pm_e_r, pm_e_ri, pm_e_rm0, pm_e_rm1, pm_e_rs0, pm_e_rs1, pm_e_wp0, pm_e_wp1, pm_f2, pm_f3, pm_fld, pm_fv, pm_obj, pm_recv, pm_s_aload_n, pm_s_getfield, pm_s_goto, pm_s_iaload, pm_s_iconst, pm_s_ifCond_eq, pm_s_ifCond_ne, pm_s_if_icmp_ne, pm_s_iload_n, pm_s_invokevirtual, pm_s_ireturn, pm_s_istore_n, ct_X4_whyNot, tt_X0_allows, pS, pR, pC, pE, pL, -Int32.not_le, -Int32.not_lt, -Int64.not_le, -Int64.not_lt, st_0 hp]
          refine ⟨ec, S, b, hp, rfl, hS, by omega, ?_⟩
          simp [bk_X4_whyNot_0, bk_X4_whyNot_12, bk_X4_whyNot_29, bk_X4_whyNot_30, bk_X4_whyNot_31, bk_X4_whyNot_48, bk_X4_whyNot_49, bk_X4_whyNot_50, bk_X4_whyNot_68, bk_X4_whyNot_81, bk_X4_whyNot_82, pm_arr, pm_call, pm_e_c0, pm_e_c1, pm_e_cti, pm_e_ctl, pm_e_ctr, pm_e_go, pm_e_i, pm_e_ii, pm_e_ldi, pm_e_ldr, pm_e_lk, pm_e_r, pm_e_ri, pm_e_rm0, pm_e_rm1, pm_e_rs0, pm_e_rs1, pm_e_wp0, pm_e_wp1, pm_f2, pm_f3, pm_fld, pm_fv, pm_obj, pm_recv, pm_s_aload_n, pm_s_getfield, pm_s_goto, pm_s_iaload, pm_s_iconst, pm_s_ifCond_eq, pm_s_ifCond_ne, pm_s_if_icmp_ne, pm_s_iload_n, pm_s_invokevirtual, pm_s_ireturn, pm_s_istore_n, ct_X4_whyNot, tt_X0_allows, pS, pR, pC, pE, pL, -Int32.not_le, -Int32.not_lt, -Int64.not_le, -Int64.not_lt, sx_1]
          rw [al_let hD (by omega) hcl (lastC_in (hI.1 b (by omega))), pb_eq0]
          refine ⟨fun hl => ?_, fun hl => ?_⟩
          · refine hb68 _ _ _ ?_
            simp [bk_X4_whyNot_0, bk_X4_whyNot_12, bk_X4_whyNot_29, bk_X4_whyNot_30, bk_X4_whyNot_31, bk_X4_whyNot_48, bk_X4_whyNot_49, bk_X4_whyNot_50, bk_X4_whyNot_68, bk_X4_whyNot_81, bk_X4_whyNot_82, pm_arr, pm_call, pm_e_c0, pm_e_c1, pm_e_cti, pm_e_ctl, pm_e_ctr, pm_e_go, pm_e_i, pm_e_ii, pm_e_ldi, pm_e_ldr, pm_e_lk, pm_e_r, pm_e_ri, pm_e_rm0, pm_e_rm1, pm_e_rs0, pm_e_rs1, pm_e_wp0, pm_e_wp1, pm_f2, pm_f3, pm_fld, pm_fv, pm_obj, pm_recv, pm_s_aload_n, pm_s_getfield, pm_s_goto, pm_s_iaload, pm_s_iconst, pm_s_ifCond_eq, pm_s_ifCond_ne, pm_s_if_icmp_ne, pm_s_iload_n, pm_s_invokevirtual, pm_s_ireturn, pm_s_istore_n, ct_X4_whyNot, tt_X0_allows, pS, pR, pC, pE, pL, -Int32.not_le, -Int32.not_lt, -Int64.not_le, -Int64.not_lt, st_0 hp, st_2 hp]
            have hlen := hS.len (show b < 4 by omega)
            simp (disch := omega) only [ni_in, ni_cl, ni_add, ni_mul, ni_sub, ni_lt, ni_le, ni_eq, ni_eq0, ni_lt0, ni_0le, ni_0lt, ni_le0, ni_a1, ni_a3, ni_a7, ni_a15, hS.n (show b < 4 by omega)]
            refine ⟨by omega, fun h0 => ?_, fun h0 => ?_⟩
            · refine hb81 _ _ _ ?_
              simp [bk_X4_whyNot_0, bk_X4_whyNot_12, bk_X4_whyNot_29, bk_X4_whyNot_30, bk_X4_whyNot_31, bk_X4_whyNot_48, bk_X4_whyNot_49, bk_X4_whyNot_50, bk_X4_whyNot_68, bk_X4_whyNot_81, bk_X4_whyNot_82, pm_arr, pm_call, pm_e_c0, pm_e_c1, pm_e_cti, pm_e_ctl, pm_e_ctr, pm_e_go, pm_e_i, pm_e_ii, pm_e_ldi, pm_e_ldr, pm_e_lk, pm_e_r, pm_e_ri, pm_e_rm0, pm_e_rm1, pm_e_rs0, pm_e_rs1, pm_e_wp0, pm_e_wp1, pm_f2, pm_f3, pm_fld, pm_fv, pm_obj, pm_recv, pm_s_aload_n, pm_s_getfield, pm_s_goto, pm_s_iaload, pm_s_iconst, pm_s_ifCond_eq, pm_s_ifCond_ne, pm_s_if_icmp_ne, pm_s_iload_n, pm_s_invokevirtual, pm_s_ireturn, pm_s_istore_n, ct_X4_whyNot, tt_X0_allows, pS, pR, pC, pE, pL, -Int32.not_le, -Int32.not_lt, -Int64.not_le, -Int64.not_lt]
              refine hb82 _ _ _ ?_
              simp [bk_X4_whyNot_0, bk_X4_whyNot_12, bk_X4_whyNot_29, bk_X4_whyNot_30, bk_X4_whyNot_31, bk_X4_whyNot_48, bk_X4_whyNot_49, bk_X4_whyNot_50, bk_X4_whyNot_68, bk_X4_whyNot_81, bk_X4_whyNot_82, pm_arr, pm_call, pm_e_c0, pm_e_c1, pm_e_cti, pm_e_ctl, pm_e_ctr, pm_e_go, pm_e_i, pm_e_ii, pm_e_ldi, pm_e_ldr, pm_e_lk, pm_e_r, pm_e_ri, pm_e_rm0, pm_e_rm1, pm_e_rs0, pm_e_rs1, pm_e_wp0, pm_e_wp1, pm_f2, pm_f3, pm_fld, pm_fv, pm_obj, pm_recv, pm_s_aload_n, pm_s_getfield, pm_s_goto, pm_s_iaload, pm_s_iconst, pm_s_ifCond_eq, pm_s_ifCond_ne, pm_s_if_icmp_ne, pm_s_iload_n, pm_s_invokevirtual, pm_s_ireturn, pm_s_istore_n, ct_X4_whyNot, tt_X0_allows, pS, pR, pC, pE, pL, -Int32.not_le, -Int32.not_lt, -Int64.not_le, -Int64.not_lt]
              have : ¬ S.1 b = [] := fun z => h0 (by rw [z]; rfl)
              simpa [whyF, hc0, hb4, hb5, hl, this] using hT
            · refine hb82 _ _ _ ?_
              simp [bk_X4_whyNot_0, bk_X4_whyNot_12, bk_X4_whyNot_29, bk_X4_whyNot_30, bk_X4_whyNot_31, bk_X4_whyNot_48, bk_X4_whyNot_49, bk_X4_whyNot_50, bk_X4_whyNot_68, bk_X4_whyNot_81, bk_X4_whyNot_82, pm_arr, pm_call, pm_e_c0, pm_e_c1, pm_e_cti, pm_e_ctl, pm_e_ctr, pm_e_go, pm_e_i, pm_e_ii, pm_e_ldi, pm_e_ldr, pm_e_lk, pm_e_r, pm_e_ri, pm_e_rm0, pm_e_rm1, pm_e_rs0, pm_e_rs1, pm_e_wp0, pm_e_wp1, pm_f2, pm_f3, pm_fld, pm_fv, pm_obj, pm_recv, pm_s_aload_n, pm_s_getfield, pm_s_goto, pm_s_iaload, pm_s_iconst, pm_s_ifCond_eq, pm_s_ifCond_ne, pm_s_if_icmp_ne, pm_s_iload_n, pm_s_invokevirtual, pm_s_ireturn, pm_s_istore_n, ct_X4_whyNot, tt_X0_allows, pS, pR, pC, pE, pL, -Int32.not_le, -Int32.not_lt, -Int64.not_le, -Int64.not_lt]
              have : S.1 b = [] := List.length_eq_zero_iff.mp h0
              rw [this] at hl
              simpa [whyF, hc0, hb4, hb5, hl, this] using hT
          · have hl' : letF P (cardF S a) (lastC (S.1 b)) = true := by simpa using hl
            simpa [whyF, hc0, hb4, hb5, hl'] using hT
        · refine ⟨ec, S, P, cardF S a, hp, rfl, hS, hD, ⟨by omega, hcl⟩, ?_⟩
          simp [bk_X4_whyNot_0, bk_X4_whyNot_12, bk_X4_whyNot_29, bk_X4_whyNot_30, bk_X4_whyNot_31, bk_X4_whyNot_48, bk_X4_whyNot_49, bk_X4_whyNot_50, bk_X4_whyNot_68, bk_X4_whyNot_81, bk_X4_whyNot_82, pm_arr, pm_call, pm_e_c0, pm_e_c1, pm_e_cti, pm_e_ctl, pm_e_ctr, pm_e_go, pm_e_i, pm_e_ii, pm_e_ldi, pm_e_ldr, pm_e_lk, pm_e_r, pm_e_ri, pm_e_rm0, pm_e_rm1, pm_e_rs0, pm_e_rs1, pm_e_wp0, pm_e_wp1, pm_f2, pm_f3, pm_fld, pm_fv, pm_obj, pm_recv, pm_s_aload_n, pm_s_getfield, pm_s_goto, pm_s_iaload, pm_s_iconst, pm_s_ifCond_eq, pm_s_ifCond_ne, pm_s_if_icmp_ne, pm_s_iload_n, pm_s_invokevirtual, pm_s_ireturn, pm_s_istore_n, ct_X4_whyNot, tt_X0_allows, pS, pR, pC, pE, pL, -Int32.not_le, -Int32.not_lt, -Int64.not_le, -Int64.not_lt, pb_eq0]
          refine ⟨fun hn => ?_, fun hn => ?_⟩
          · refine hb48 _ _ _ ?_
            simp [bk_X4_whyNot_0, bk_X4_whyNot_12, bk_X4_whyNot_29, bk_X4_whyNot_30, bk_X4_whyNot_31, bk_X4_whyNot_48, bk_X4_whyNot_49, bk_X4_whyNot_50, bk_X4_whyNot_68, bk_X4_whyNot_81, bk_X4_whyNot_82, pm_arr, pm_call, pm_e_c0, pm_e_c1, pm_e_cti, pm_e_ctl, pm_e_ctr, pm_e_go, pm_e_i, pm_e_ii, pm_e_ldi, pm_e_ldr, pm_e_lk, pm_e_r, pm_e_ri, pm_e_rm0, pm_e_rm1, pm_e_rs0, pm_e_rs1, pm_e_wp0, pm_e_wp1, pm_f2, pm_f3, pm_fld, pm_fv, pm_obj, pm_recv, pm_s_aload_n, pm_s_getfield, pm_s_goto, pm_s_iaload, pm_s_iconst, pm_s_ifCond_eq, pm_s_ifCond_ne, pm_s_if_icmp_ne, pm_s_iload_n, pm_s_invokevirtual, pm_s_ireturn, pm_s_istore_n, ct_X4_whyNot, tt_X0_allows, pS, pR, pC, pE, pL, -Int32.not_le, -Int32.not_lt, -Int64.not_le, -Int64.not_lt]
            refine hb49 _ _ _ ?_
            simp [bk_X4_whyNot_0, bk_X4_whyNot_12, bk_X4_whyNot_29, bk_X4_whyNot_30, bk_X4_whyNot_31, bk_X4_whyNot_48, bk_X4_whyNot_49, bk_X4_whyNot_50, bk_X4_whyNot_68, bk_X4_whyNot_81, bk_X4_whyNot_82, pm_arr, pm_call, pm_e_c0, pm_e_c1, pm_e_cti, pm_e_ctl, pm_e_ctr, pm_e_go, pm_e_i, pm_e_ii, pm_e_ldi, pm_e_ldr, pm_e_lk, pm_e_r, pm_e_ri, pm_e_rm0, pm_e_rm1, pm_e_rs0, pm_e_rs1, pm_e_wp0, pm_e_wp1, pm_f2, pm_f3, pm_fld, pm_fv, pm_obj, pm_recv, pm_s_aload_n, pm_s_getfield, pm_s_goto, pm_s_iaload, pm_s_iconst, pm_s_ifCond_eq, pm_s_ifCond_ne, pm_s_if_icmp_ne, pm_s_iload_n, pm_s_invokevirtual, pm_s_ireturn, pm_s_istore_n, ct_X4_whyNot, tt_X0_allows, pS, pR, pC, pE, pL, -Int32.not_le, -Int32.not_lt, -Int64.not_le, -Int64.not_lt]
            simpa [whyF, hc0, hb4, hb5, hn] using hT
          · refine hb49 _ _ _ ?_
            simp [bk_X4_whyNot_0, bk_X4_whyNot_12, bk_X4_whyNot_29, bk_X4_whyNot_30, bk_X4_whyNot_31, bk_X4_whyNot_48, bk_X4_whyNot_49, bk_X4_whyNot_50, bk_X4_whyNot_68, bk_X4_whyNot_81, bk_X4_whyNot_82, pm_arr, pm_call, pm_e_c0, pm_e_c1, pm_e_cti, pm_e_ctl, pm_e_ctr, pm_e_go, pm_e_i, pm_e_ii, pm_e_ldi, pm_e_ldr, pm_e_lk, pm_e_r, pm_e_ri, pm_e_rm0, pm_e_rm1, pm_e_rs0, pm_e_rs1, pm_e_wp0, pm_e_wp1, pm_f2, pm_f3, pm_fld, pm_fv, pm_obj, pm_recv, pm_s_aload_n, pm_s_getfield, pm_s_goto, pm_s_iaload, pm_s_iconst, pm_s_ifCond_eq, pm_s_ifCond_ne, pm_s_if_icmp_ne, pm_s_iload_n, pm_s_invokevirtual, pm_s_ireturn, pm_s_istore_n, ct_X4_whyNot, tt_X0_allows, pS, pR, pC, pE, pL, -Int32.not_le, -Int32.not_lt, -Int64.not_le, -Int64.not_lt]
            simpa [whyF, hc0, hb4, hb5, hn] using hT
      · refine ⟨ec, S, hp, hS, ?_⟩
        simp [bk_X4_whyNot_0, bk_X4_whyNot_12, bk_X4_whyNot_29, bk_X4_whyNot_30, bk_X4_whyNot_31, bk_X4_whyNot_48, bk_X4_whyNot_49, bk_X4_whyNot_50, bk_X4_whyNot_68, bk_X4_whyNot_81, bk_X4_whyNot_82, pm_arr, pm_call, pm_e_c0, pm_e_c1, pm_e_cti, pm_e_ctl, pm_e_ctr, pm_e_go, pm_e_i, pm_e_ii, pm_e_ldi, pm_e_ldr, pm_e_lk, pm_e_r, pm_e_ri, pm_e_rm0, pm_e_rm1, pm_e_rs0, pm_e_rs1, pm_e_wp0, pm_e_wp1, pm_f2, pm_f3, pm_fld, pm_fv, pm_obj, pm_recv, pm_s_aload_n, pm_s_getfield, pm_s_goto, pm_s_iaload, pm_s_iconst, pm_s_ifCond_eq, pm_s_ifCond_ne, pm_s_if_icmp_ne, pm_s_iload_n, pm_s_invokevirtual, pm_s_ireturn, pm_s_istore_n, ct_X4_whyNot, tt_X0_allows, pS, pR, pC, pE, pL, -Int32.not_le, -Int32.not_lt, -Int64.not_le, -Int64.not_lt]
        have hff : (ffI (ffc ec S) = -nI 1) ↔ ffc ec S = 2 := by
          have : ffc ec S = 0 ∨ ffc ec S = 1 ∨ ffc ec S = 2 := by unfold ffc; split <;> (try split) <;> simp
          rcases this with e | e | e <;> rw [e] <;> decide
        refine ⟨fun hn => ?_, fun hn => ?_⟩
        · refine hb29 _ _ _ ?_
          simp [bk_X4_whyNot_0, bk_X4_whyNot_12, bk_X4_whyNot_29, bk_X4_whyNot_30, bk_X4_whyNot_31, bk_X4_whyNot_48, bk_X4_whyNot_49, bk_X4_whyNot_50, bk_X4_whyNot_68, bk_X4_whyNot_81, bk_X4_whyNot_82, pm_arr, pm_call, pm_e_c0, pm_e_c1, pm_e_cti, pm_e_ctl, pm_e_ctr, pm_e_go, pm_e_i, pm_e_ii, pm_e_ldi, pm_e_ldr, pm_e_lk, pm_e_r, pm_e_ri, pm_e_rm0, pm_e_rm1, pm_e_rs0, pm_e_rs1, pm_e_wp0, pm_e_wp1, pm_f2, pm_f3, pm_fld, pm_fv, pm_obj, pm_recv, pm_s_aload_n, pm_s_getfield, pm_s_goto, pm_s_iaload, pm_s_iconst, pm_s_ifCond_eq, pm_s_ifCond_ne, pm_s_if_icmp_ne, pm_s_iload_n, pm_s_invokevirtual, pm_s_ireturn, pm_s_istore_n, ct_X4_whyNot, tt_X0_allows, pS, pR, pC, pE, pL, -Int32.not_le, -Int32.not_lt, -Int64.not_le, -Int64.not_lt]
          refine hb30 _ _ _ ?_
          simp [bk_X4_whyNot_0, bk_X4_whyNot_12, bk_X4_whyNot_29, bk_X4_whyNot_30, bk_X4_whyNot_31, bk_X4_whyNot_48, bk_X4_whyNot_49, bk_X4_whyNot_50, bk_X4_whyNot_68, bk_X4_whyNot_81, bk_X4_whyNot_82, pm_arr, pm_call, pm_e_c0, pm_e_c1, pm_e_cti, pm_e_ctl, pm_e_ctr, pm_e_go, pm_e_i, pm_e_ii, pm_e_ldi, pm_e_ldr, pm_e_lk, pm_e_r, pm_e_ri, pm_e_rm0, pm_e_rm1, pm_e_rs0, pm_e_rs1, pm_e_wp0, pm_e_wp1, pm_f2, pm_f3, pm_fld, pm_fv, pm_obj, pm_recv, pm_s_aload_n, pm_s_getfield, pm_s_goto, pm_s_iaload, pm_s_iconst, pm_s_ifCond_eq, pm_s_ifCond_ne, pm_s_if_icmp_ne, pm_s_iload_n, pm_s_invokevirtual, pm_s_ireturn, pm_s_istore_n, ct_X4_whyNot, tt_X0_allows, pS, pR, pC, pE, pL, -Int32.not_le, -Int32.not_lt, -Int64.not_le, -Int64.not_lt]
          rw [hff] at hn
          simpa [whyF, hc0, hb4, hn] using hT
        · refine hb30 _ _ _ ?_
          simp [bk_X4_whyNot_0, bk_X4_whyNot_12, bk_X4_whyNot_29, bk_X4_whyNot_30, bk_X4_whyNot_31, bk_X4_whyNot_48, bk_X4_whyNot_49, bk_X4_whyNot_50, bk_X4_whyNot_68, bk_X4_whyNot_81, bk_X4_whyNot_82, pm_arr, pm_call, pm_e_c0, pm_e_c1, pm_e_cti, pm_e_ctl, pm_e_ctr, pm_e_go, pm_e_i, pm_e_ii, pm_e_ldi, pm_e_ldr, pm_e_lk, pm_e_r, pm_e_ri, pm_e_rm0, pm_e_rm1, pm_e_rs0, pm_e_rs1, pm_e_wp0, pm_e_wp1, pm_f2, pm_f3, pm_fld, pm_fv, pm_obj, pm_recv, pm_s_aload_n, pm_s_getfield, pm_s_goto, pm_s_iaload, pm_s_iconst, pm_s_ifCond_eq, pm_s_ifCond_ne, pm_s_if_icmp_ne, pm_s_iload_n, pm_s_invokevirtual, pm_s_ireturn, pm_s_istore_n, ct_X4_whyNot, tt_X0_allows, pS, pR, pC, pE, pL, -Int32.not_le, -Int32.not_lt, -Int64.not_le, -Int64.not_lt]
          rw [hff] at hn
          simpa [whyF, hc0, hb4, hn] using hT
    · simpa [whyF, hc0] using hT
  · exact hT.elim
end
section
/-! MOVES OF A STAND -/
def aTake (S : St) (a : Nat) : St := if a < 4 then aPop S a else (S.1, up S.2.1 (a - 4) 0, S.2.2)
/-- the card d comes to the place b -/
def aPut (P : Pm) (ec : Nat) (S : St) (b d : Nat) : St :=
  if b = 5 then (S.1, S.2.1, up S.2.2 (su (pR P) d) (S.2.2 (su (pR P) d) + 1))
  else if b = 4 then (S.1, if ffc ec S = 2 then S.2.1 else up S.2.1 (ffc ec S) d, S.2.2)
  else aPush S b d
def aMv (P : Pm) (ec : Nat) (S : St) (a b : Nat) : St := aPut P ec (aTake S a) b (cardF S a)
theorem SdX.setE {M : pm_M} {p ec : Nat} {S : St} (h : SdX M p ec S) {j d : Nat} (hj : j < 2) (hd : d ≤ 12) : SdX (pm_set M (p + 3) j (nI d)) p ec (S.1, up S.2.1 j d, S.2.2) := by
  obtain ⟨a, b, c, dd, e⟩ := h
  refine ⟨⟨a.1, fun i hi => ?_, a.2.2⟩, b, ?_, fun i hi => ?_, fun i hi => ?_⟩
  · by_cases q : i = j
    · subst q; simp only [up_s]; exact hd
    · simp only [up_n _ _ q]; exact a.2.1 i hi
  · simp only [me_1]; simpa using c
  · simp only [me_1, me_2]; simpa using dd i hi
  · by_cases q : i = j
    · subst q; simp [me_1, up_s]
    · simp [me_1, up_n _ _ q, q, e i hi]
theorem SdX.setH {M : pm_M} {p ec : Nat} {S : St} (h : SdX M p ec S) {j d : Nat} (hd : d ≤ 6) : SdX (pm_set M (p + 4) j (nI d)) p ec (S.1, S.2.1, up S.2.2 j d) := by
  obtain ⟨a, b, c, dd, e⟩ := h
  refine ⟨⟨a.1, a.2.1, fun i hi => ?_⟩, b, ?_, fun i hi => ?_, fun i hi => ?_⟩
  · by_cases q : i = j
    · subst q; simp only [up_s]; exact hd
    · simp only [up_n _ _ q]; exact a.2.2 i hi
  · simp only [me_1]; simpa using c
  · have := dd i hi
    by_cases q : i = j
    · subst q; simp [me_1, me_2, up_s, this]
    · simp [me_1, me_2, up_n _ _ q, q, this]
  · simp only [me_1]; simpa using e i hi
def tt_X4_fillFreeCell : pm_T := fun args M k => match args with
  | [.ref p, .int x] => ∃ ec S d, isSt p ∧ x = nI d ∧ SdX M p ec S ∧ d ≤ 12 ∧ ∀ M', SdX M' p ec (S.1, if ffc ec S = 2 then S.2.1 else up S.2.1 (ffc ec S) d, S.2.2) → pm_fr (stF p) M M' → k none M'
  | _ => False
theorem ffc_3 (ec : Nat) (S : St) : ffc ec S = 0 ∨ ffc ec S = 1 ∨ ffc ec S = 2 := by unfold ffc; split <;> (try split) <;> simp
abbrev ct_X4_fillFreeCell : List pm_C := [(false, 86, 4, 1, (some .int), tt_X4_firstFreeCell)]
set_option maxHeartbeats 4000000 in
theorem sm_X4_fillFreeCell  : pm_Sem SHx yX4_fillFreeCell cX4_fillFreeCell 3 none 2 tt_X4_fillFreeCell := by
  refine pm_Sem_intro bl_X4_fillFreeCell ct_X4_fillFreeCell cs_X4_fillFreeCell rfl (List.forall_mem_cons.mpr ⟨⟨_, _, _, _, sm_X4_firstFreeCell, by decide, cm_X4_firstFreeCell, by decide +kernel⟩, fun _ h => absurd h List.not_mem_nil⟩) ck_X4_fillFreeCell (by decide +kernel) (by decide) ?_
  intro X k hX args M hT
  have hb0 := hX 0 bk_X4_fillFreeCell_0 (List.mem_of_getElem? (i := 0) rfl)
  have hb17 := hX 17 bk_X4_fillFreeCell_17 (List.mem_of_getElem? (i := 1) rfl)
  clear hX
  unfold tt_X4_fillFreeCell at hT; split at hT
  · next p x =>
    obtain ⟨ec, S, d, hp, rfl, hS, hd, hT⟩ := hT
    refine ⟨by simp [lg_sl, Value.category], ?_⟩
    refine hb0 _ _ _ ?_
    simp (maxSteps := 2000000) [bk_X4_fillFreeCell_0, bk_X4_fillFreeCell_17, pm_arr, pm_call, pm_e_c0, pm_e_c1, pm_e_cti, pm_e_ctl, pm_e_ctr, pm_e_go, pm_e_i, pm_e_ii, pm_e_ldi, pm_e_ldr, pm_e_lk, pm_e_r, pm_e_rii, pm_e_rm0, pm_e_rm1, pm_e_rs0, pm_e_rs1, pm_e_wp0, pm_e_wp1, pm_f2, pm_f3, pm_fld, pm_fv, pm_obj, pm_recv, pm_s_aload_n, pm_s_getfield, pm_s_iastore, pm_s_iconst, pm_s_if_icmp_eq, pm_s_iload_n, pm_s_invokevirtual, pm_s_istore_n, pm_s_return, ct_X4_fillFreeCell, pS, pR, pC, pE, pL, -Int32.not_le, -Int32.not_lt, -Int64.not_le, -Int64.not_lt, -List.getD_eq_getElem?_getD, lv_args, st_0 hp]
    refine ⟨ec, S, hp, hS, ?_⟩
    simp (maxSteps := 2000000) [bk_X4_fillFreeCell_0, bk_X4_fillFreeCell_17, pm_arr, pm_call, pm_e_c0, pm_e_c1, pm_e_cti, pm_e_ctl, pm_e_ctr, pm_e_go, pm_e_i, pm_e_ii, pm_e_ldi, pm_e_ldr, pm_e_lk, pm_e_r, pm_e_rii, pm_e_rm0, pm_e_rm1, pm_e_rs0, pm_e_rs1, pm_e_wp0, pm_e_wp1, pm_f2, pm_f3, pm_fld, pm_fv, pm_obj, pm_recv, pm_s_aload_n, pm_s_getfield, pm_s_iastore, pm_s_iconst, pm_s_if_icmp_eq, pm_s_iload_n, pm_s_invokevirtual, pm_s_istore_n, pm_s_return, ct_X4_fillFreeCell, pS, pR, pC, pE, pL, -Int32.not_le, -Int32.not_lt, -Int64.not_le, -Int64.not_lt, -List.getD_eq_getElem?_getD, st_0 hp, st_3 hp]
    have h17 : ∀ M', SdX M' p ec (S.1, if ffc ec S = 2 then S.2.1 else up S.2.1 (ffc ec S) d, S.2.2) → pm_fr (stF p) M M' → X 17 [] [] M' := by
      intro M' h1 h2
      refine hb17 _ _ _ ?_
      simp (maxSteps := 2000000) [bk_X4_fillFreeCell_0, bk_X4_fillFreeCell_17, pm_arr, pm_call, pm_e_c0, pm_e_c1, pm_e_cti, pm_e_ctl, pm_e_ctr, pm_e_go, pm_e_i, pm_e_ii, pm_e_ldi, pm_e_ldr, pm_e_lk, pm_e_r, pm_e_rii, pm_e_rm0, pm_e_rm1, pm_e_rs0, pm_e_rs1, pm_e_wp0, pm_e_wp1, pm_f2, pm_f3, pm_fld, pm_fv, pm_obj, pm_recv, pm_s_aload_n, pm_s_getfield, pm_s_iastore, pm_s_iconst, pm_s_if_icmp_eq, pm_s_iload_n, pm_s_invokevirtual, pm_s_istore_n, pm_s_return, ct_X4_fillFreeCell, pS, pR, pC, pE, pL, -Int32.not_le, -Int32.not_lt, -Int64.not_le, -Int64.not_lt, -List.getD_eq_getElem?_getD]
      exact hT M' h1 h2
    rcases ffc_3 ec S with e | e | e <;> rw [e] at h17 ⊢
    · refine ⟨fun h => absurd h (by decide), fun _ => ⟨by simp only [vp_in, ffI]; decide, ?_⟩⟩
      exact h17 _ (hS.setE (by decide) hd) (pm_fr.rfl.set (by simp))
    · refine ⟨fun h => absurd h (by decide), fun _ => ⟨by simp only [vp_in, ffI]; decide, ?_⟩⟩
      exact h17 _ (hS.setE (by decide) hd) (pm_fr.rfl.set (by simp))
    · refine ⟨fun _ => h17 M hS pm_fr.rfl, fun h => absurd rfl h⟩
  · exact hT.elim
def tt_X4_emptyCellOf : pm_T := fun args M k => match args with
  | [.ref p, .int x] => ∃ ec S d, isSt p ∧ x = nI d ∧ SdX M p ec S ∧ d ≤ 12 ∧ ∀ M' T, (∀ j, j < 2 → T j = if S.2.1 j = d then 0 else S.2.1 j) → SdX M' p ec (S.1, T, S.2.2) → pm_fr (stF p) M M' → k none M'
  | _ => False
abbrev ct_X4_emptyCellOf : List pm_C := []
set_option maxHeartbeats 4000000 in
theorem sm_X4_emptyCellOf  : pm_Sem SHx yX4_emptyCellOf cX4_emptyCellOf 3 none 1 tt_X4_emptyCellOf := by
  refine pm_Sem_intro bl_X4_emptyCellOf ct_X4_emptyCellOf cs_X4_emptyCellOf rfl (fun _ h => absurd h List.not_mem_nil) ck_X4_emptyCellOf (by decide +kernel) (by decide) ?_
  intro X k hX args M hT
  have hb0 := hX 0 bk_X4_emptyCellOf_0 (List.mem_of_getElem? (i := 0) rfl)
  have hb2 := hX 2 bk_X4_emptyCellOf_2 (List.mem_of_getElem? (i := 1) rfl)
  have hb24 := hX 24 bk_X4_emptyCellOf_24 (List.mem_of_getElem? (i := 2) rfl)
  have hb30 := hX 30 bk_X4_emptyCellOf_30 (List.mem_of_getElem? (i := 3) rfl)
  clear hX
  unfold tt_X4_emptyCellOf at hT; split at hT
  · next p x =>
    obtain ⟨ec, S, d, hp, rfl, hS, hd, hT⟩ := hT
    refine ⟨by simp [lg_sl, Value.category], ?_⟩
    have e2 : ∀ M' T, (∀ j, j < 2 → T j = if S.2.1 j = d then 0 else S.2.1 j) → SdX M' p ec (S.1, T, S.2.2) → pm_fr (stF p) M M' → X 2 [(0, .ref p), (1, .int (nI d)), (2, .int (nI 2))] [] M' := by
      intro M' T h0 h1 h2
      refine hb2 _ _ _ ?_
      simp (maxSteps := 2000000) [bk_X4_emptyCellOf_0, bk_X4_emptyCellOf_2, bk_X4_emptyCellOf_24, bk_X4_emptyCellOf_30, pm_arr, pm_e_c0, pm_e_c1, pm_e_cti, pm_e_ctl, pm_e_ctr, pm_e_go, pm_e_i, pm_e_ii, pm_e_ldi, pm_e_ldr, pm_e_lk, pm_e_r, pm_e_ri, pm_e_rii, pm_e_rm0, pm_e_rm1, pm_e_rs0, pm_e_rs1, pm_e_wp0, pm_e_wp1, pm_f2, pm_f3, pm_fld, pm_fv, pm_obj, pm_s_aload_n, pm_s_getfield, pm_s_goto, pm_s_iaload, pm_s_iastore, pm_s_iconst, pm_s_if_icmp_ge, pm_s_if_icmp_ne, pm_s_iinc, pm_s_iload_n, pm_s_istore_n, pm_s_return, ct_X4_emptyCellOf, pS, pR, pC, pE, pL, -Int32.not_le, -Int32.not_lt, -Int64.not_le, -Int64.not_lt, -List.getD_eq_getElem?_getD]
      refine hb30 _ _ _ ?_
      simp (maxSteps := 2000000) [bk_X4_emptyCellOf_0, bk_X4_emptyCellOf_2, bk_X4_emptyCellOf_24, bk_X4_emptyCellOf_30, pm_arr, pm_e_c0, pm_e_c1, pm_e_cti, pm_e_ctl, pm_e_ctr, pm_e_go, pm_e_i, pm_e_ii, pm_e_ldi, pm_e_ldr, pm_e_lk, pm_e_r, pm_e_ri, pm_e_rii, pm_e_rm0, pm_e_rm1, pm_e_rs0, pm_e_rs1, pm_e_wp0, pm_e_wp1, pm_f2, pm_f3, pm_fld, pm_fv, pm_obj, pm_s_aload_n, pm_s_getfield, pm_s_goto, pm_s_iaload, pm_s_iastore, pm_s_iconst, pm_s_if_icmp_ge, pm_s_if_icmp_ne, pm_s_iinc, pm_s_iload_n, pm_s_istore_n, pm_s_return, ct_X4_emptyCellOf, pS, pR, pC, pE, pL, -Int32.not_le, -Int32.not_lt, -Int64.not_le, -Int64.not_lt, -List.getD_eq_getElem?_getD]
      exact hT M' T h0 h1 h2
    have e1 : ∀ M' T, (T 0 = if S.2.1 0 = d then 0 else S.2.1 0) → T 1 = S.2.1 1 → SdX M' p ec (S.1, T, S.2.2) → pm_fr (stF p) M M' → X 2 [(0, .ref p), (1, .int (nI d)), (2, .int (nI 1))] [] M' := by
      intro M' T h0 h1 hS' hf
      have b1 : T 1 ≤ 12 := hS'.1.2.1 1 (by decide)
      refine hb2 _ _ _ ?_
      simp (maxSteps := 2000000) [bk_X4_emptyCellOf_0, bk_X4_emptyCellOf_2, bk_X4_emptyCellOf_24, bk_X4_emptyCellOf_30, pm_arr, pm_e_c0, pm_e_c1, pm_e_cti, pm_e_ctl, pm_e_ctr, pm_e_go, pm_e_i, pm_e_ii, pm_e_ldi, pm_e_ldr, pm_e_lk, pm_e_r, pm_e_ri, pm_e_rii, pm_e_rm0, pm_e_rm1, pm_e_rs0, pm_e_rs1, pm_e_wp0, pm_e_wp1, pm_f2, pm_f3, pm_fld, pm_fv, pm_obj, pm_s_aload_n, pm_s_getfield, pm_s_goto, pm_s_iaload, pm_s_iastore, pm_s_iconst, pm_s_if_icmp_ge, pm_s_if_icmp_ne, pm_s_iinc, pm_s_iload_n, pm_s_istore_n, pm_s_return, ct_X4_emptyCellOf, pS, pR, pC, pE, pL, -Int32.not_le, -Int32.not_lt, -Int64.not_le, -Int64.not_lt, -List.getD_eq_getElem?_getD, st_0 hp, st_3 hp]
      simp (disch := omega) only [ni_in, ni_cl, ni_add, ni_mul, ni_sub, ni_lt, ni_le, ni_eq, ni_eq0, ni_lt0, ni_0le, ni_0lt, ni_le0, ni_a1, ni_a3, ni_a7, ni_a15, hS'.e (show 1 < 2 by decide)]
      have h24 : ∀ M' T, (∀ j, j < 2 → T j = if S.2.1 j = d then 0 else S.2.1 j) → SdX M' p ec (S.1, T, S.2.2) → pm_fr (stF p) M M' → X 24 [(0, .ref p), (1, .int (nI d)), (2, .int (nI 1))] [] M' := by
        intro M' T h0 h1 h2
        refine hb24 _ _ _ ?_
        simp (maxSteps := 2000000) [bk_X4_emptyCellOf_0, bk_X4_emptyCellOf_2, bk_X4_emptyCellOf_24, bk_X4_emptyCellOf_30, pm_arr, pm_e_c0, pm_e_c1, pm_e_cti, pm_e_ctl, pm_e_ctr, pm_e_go, pm_e_i, pm_e_ii, pm_e_ldi, pm_e_ldr, pm_e_lk, pm_e_r, pm_e_ri, pm_e_rii, pm_e_rm0, pm_e_rm1, pm_e_rs0, pm_e_rs1, pm_e_wp0, pm_e_wp1, pm_f2, pm_f3, pm_fld, pm_fv, pm_obj, pm_s_aload_n, pm_s_getfield, pm_s_goto, pm_s_iaload, pm_s_iastore, pm_s_iconst, pm_s_if_icmp_ge, pm_s_if_icmp_ne, pm_s_iinc, pm_s_iload_n, pm_s_istore_n, pm_s_return, ct_X4_emptyCellOf, pS, pR, pC, pE, pL, -Int32.not_le, -Int32.not_lt, -Int64.not_le, -Int64.not_lt, -List.getD_eq_getElem?_getD]
        rw [ni_add]
        exact e2 M' T h0 h1 h2
      refine ⟨fun h => by omega, fun _ => ⟨by omega, fun h => ?_, fun h => ?_⟩⟩
      · refine h24 M' T (fun j hj => ?_) hS' hf
        rcases (show j = 0 ∨ j = 1 by omega) with rfl | rfl
        · exact h0
        · rw [h1, if_neg (by rw [← h1]; exact h)]
      · repeat refine ⟨by omega, ?_⟩
        refine h24 _ (up T 1 0) (fun j hj => ?_) (hS'.setE (j := 1) (d := 0) (by decide) (by decide)) (hf.set (by simp))
        rcases (show j = 0 ∨ j = 1 by omega) with rfl | rfl
        · rw [up_n _ _ (by decide)]; exact h0
        · rw [up_s, if_pos (by rw [← h1]; exact h)]
    refine hb0 _ _ _ ?_
    simp (maxSteps := 2000000) [bk_X4_emptyCellOf_0, bk_X4_emptyCellOf_2, bk_X4_emptyCellOf_24, bk_X4_emptyCellOf_30, pm_arr, pm_e_c0, pm_e_c1, pm_e_cti, pm_e_ctl, pm_e_ctr, pm_e_go, pm_e_i, pm_e_ii, pm_e_ldi, pm_e_ldr, pm_e_lk, pm_e_r, pm_e_ri, pm_e_rii, pm_e_rm0, pm_e_rm1, pm_e_rs0, pm_e_rs1, pm_e_wp0, pm_e_wp1, pm_f2, pm_f3, pm_fld, pm_fv, pm_obj, pm_s_aload_n, pm_s_getfield, pm_s_goto, pm_s_iaload, pm_s_iastore, pm_s_iconst, pm_s_if_icmp_ge, pm_s_if_icmp_ne, pm_s_iinc, pm_s_iload_n, pm_s_istore_n, pm_s_return, ct_X4_emptyCellOf, pS, pR, pC, pE, pL, -Int32.not_le, -Int32.not_lt, -Int64.not_le, -Int64.not_lt, -List.getD_eq_getElem?_getD, lv_args]
    refine hb2 _ _ _ ?_
    have b0 := hS.1.2.1 0 (by decide)
    simp (maxSteps := 2000000) [bk_X4_emptyCellOf_0, bk_X4_emptyCellOf_2, bk_X4_emptyCellOf_24, bk_X4_emptyCellOf_30, pm_arr, pm_e_c0, pm_e_c1, pm_e_cti, pm_e_ctl, pm_e_ctr, pm_e_go, pm_e_i, pm_e_ii, pm_e_ldi, pm_e_ldr, pm_e_lk, pm_e_r, pm_e_ri, pm_e_rii, pm_e_rm0, pm_e_rm1, pm_e_rs0, pm_e_rs1, pm_e_wp0, pm_e_wp1, pm_f2, pm_f3, pm_fld, pm_fv, pm_obj, pm_s_aload_n, pm_s_getfield, pm_s_goto, pm_s_iaload, pm_s_iastore, pm_s_iconst, pm_s_if_icmp_ge, pm_s_if_icmp_ne, pm_s_iinc, pm_s_iload_n, pm_s_istore_n, pm_s_return, ct_X4_emptyCellOf, pS, pR, pC, pE, pL, -Int32.not_le, -Int32.not_lt, -Int64.not_le, -Int64.not_lt, -List.getD_eq_getElem?_getD, st_0 hp, st_3 hp]
    simp (disch := omega) only [ni_in, ni_cl, ni_add, ni_mul, ni_sub, ni_lt, ni_le, ni_eq, ni_eq0, ni_lt0, ni_0le, ni_0lt, ni_le0, ni_a1, ni_a3, ni_a7, ni_a15, hS.e (show 0 < 2 by decide)]
    have h24 : ∀ M' T, (T 0 = if S.2.1 0 = d then 0 else S.2.1 0) → T 1 = S.2.1 1 → SdX M' p ec (S.1, T, S.2.2) → pm_fr (stF p) M M' → X 24 [(0, .ref p), (1, .int (nI d)), (2, .int (nI 0))] [] M' := by
      intro M' T h0 h1 h2 h3
      refine hb24 _ _ _ ?_
      simp (maxSteps := 2000000) [bk_X4_emptyCellOf_0, bk_X4_emptyCellOf_2, bk_X4_emptyCellOf_24, bk_X4_emptyCellOf_30, pm_arr, pm_e_c0, pm_e_c1, pm_e_cti, pm_e_ctl, pm_e_ctr, pm_e_go, pm_e_i, pm_e_ii, pm_e_ldi, pm_e_ldr, pm_e_lk, pm_e_r, pm_e_ri, pm_e_rii, pm_e_rm0, pm_e_rm1, pm_e_rs0, pm_e_rs1, pm_e_wp0, pm_e_wp1, pm_f2, pm_f3, pm_fld, pm_fv, pm_obj, pm_s_aload_n, pm_s_getfield, pm_s_goto, pm_s_iaload, pm_s_iastore, pm_s_iconst, pm_s_if_icmp_ge, pm_s_if_icmp_ne, pm_s_iinc, pm_s_iload_n, pm_s_istore_n, pm_s_return, ct_X4_emptyCellOf, pS, pR, pC, pE, pL, -Int32.not_le, -Int32.not_lt, -Int64.not_le, -Int64.not_lt, -List.getD_eq_getElem?_getD]
      rw [ni_add]
      exact e1 M' T h0 h1 h2 h3
    refine ⟨fun h => by omega, fun _ => ⟨by omega, fun h => ?_, fun h => ?_⟩⟩
    · exact h24 M S.2.1 (by rw [if_neg h]) rfl hS pm_fr.rfl
    · repeat refine ⟨by omega, ?_⟩
      exact h24 _ _ (by rw [up_s, if_pos h]) (up_n _ _ (by decide)) (hS.setE (d := 0) (by decide) (by decide)) (pm_fr.rfl.set (by simp))
  · exact hT.elim
theorem aTake_h (S : St) (a : Nat) : (aTake S a).2.2 = S.2.2 := by unfold aTake; split <;> rfl
theorem aTake_c {S : St} {a b : Nat} (h : b ≠ a) : (aTake S a).1 b = S.1 b := by
  unfold aTake; split
  · simp [aPop, up_n _ _ h]
  · rfl
def tt_X4_shift : pm_T := fun args M k => match args with
  | [.ref p, .int x, .int y] => ∃ ec S P a b, isSt p ∧ x = nI a ∧ y = nI b ∧ SdX M p ec S ∧ DkX M P ∧ inD P S ∧ a < 6 ∧ b < 6 ∧ (b < 4 → a ≠ b) ∧ cardF S a ≠ 0 ∧ (b = 5 → S.2.2 (su (pR P) (cardF S a)) < 6) ∧ (b < 4 → (S.1 b).length < 12) ∧ ∀ M', SdX M' p ec (aMv P ec S a b) → pm_fr (stF p) M M' → k (some (.int (nI (cardF S a)))) M'
  | _ => False
theorem DkX.moved {M M' : pm_M} {P : Pm} {ps : List Nat} (h : DkX M P) (hf : pm_fr ps M M') (hp : ∀ q ∈ [1, 2, 3, 4], q ∉ ps) : DkX M' P := by
  obtain ⟨⟨a, b, c⟩, d⟩ := h
  have e1 := fun j => hf.i (hp 1 (by simp)) j
  have e2 := fun j => hf.i (hp 2 (by simp)) j
  have e3 := fun j => hf.i (hp 3 (by simp)) j
  have e4 := fun j => hf.i (hp 4 (by simp)) j
  refine ⟨⟨a, ?_, fun n h1 h2 => ?_⟩, fun n h1 h2 o h3 => ?_⟩
  · simp only [e1]; exact b
  · simp only [e2, e3]; exact c n h1 h2
  · simp only [e4]; exact d n h1 h2 o h3
theorem st_dk {p : Nat} (h : isSt p) : ∀ q ∈ [1, 2, 3, 4], q ∉ stF p := by
  rcases h with rfl | rfl <;> decide
abbrev ct_X4_shift : List pm_C := [(false, 83, 4, 2, (some .int), tt_X4_cardFrom), (false, 102, 4, 2, none, tt_X4_pop), (false, 106, 4, 2, none, tt_X4_fillFreeCell), (false, 109, 4, 3, none, tt_X4_push)]
set_option maxHeartbeats 4000000 in
theorem sm_X4_shift  : pm_Sem SHx yX4_shift cX4_shift 4 (some .int) 3 tt_X4_shift := by
  refine pm_Sem_intro bl_X4_shift ct_X4_shift cs_X4_shift rfl (List.forall_mem_cons.mpr ⟨⟨_, _, _, _, sm_X4_cardFrom, by decide, cm_X4_cardFrom, by decide +kernel⟩, List.forall_mem_cons.mpr ⟨⟨_, _, _, _, sm_X4_pop, by decide, cm_X4_pop, by decide +kernel⟩, List.forall_mem_cons.mpr ⟨⟨_, _, _, _, sm_X4_fillFreeCell, by decide, cm_X4_fillFreeCell, by decide +kernel⟩, List.forall_mem_cons.mpr ⟨⟨_, _, _, _, sm_X4_push, by decide, cm_X4_push, by decide +kernel⟩, fun _ h => absurd h List.not_mem_nil⟩⟩⟩⟩) ck_X4_shift (by decide +kernel) (by decide) ?_
  intro X k hX args M hT
  have hb0 := hX 0 bk_X4_shift_0 (List.mem_of_getElem? (i := 0) rfl)
  have hb19 := hX 19 bk_X4_shift_19 (List.mem_of_getElem? (i := 1) rfl)
  have hb28 := hX 28 bk_X4_shift_28 (List.mem_of_getElem? (i := 2) rfl)
  have hb54 := hX 54 bk_X4_shift_54 (List.mem_of_getElem? (i := 3) rfl)
  have hb67 := hX 67 bk_X4_shift_67 (List.mem_of_getElem? (i := 4) rfl)
  have hb73 := hX 73 bk_X4_shift_73 (List.mem_of_getElem? (i := 5) rfl)
  clear hX
  unfold tt_X4_shift at hT; split at hT
  · next p x y =>
    obtain ⟨ec, S, P, a, b, hp, rfl, rfl, hS, hD, hI, ha, hb, hab, hc0, hh, hl, hT⟩ := hT
    have hP := hD.1.1
    obtain ⟨h1, h2, h3, h4, h5, h6, h7, h8, h9⟩ := hP
    have hcl := cardF_le hI ha
    generalize hcd : cardF S a = d at *
    have un := su_lt h3 (show 1 ≤ d by omega) hcl
    have b12 : d ≤ 12 := by omega
    refine ⟨by simp [lg_sl, Value.category], ?_⟩
    have h73 : ∀ M', SdX M' p ec (aMv P ec S a b) → pm_fr (stF p) M M' → X 73 [(3, .int (nI d))] [] M' := by
      intro M' q1 q2
      refine hb73 _ _ _ ?_
      simp (maxSteps := 2000000) [bk_X4_shift_0, bk_X4_shift_19, bk_X4_shift_28, bk_X4_shift_54, bk_X4_shift_67, bk_X4_shift_73, pm_arr, pm_call, pm_e_c0, pm_e_c1, pm_e_cti, pm_e_ctl, pm_e_ctr, pm_e_go, pm_e_i, pm_e_ii, pm_e_ldi, pm_e_ldr, pm_e_lk, pm_e_r, pm_e_ri, pm_e_rii, pm_e_rm0, pm_e_rm1, pm_e_rs0, pm_e_rs1, pm_e_v2, pm_e_wp0, pm_e_wp1, pm_f2, pm_f3, pm_fld, pm_fv, pm_obj, pm_recv, pm_s_aload_n, pm_s_dup2, pm_s_getfield, pm_s_goto, pm_s_iadd, pm_s_iaload, pm_s_iastore, pm_s_iconst, pm_s_if_icmp_ge, pm_s_if_icmp_ne, pm_s_iload_n, pm_s_invokevirtual, pm_s_ireturn, pm_s_istore_n, pm_s_isub, ct_X4_shift, pS, pR, pC, pE, pL, -Int32.not_le, -Int32.not_lt, -Int64.not_le, -Int64.not_lt, -List.getD_eq_getElem?_getD]
      exact hT M' q1 q2
    have h28 : ∀ M', SdX M' p ec (aTake S a) → pm_fr (stF p) M M' → X 28 [(0, .ref p), (2, .int (nI b)), (3, .int (nI d))] [] M' := by
      intro M' q1 q2
      have hD' := hD.moved q2 (st_dk hp)
      have mn := hD'.1.2.2 d (by omega) hcl
      refine hb28 _ _ _ ?_
      simp (maxSteps := 2000000) [bk_X4_shift_0, bk_X4_shift_19, bk_X4_shift_28, bk_X4_shift_54, bk_X4_shift_67, bk_X4_shift_73, pm_arr, pm_call, pm_e_c0, pm_e_c1, pm_e_cti, pm_e_ctl, pm_e_ctr, pm_e_go, pm_e_i, pm_e_ii, pm_e_ldi, pm_e_ldr, pm_e_lk, pm_e_r, pm_e_ri, pm_e_rii, pm_e_rm0, pm_e_rm1, pm_e_rs0, pm_e_rs1, pm_e_v2, pm_e_wp0, pm_e_wp1, pm_f2, pm_f3, pm_fld, pm_fv, pm_obj, pm_recv, pm_s_aload_n, pm_s_dup2, pm_s_getfield, pm_s_goto, pm_s_iadd, pm_s_iaload, pm_s_iastore, pm_s_iconst, pm_s_if_icmp_ge, pm_s_if_icmp_ne, pm_s_iload_n, pm_s_invokevirtual, pm_s_ireturn, pm_s_istore_n, pm_s_isub, ct_X4_shift, pS, pR, pC, pE, pL, -Int32.not_le, -Int32.not_lt, -Int64.not_le, -Int64.not_lt, -List.getD_eq_getElem?_getD, st_0 hp, st_4 hp, sx_1, sx_2]
      have hhs : (aTake S a).2.2 (su P.2.1 d) ≤ 6 := q1.1.2.2 _ (by dsimp only [pS, pR] at *; omega)
      simp (disch := omega) only [ni_in, ni_cl, ni_add, ni_mul, ni_sub, ni_lt, ni_le, ni_eq, ni_eq0, ni_lt0, ni_0le, ni_0lt, ni_le0, ni_a1, ni_a3, ni_a7, ni_a15, mn.1, q1.h (show su (pR P) d < 4 by omega)]
      refine ⟨fun hb5 => ?_, fun hb5 => ?_⟩
      · refine hb54 _ _ _ ?_
        simp (maxSteps := 2000000) [bk_X4_shift_0, bk_X4_shift_19, bk_X4_shift_28, bk_X4_shift_54, bk_X4_shift_67, bk_X4_shift_73, pm_arr, pm_call, pm_e_c0, pm_e_c1, pm_e_cti, pm_e_ctl, pm_e_ctr, pm_e_go, pm_e_i, pm_e_ii, pm_e_ldi, pm_e_ldr, pm_e_lk, pm_e_r, pm_e_ri, pm_e_rii, pm_e_rm0, pm_e_rm1, pm_e_rs0, pm_e_rs1, pm_e_v2, pm_e_wp0, pm_e_wp1, pm_f2, pm_f3, pm_fld, pm_fv, pm_obj, pm_recv, pm_s_aload_n, pm_s_dup2, pm_s_getfield, pm_s_goto, pm_s_iadd, pm_s_iaload, pm_s_iastore, pm_s_iconst, pm_s_if_icmp_ge, pm_s_if_icmp_ne, pm_s_iload_n, pm_s_invokevirtual, pm_s_ireturn, pm_s_istore_n, pm_s_isub, ct_X4_shift, pS, pR, pC, pE, pL, -Int32.not_le, -Int32.not_lt, -Int64.not_le, -Int64.not_lt, -List.getD_eq_getElem?_getD, st_0 hp]
        simp (disch := omega) only [ni_in, ni_cl, ni_add, ni_mul, ni_sub, ni_lt, ni_le, ni_eq, ni_eq0, ni_lt0, ni_0le, ni_0lt, ni_le0, ni_a1, ni_a3, ni_a7, ni_a15]
        refine ⟨fun hb4 => ?_, fun hb4 => ?_⟩
        · refine hb67 _ _ _ ?_
          simp (maxSteps := 2000000) [bk_X4_shift_0, bk_X4_shift_19, bk_X4_shift_28, bk_X4_shift_54, bk_X4_shift_67, bk_X4_shift_73, pm_arr, pm_call, pm_e_c0, pm_e_c1, pm_e_cti, pm_e_ctl, pm_e_ctr, pm_e_go, pm_e_i, pm_e_ii, pm_e_ldi, pm_e_ldr, pm_e_lk, pm_e_r, pm_e_ri, pm_e_rii, pm_e_rm0, pm_e_rm1, pm_e_rs0, pm_e_rs1, pm_e_v2, pm_e_wp0, pm_e_wp1, pm_f2, pm_f3, pm_fld, pm_fv, pm_obj, pm_recv, pm_s_aload_n, pm_s_dup2, pm_s_getfield, pm_s_goto, pm_s_iadd, pm_s_iaload, pm_s_iastore, pm_s_iconst, pm_s_if_icmp_ge, pm_s_if_icmp_ne, pm_s_iload_n, pm_s_invokevirtual, pm_s_ireturn, pm_s_istore_n, pm_s_isub, ct_X4_shift, pS, pR, pC, pE, pL, -Int32.not_le, -Int32.not_lt, -Int64.not_le, -Int64.not_lt, -List.getD_eq_getElem?_getD, st_0 hp]
          refine ⟨ec, aTake S a, b, d, hp, rfl, rfl, q1, by omega, ⟨by omega, b12⟩, by rw [aTake_c (fun e => hab (by omega) e.symm)]; exact hl (by omega), fun M'' r1 r2 => ?_⟩
          simp (maxSteps := 2000000) [bk_X4_shift_0, bk_X4_shift_19, bk_X4_shift_28, bk_X4_shift_54, bk_X4_shift_67, bk_X4_shift_73, pm_arr, pm_call, pm_e_c0, pm_e_c1, pm_e_cti, pm_e_ctl, pm_e_ctr, pm_e_go, pm_e_i, pm_e_ii, pm_e_ldi, pm_e_ldr, pm_e_lk, pm_e_r, pm_e_ri, pm_e_rii, pm_e_rm0, pm_e_rm1, pm_e_rs0, pm_e_rs1, pm_e_v2, pm_e_wp0, pm_e_wp1, pm_f2, pm_f3, pm_fld, pm_fv, pm_obj, pm_recv, pm_s_aload_n, pm_s_dup2, pm_s_getfield, pm_s_goto, pm_s_iadd, pm_s_iaload, pm_s_iastore, pm_s_iconst, pm_s_if_icmp_ge, pm_s_if_icmp_ne, pm_s_iload_n, pm_s_invokevirtual, pm_s_ireturn, pm_s_istore_n, pm_s_isub, ct_X4_shift, pS, pR, pC, pE, pL, -Int32.not_le, -Int32.not_lt, -Int64.not_le, -Int64.not_lt, -List.getD_eq_getElem?_getD]
          refine h73 M'' ?_ (q2.trans r2)
          simpa [aMv, aPut, hb5, hb4, hcd] using r1
        · refine ⟨ec, aTake S a, d, hp, rfl, q1, b12, fun M'' r1 r2 => ?_⟩
          simp (maxSteps := 2000000) [bk_X4_shift_0, bk_X4_shift_19, bk_X4_shift_28, bk_X4_shift_54, bk_X4_shift_67, bk_X4_shift_73, pm_arr, pm_call, pm_e_c0, pm_e_c1, pm_e_cti, pm_e_ctl, pm_e_ctr, pm_e_go, pm_e_i, pm_e_ii, pm_e_ldi, pm_e_ldr, pm_e_lk, pm_e_r, pm_e_ri, pm_e_rii, pm_e_rm0, pm_e_rm1, pm_e_rs0, pm_e_rs1, pm_e_v2, pm_e_wp0, pm_e_wp1, pm_f2, pm_f3, pm_fld, pm_fv, pm_obj, pm_recv, pm_s_aload_n, pm_s_dup2, pm_s_getfield, pm_s_goto, pm_s_iadd, pm_s_iaload, pm_s_iastore, pm_s_iconst, pm_s_if_icmp_ge, pm_s_if_icmp_ne, pm_s_iload_n, pm_s_invokevirtual, pm_s_ireturn, pm_s_istore_n, pm_s_isub, ct_X4_shift, pS, pR, pC, pE, pL, -Int32.not_le, -Int32.not_lt, -Int64.not_le, -Int64.not_lt, -List.getD_eq_getElem?_getD]
          refine h73 M'' ?_ (q2.trans r2)
          simpa [aMv, aPut, hb5, hb4, hcd] using r1
      · repeat refine ⟨by omega, ?_⟩
        refine h73 _ ?_ (q2.set (by simp))
        have := q1.setH (j := su (pR P) d) (d := (aTake S a).2.2 (su (pR P) d) + 1) (by rw [aTake_h]; have := hh hb5; omega)
        simpa [aMv, aPut, hb5, hcd] using this
    refine hb0 _ _ _ ?_
    simp (maxSteps := 2000000) [bk_X4_shift_0, bk_X4_shift_19, bk_X4_shift_28, bk_X4_shift_54, bk_X4_shift_67, bk_X4_shift_73, pm_arr, pm_call, pm_e_c0, pm_e_c1, pm_e_cti, pm_e_ctl, pm_e_ctr, pm_e_go, pm_e_i, pm_e_ii, pm_e_ldi, pm_e_ldr, pm_e_lk, pm_e_r, pm_e_ri, pm_e_rii, pm_e_rm0, pm_e_rm1, pm_e_rs0, pm_e_rs1, pm_e_v2, pm_e_wp0, pm_e_wp1, pm_f2, pm_f3, pm_fld, pm_fv, pm_obj, pm_recv, pm_s_aload_n, pm_s_dup2, pm_s_getfield, pm_s_goto, pm_s_iadd, pm_s_iaload, pm_s_iastore, pm_s_iconst, pm_s_if_icmp_ge, pm_s_if_icmp_ne, pm_s_iload_n, pm_s_invokevirtual, pm_s_ireturn, pm_s_istore_n, pm_s_isub, ct_X4_shift, pS, pR, pC, pE, pL, -Int32.not_le, -Int32.not_lt, -Int64.not_le, -Int64.not_lt, -List.getD_eq_getElem?_getD, lv_args, st_0 hp]
    refine ⟨ec, S, a, hp, rfl, hS, ha, ?_⟩
    simp (maxSteps := 2000000) [bk_X4_shift_0, bk_X4_shift_19, bk_X4_shift_28, bk_X4_shift_54, bk_X4_shift_67, bk_X4_shift_73, pm_arr, pm_call, pm_e_c0, pm_e_c1, pm_e_cti, pm_e_ctl, pm_e_ctr, pm_e_go, pm_e_i, pm_e_ii, pm_e_ldi, pm_e_ldr, pm_e_lk, pm_e_r, pm_e_ri, pm_e_rii, pm_e_rm0, pm_e_rm1, pm_e_rs0, pm_e_rs1, pm_e_v2, pm_e_wp0, pm_e_wp1, pm_f2, pm_f3, pm_fld, pm_fv, pm_obj, pm_recv, pm_s_aload_n, pm_s_dup2, pm_s_getfield, pm_s_goto, pm_s_iadd, pm_s_iaload, pm_s_iastore, pm_s_iconst, pm_s_if_icmp_ge, pm_s_if_icmp_ne, pm_s_iload_n, pm_s_invokevirtual, pm_s_ireturn, pm_s_istore_n, pm_s_isub, ct_X4_shift, pS, pR, pC, pE, pL, -Int32.not_le, -Int32.not_lt, -Int64.not_le, -Int64.not_lt, -List.getD_eq_getElem?_getD, st_0 hp]
    simp (disch := omega) only [ni_in, ni_cl, ni_add, ni_mul, ni_sub, ni_lt, ni_le, ni_eq, ni_eq0, ni_lt0, ni_0le, ni_0lt, ni_le0, ni_a1, ni_a3, ni_a7, ni_a15, hcd]
    refine ⟨fun h => ?_, fun h => ⟨ec, S, a, hp, rfl, hS, by omega, ?_, fun M' r1 r2 => ?_⟩⟩
    · refine hb19 _ _ _ ?_
      simp (maxSteps := 2000000) [bk_X4_shift_0, bk_X4_shift_19, bk_X4_shift_28, bk_X4_shift_54, bk_X4_shift_67, bk_X4_shift_73, pm_arr, pm_call, pm_e_c0, pm_e_c1, pm_e_cti, pm_e_ctl, pm_e_ctr, pm_e_go, pm_e_i, pm_e_ii, pm_e_ldi, pm_e_ldr, pm_e_lk, pm_e_r, pm_e_ri, pm_e_rii, pm_e_rm0, pm_e_rm1, pm_e_rs0, pm_e_rs1, pm_e_v2, pm_e_wp0, pm_e_wp1, pm_f2, pm_f3, pm_fld, pm_fv, pm_obj, pm_recv, pm_s_aload_n, pm_s_dup2, pm_s_getfield, pm_s_goto, pm_s_iadd, pm_s_iaload, pm_s_iastore, pm_s_iconst, pm_s_if_icmp_ge, pm_s_if_icmp_ne, pm_s_iload_n, pm_s_invokevirtual, pm_s_ireturn, pm_s_istore_n, pm_s_isub, ct_X4_shift, pS, pR, pC, pE, pL, -Int32.not_le, -Int32.not_lt, -Int64.not_le, -Int64.not_lt, -List.getD_eq_getElem?_getD, st_0 hp, st_3 hp]
      simp (disch := omega) only [ni_in, ni_cl, ni_add, ni_mul, ni_sub, ni_lt, ni_le, ni_eq, ni_eq0, ni_lt0, ni_0le, ni_0lt, ni_le0, ni_a1, ni_a3, ni_a7, ni_a15]
      refine ⟨by omega, h28 _ ?_ (pm_fr.rfl.set (by simp))⟩
      have := hS.setE (j := a - 4) (d := 0) (by omega) (by decide)
      simpa [aTake, show ¬ a < 4 by omega] using this
    · intro e; apply hc0; rw [← hcd]; simp [cardF, show a < 4 by omega, e, lastC]
    · simp (maxSteps := 2000000) [bk_X4_shift_0, bk_X4_shift_19, bk_X4_shift_28, bk_X4_shift_54, bk_X4_shift_67, bk_X4_shift_73, pm_arr, pm_call, pm_e_c0, pm_e_c1, pm_e_cti, pm_e_ctl, pm_e_ctr, pm_e_go, pm_e_i, pm_e_ii, pm_e_ldi, pm_e_ldr, pm_e_lk, pm_e_r, pm_e_ri, pm_e_rii, pm_e_rm0, pm_e_rm1, pm_e_rs0, pm_e_rs1, pm_e_v2, pm_e_wp0, pm_e_wp1, pm_f2, pm_f3, pm_fld, pm_fv, pm_obj, pm_recv, pm_s_aload_n, pm_s_dup2, pm_s_getfield, pm_s_goto, pm_s_iadd, pm_s_iaload, pm_s_iastore, pm_s_iconst, pm_s_if_icmp_ge, pm_s_if_icmp_ne, pm_s_iload_n, pm_s_invokevirtual, pm_s_ireturn, pm_s_istore_n, pm_s_isub, ct_X4_shift, pS, pR, pC, pE, pL, -Int32.not_le, -Int32.not_lt, -Int64.not_le, -Int64.not_lt, -List.getD_eq_getElem?_getD]
      exact h28 M' (by simpa [aTake, show a < 4 by omega] using r1) r2
  · exact hT.elim
end
section
theorem up_up {α : Type} (f : Nat → α) (i : Nat) (v w : α) : up (up f i v) i w = up f i w := by funext j; by_cases h : j = i <;> simp [up, h]
theorem up_id {α : Type} (f : Nat → α) (i : Nat) : up f i (f i) = f := by funext j; by_cases h : j = i <;> simp [up, h]
theorem up_id2 {α : Type} (f : Nat → α) (i : Nat) {v : α} (h : v = f i) : up f i v = f := by rw [h, up_id]
theorem SdX.congr {M : pm_M} {p ec : Nat} {S S' : St} (h : SdX M p ec S) (h1 : ∀ i, i < 4 → S'.1 i = S.1 i) (h2 : ∀ j, j < 2 → S'.2.1 j = S.2.1 j) (h3 : ∀ i, i < 4 → S'.2.2 i = S.2.2 i) : SdX M p ec S' := by
  obtain ⟨a, b, c, dd, e⟩ := h
  refine ⟨⟨fun i hi => ?_, fun j hj => ?_, fun i hi => ?_⟩, b, c, fun i hi => ?_, fun j hj => ?_⟩
  · rw [h1 i hi]; exact a.1 i hi
  · rw [h2 j hj]; exact a.2.1 j hj
  · rw [h3 i hi]; exact a.2.2 i hi
  · rw [h1 i hi, h3 i hi]; exact dd i hi
  · rw [h2 j hj]; exact e j hj
theorem lastC_dl {l : List Nat} (h : l ≠ []) : l.dropLast ++ [lastC l] = l := by
  induction l using rev_ind with
  | nil => exact absurd rfl h
  | snoc l d ih => simp [lastC]
/-- what a move must be like to be taken back -/
def mvOk (P : Pm) (ec : Nat) (S : St) (a b : Nat) : Prop := a < 6 ∧ b < 6 ∧ (b < 4 → a ≠ b) ∧ cardF S a ≠ 0 ∧ (b = 5 → S.2.2 (su (pR P) (cardF S a)) < 6) ∧ (b < 4 → (S.1 b).length < 12) ∧ (b = 4 → a < 4 ∧ ffc ec S ≠ 2 ∧ ∀ j, j < 2 → S.2.1 j ≠ cardF S a)
theorem ffc_free {ec : Nat} {S : St} (h : ffc ec S ≠ 2) : ffc ec S < 2 ∧ S.2.1 (ffc ec S) = 0 := by
  unfold ffc at *
  split at h
  · next q => rw [if_pos q]; exact ⟨by decide, q.2⟩
  · next q =>
    rw [if_neg q]
    split at h
    · next q2 => rw [if_pos q2]; exact ⟨by decide, q2.2⟩
    · exact absurd rfl h
def tt_X4_shiftBack : pm_T := fun args M k => match args with
  | [.ref p, .int z, .int x, .int y] => ∃ ec S P a b, isSt p ∧ z = nI (cardF S a) ∧ x = nI a ∧ y = nI b ∧ SdX M p ec (aMv P ec S a b) ∧ DkX M P ∧ okS S ∧ inD P S ∧ mvOk P ec S a b ∧ ∀ M', SdX M' p ec S → pm_fr (stF p) M M' → k none M'
  | _ => False
abbrev ct_X4_shiftBack : List pm_C := [(false, 113, 4, 2, none, tt_X4_emptyCellOf), (false, 102, 4, 2, none, tt_X4_pop), (false, 109, 4, 3, none, tt_X4_push)]
set_option maxHeartbeats 4000000 in
theorem sm_X4_shiftBack  : pm_Sem SHx yX4_shiftBack cX4_shiftBack 4 none 2 tt_X4_shiftBack := by
  refine pm_Sem_intro bl_X4_shiftBack ct_X4_shiftBack cs_X4_shiftBack rfl (List.forall_mem_cons.mpr ⟨⟨_, _, _, _, sm_X4_emptyCellOf, by decide, cm_X4_emptyCellOf, by decide +kernel⟩, List.forall_mem_cons.mpr ⟨⟨_, _, _, _, sm_X4_pop, by decide, cm_X4_pop, by decide +kernel⟩, List.forall_mem_cons.mpr ⟨⟨_, _, _, _, sm_X4_push, by decide, cm_X4_push, by decide +kernel⟩, fun _ h => absurd h List.not_mem_nil⟩⟩⟩) ck_X4_shiftBack (by decide +kernel) (by decide) ?_
  intro X k hX args M hT
  have hb0 := hX 0 bk_X4_shiftBack_0 (List.mem_of_getElem? (i := 0) rfl)
  have hb26 := hX 26 bk_X4_shiftBack_26 (List.mem_of_getElem? (i := 1) rfl)
  have hb39 := hX 39 bk_X4_shiftBack_39 (List.mem_of_getElem? (i := 2) rfl)
  have hb44 := hX 44 bk_X4_shiftBack_44 (List.mem_of_getElem? (i := 3) rfl)
  have hb58 := hX 58 bk_X4_shiftBack_58 (List.mem_of_getElem? (i := 4) rfl)
  have hb67 := hX 67 bk_X4_shiftBack_67 (List.mem_of_getElem? (i := 5) rfl)
  clear hX
  unfold tt_X4_shiftBack at hT; split at hT
  · next p z x y =>
    obtain ⟨ec, S, P, a, b, hp, rfl, rfl, rfl, hS, hD, hO, hI, ⟨ha, hb, hab, hc0, hh, hl, h44⟩, hT⟩ := hT
    have hP := hD.1.1
    obtain ⟨h1, h2, h3, h4, h5, h6, h7, h8, h9⟩ := hP
    have hcl := cardF_le hI ha
    have mn := hD.1.2.2 (cardF S a) (by omega) hcl
    generalize hcd : cardF S a = d at *
    have un := su_lt h3 (show 1 ≤ d by omega) hcl
    have b12 : d ≤ 12 := by omega
    refine ⟨by simp [lg_sl, Value.category], ?_⟩
    have h67 : ∀ M', SdX M' p ec S → pm_fr (stF p) M M' → X 67 [] [] M' := by
      intro M' q1 q2
      refine hb67 _ _ _ ?_
      simp (maxSteps := 2000000) [bk_X4_shiftBack_0, bk_X4_shiftBack_26, bk_X4_shiftBack_39, bk_X4_shiftBack_44, bk_X4_shiftBack_58, bk_X4_shiftBack_67, pm_arr, pm_call, pm_e_c0, pm_e_c1, pm_e_cti, pm_e_ctl, pm_e_ctr, pm_e_go, pm_e_ii, pm_e_ldi, pm_e_ldr, pm_e_lk, pm_e_r, pm_e_ri, pm_e_rii, pm_e_rm0, pm_e_rm1, pm_e_rs0, pm_e_rs1, pm_e_v2, pm_e_wp0, pm_e_wp1, pm_f2, pm_f3, pm_fld, pm_fv, pm_obj, pm_recv, pm_s_aload_n, pm_s_dup2, pm_s_getfield, pm_s_goto, pm_s_iaload, pm_s_iastore, pm_s_iconst, pm_s_if_icmp_ge, pm_s_if_icmp_ne, pm_s_iload_n, pm_s_invokevirtual, pm_s_isub, pm_s_return, ct_X4_shiftBack, pS, pR, pC, pE, pL, -Int32.not_le, -Int32.not_lt, -Int64.not_le, -Int64.not_lt, -List.getD_eq_getElem?_getD]
      exact hT M' q1 q2
    have h44' : ∀ M', SdX M' p ec (aTake S a) → pm_fr (stF p) M M' → X 44 [(0, .ref p), (1, .int (nI d)), (2, .int (nI a))] [] M' := by
      intro M' q1 q2
      refine hb44 _ _ _ ?_
      simp (maxSteps := 2000000) [bk_X4_shiftBack_0, bk_X4_shiftBack_26, bk_X4_shiftBack_39, bk_X4_shiftBack_44, bk_X4_shiftBack_58, bk_X4_shiftBack_67, pm_arr, pm_call, pm_e_c0, pm_e_c1, pm_e_cti, pm_e_ctl, pm_e_ctr, pm_e_go, pm_e_ii, pm_e_ldi, pm_e_ldr, pm_e_lk, pm_e_r, pm_e_ri, pm_e_rii, pm_e_rm0, pm_e_rm1, pm_e_rs0, pm_e_rs1, pm_e_v2, pm_e_wp0, pm_e_wp1, pm_f2, pm_f3, pm_fld, pm_fv, pm_obj, pm_recv, pm_s_aload_n, pm_s_dup2, pm_s_getfield, pm_s_goto, pm_s_iaload, pm_s_iastore, pm_s_iconst, pm_s_if_icmp_ge, pm_s_if_icmp_ne, pm_s_iload_n, pm_s_invokevirtual, pm_s_isub, pm_s_return, ct_X4_shiftBack, pS, pR, pC, pE, pL, -Int32.not_le, -Int32.not_lt, -Int64.not_le, -Int64.not_lt, -List.getD_eq_getElem?_getD, st_0 hp]
      simp (disch := omega) only [ni_in, ni_cl, ni_add, ni_mul, ni_sub, ni_lt, ni_le, ni_eq, ni_eq0, ni_lt0, ni_0le, ni_0lt, ni_le0, ni_a1, ni_a3, ni_a7, ni_a15]
      refine ⟨fun h => ?_, fun h => ?_⟩
      · refine hb58 _ _ _ ?_
        simp (maxSteps := 2000000) [bk_X4_shiftBack_0, bk_X4_shiftBack_26, bk_X4_shiftBack_39, bk_X4_shiftBack_44, bk_X4_shiftBack_58, bk_X4_shiftBack_67, pm_arr, pm_call, pm_e_c0, pm_e_c1, pm_e_cti, pm_e_ctl, pm_e_ctr, pm_e_go, pm_e_ii, pm_e_ldi, pm_e_ldr, pm_e_lk, pm_e_r, pm_e_ri, pm_e_rii, pm_e_rm0, pm_e_rm1, pm_e_rs0, pm_e_rs1, pm_e_v2, pm_e_wp0, pm_e_wp1, pm_f2, pm_f3, pm_fld, pm_fv, pm_obj, pm_recv, pm_s_aload_n, pm_s_dup2, pm_s_getfield, pm_s_goto, pm_s_iaload, pm_s_iastore, pm_s_iconst, pm_s_if_icmp_ge, pm_s_if_icmp_ne, pm_s_iload_n, pm_s_invokevirtual, pm_s_isub, pm_s_return, ct_X4_shiftBack, pS, pR, pC, pE, pL, -Int32.not_le, -Int32.not_lt, -Int64.not_le, -Int64.not_lt, -List.getD_eq_getElem?_getD, st_0 hp, st_3 hp]
        simp (disch := omega) only [ni_in, ni_cl, ni_add, ni_mul, ni_sub, ni_lt, ni_le, ni_eq, ni_eq0, ni_lt0, ni_0le, ni_0lt, ni_le0, ni_a1, ni_a3, ni_a7, ni_a15]
        refine ⟨by omega, h67 _ ?_ (q2.set (by simp))⟩
        have := q1.setE (j := a - 4) (d := d) (by omega) b12
        have e : d = S.2.1 (a - 4) := by rw [← hcd]; simp [cardF, show ¬ a < 4 by omega]
        refine this.congr (fun i _ => ?_) (fun j _ => ?_) (fun i _ => ?_)
        · simp [aTake, show ¬ a < 4 by omega]
        · simp only [aTake, show ¬ a < 4 by omega, if_false, up_up]; rw [up_id2 _ _ e]
        · simp [aTake, show ¬ a < 4 by omega]
      · have hne : S.1 a ≠ [] := by
          intro e; apply hc0; rw [← hcd]; simp [cardF, show a < 4 by omega, e, lastC]
        have e : cardF S a = lastC (S.1 a) := by simp [cardF, show a < 4 by omega]
        have hlen := (hO.1 a (by omega)).1
        have hpos := List.length_pos_iff.mpr hne
        refine ⟨ec, aTake S a, a, d, hp, rfl, rfl, q1, by omega, ⟨by omega, b12⟩, ?_, fun M'' r1 r2 => ?_⟩
        · simp [aTake, show a < 4 by omega, aPop, up_s]; omega
        · simp (maxSteps := 2000000) [bk_X4_shiftBack_0, bk_X4_shiftBack_26, bk_X4_shiftBack_39, bk_X4_shiftBack_44, bk_X4_shiftBack_58, bk_X4_shiftBack_67, pm_arr, pm_call, pm_e_c0, pm_e_c1, pm_e_cti, pm_e_ctl, pm_e_ctr, pm_e_go, pm_e_ii, pm_e_ldi, pm_e_ldr, pm_e_lk, pm_e_r, pm_e_ri, pm_e_rii, pm_e_rm0, pm_e_rm1, pm_e_rs0, pm_e_rs1, pm_e_v2, pm_e_wp0, pm_e_wp1, pm_f2, pm_f3, pm_fld, pm_fv, pm_obj, pm_recv, pm_s_aload_n, pm_s_dup2, pm_s_getfield, pm_s_goto, pm_s_iaload, pm_s_iastore, pm_s_iconst, pm_s_if_icmp_ge, pm_s_if_icmp_ne, pm_s_iload_n, pm_s_invokevirtual, pm_s_isub, pm_s_return, ct_X4_shiftBack, pS, pR, pC, pE, pL, -Int32.not_le, -Int32.not_lt, -Int64.not_le, -Int64.not_lt, -List.getD_eq_getElem?_getD]
          refine h67 M'' ?_ (q2.trans r2)
          rw [← hcd, e] at r1
          simpa [aTake, show a < 4 by omega, aPop, aPush, up_s, up_up, lastC_dl hne, up_id] using r1
    refine hb0 _ _ _ ?_
    simp (maxSteps := 2000000) [bk_X4_shiftBack_0, bk_X4_shiftBack_26, bk_X4_shiftBack_39, bk_X4_shiftBack_44, bk_X4_shiftBack_58, bk_X4_shiftBack_67, pm_arr, pm_call, pm_e_c0, pm_e_c1, pm_e_cti, pm_e_ctl, pm_e_ctr, pm_e_go, pm_e_ii, pm_e_ldi, pm_e_ldr, pm_e_lk, pm_e_r, pm_e_ri, pm_e_rii, pm_e_rm0, pm_e_rm1, pm_e_rs0, pm_e_rs1, pm_e_v2, pm_e_wp0, pm_e_wp1, pm_f2, pm_f3, pm_fld, pm_fv, pm_obj, pm_recv, pm_s_aload_n, pm_s_dup2, pm_s_getfield, pm_s_goto, pm_s_iaload, pm_s_iastore, pm_s_iconst, pm_s_if_icmp_ge, pm_s_if_icmp_ne, pm_s_iload_n, pm_s_invokevirtual, pm_s_isub, pm_s_return, ct_X4_shiftBack, pS, pR, pC, pE, pL, -Int32.not_le, -Int32.not_lt, -Int64.not_le, -Int64.not_lt, -List.getD_eq_getElem?_getD, lv_args, st_0 hp, st_4 hp, sx_1, sx_2]
    have hhs : (aMv P ec S a b).2.2 (su P.2.1 d) ≤ 6 := hS.1.2.2 _ (by dsimp only [pS, pR] at *; omega)
    by_cases hb5 : b = 5
    · have hput : (aMv P ec S a b).2.2 (su P.2.1 d) = S.2.2 (su P.2.1 d) + 1 := by simp [aMv, aPut, hb5, hcd, aTake_h, up_s, pR]
      simp (disch := omega) only [ni_in, ni_cl, ni_add, ni_mul, ni_sub, ni_lt, ni_le, ni_eq, ni_eq0, ni_lt0, ni_0le, ni_0lt, ni_le0, ni_a1, ni_a3, ni_a7, ni_a15, mn.1, hS.h (show su (pR P) d < 4 by omega), hput]
      refine ⟨fun h => absurd hb5 h, fun _ => ?_⟩
      repeat refine ⟨by omega, ?_⟩
      refine h44' _ ?_ (pm_fr.rfl.set (by simp))
      have := hS.setH (j := su (pR P) d) (d := S.2.2 (su (pR P) d) + 1 - 1) (by have := hh hb5; omega)
      refine this.congr (fun i _ => ?_) (fun j _ => ?_) (fun i _ => ?_)
      · simp [aMv, aPut, hb5]
      · simp [aMv, aPut, hb5]
      · simp [aMv, aPut, hb5, hcd, up_up, aTake_h]
        rw [up_id2]; rfl
    · simp (disch := omega) only [ni_in, ni_cl, ni_add, ni_mul, ni_sub, ni_lt, ni_le, ni_eq, ni_eq0, ni_lt0, ni_0le, ni_0lt, ni_le0, ni_a1, ni_a3, ni_a7, ni_a15]
      refine ⟨fun _ => ?_, fun h => absurd h hb5⟩
      refine hb26 _ _ _ ?_
      simp (maxSteps := 2000000) [bk_X4_shiftBack_0, bk_X4_shiftBack_26, bk_X4_shiftBack_39, bk_X4_shiftBack_44, bk_X4_shiftBack_58, bk_X4_shiftBack_67, pm_arr, pm_call, pm_e_c0, pm_e_c1, pm_e_cti, pm_e_ctl, pm_e_ctr, pm_e_go, pm_e_ii, pm_e_ldi, pm_e_ldr, pm_e_lk, pm_e_r, pm_e_ri, pm_e_rii, pm_e_rm0, pm_e_rm1, pm_e_rs0, pm_e_rs1, pm_e_v2, pm_e_wp0, pm_e_wp1, pm_f2, pm_f3, pm_fld, pm_fv, pm_obj, pm_recv, pm_s_aload_n, pm_s_dup2, pm_s_getfield, pm_s_goto, pm_s_iaload, pm_s_iastore, pm_s_iconst, pm_s_if_icmp_ge, pm_s_if_icmp_ne, pm_s_iload_n, pm_s_invokevirtual, pm_s_isub, pm_s_return, ct_X4_shiftBack, pS, pR, pC, pE, pL, -Int32.not_le, -Int32.not_lt, -Int64.not_le, -Int64.not_lt, -List.getD_eq_getElem?_getD, st_0 hp]
      simp (disch := omega) only [ni_in, ni_cl, ni_add, ni_mul, ni_sub, ni_lt, ni_le, ni_eq, ni_eq0, ni_lt0, ni_0le, ni_0lt, ni_le0, ni_a1, ni_a3, ni_a7, ni_a15]
      refine ⟨fun hb4 => ?_, fun hb4 => ?_⟩
      · refine hb39 _ _ _ ?_
        simp (maxSteps := 2000000) [bk_X4_shiftBack_0, bk_X4_shiftBack_26, bk_X4_shiftBack_39, bk_X4_shiftBack_44, bk_X4_shiftBack_58, bk_X4_shiftBack_67, pm_arr, pm_call, pm_e_c0, pm_e_c1, pm_e_cti, pm_e_ctl, pm_e_ctr, pm_e_go, pm_e_ii, pm_e_ldi, pm_e_ldr, pm_e_lk, pm_e_r, pm_e_ri, pm_e_rii, pm_e_rm0, pm_e_rm1, pm_e_rs0, pm_e_rs1, pm_e_v2, pm_e_wp0, pm_e_wp1, pm_f2, pm_f3, pm_fld, pm_fv, pm_obj, pm_recv, pm_s_aload_n, pm_s_dup2, pm_s_getfield, pm_s_goto, pm_s_iaload, pm_s_iastore, pm_s_iconst, pm_s_if_icmp_ge, pm_s_if_icmp_ne, pm_s_iload_n, pm_s_invokevirtual, pm_s_isub, pm_s_return, ct_X4_shiftBack, pS, pR, pC, pE, pL, -Int32.not_le, -Int32.not_lt, -Int64.not_le, -Int64.not_lt, -List.getD_eq_getElem?_getD, st_0 hp]
        refine ⟨ec, aMv P ec S a b, b, hp, rfl, hS, by omega, ?_, fun M'' r1 r2 => ?_⟩
        · simp [aMv, aPut, hb5, hb4, aPush, up_s]
        · simp (maxSteps := 2000000) [bk_X4_shiftBack_0, bk_X4_shiftBack_26, bk_X4_shiftBack_39, bk_X4_shiftBack_44, bk_X4_shiftBack_58, bk_X4_shiftBack_67, pm_arr, pm_call, pm_e_c0, pm_e_c1, pm_e_cti, pm_e_ctl, pm_e_ctr, pm_e_go, pm_e_ii, pm_e_ldi, pm_e_ldr, pm_e_lk, pm_e_r, pm_e_ri, pm_e_rii, pm_e_rm0, pm_e_rm1, pm_e_rs0, pm_e_rs1, pm_e_v2, pm_e_wp0, pm_e_wp1, pm_f2, pm_f3, pm_fld, pm_fv, pm_obj, pm_recv, pm_s_aload_n, pm_s_dup2, pm_s_getfield, pm_s_goto, pm_s_iaload, pm_s_iastore, pm_s_iconst, pm_s_if_icmp_ge, pm_s_if_icmp_ne, pm_s_iload_n, pm_s_invokevirtual, pm_s_isub, pm_s_return, ct_X4_shiftBack, pS, pR, pC, pE, pL, -Int32.not_le, -Int32.not_lt, -Int64.not_le, -Int64.not_lt, -List.getD_eq_getElem?_getD]
          refine h44' M'' ?_ r2
          simpa [aMv, aPut, hb5, hb4, aPush, aPop, up_s, up_up, up_id] using r1
      · obtain ⟨a4, hff, hdis⟩ := h44 hb4
        obtain ⟨f2, f0⟩ := ffc_free hff
        have hT0 : aTake S a = aPop S a := by simp [aTake, a4]
        have hffe : ffc ec (aTake S a) = ffc ec S := by rw [hT0]; rfl
        refine ⟨ec, aMv P ec S a b, d, hp, rfl, hS, b12, fun M'' T r0 r1 r2 => ?_⟩
        simp (maxSteps := 2000000) [bk_X4_shiftBack_0, bk_X4_shiftBack_26, bk_X4_shiftBack_39, bk_X4_shiftBack_44, bk_X4_shiftBack_58, bk_X4_shiftBack_67, pm_arr, pm_call, pm_e_c0, pm_e_c1, pm_e_cti, pm_e_ctl, pm_e_ctr, pm_e_go, pm_e_ii, pm_e_ldi, pm_e_ldr, pm_e_lk, pm_e_r, pm_e_ri, pm_e_rii, pm_e_rm0, pm_e_rm1, pm_e_rs0, pm_e_rs1, pm_e_v2, pm_e_wp0, pm_e_wp1, pm_f2, pm_f3, pm_fld, pm_fv, pm_obj, pm_recv, pm_s_aload_n, pm_s_dup2, pm_s_getfield, pm_s_goto, pm_s_iaload, pm_s_iastore, pm_s_iconst, pm_s_if_icmp_ge, pm_s_if_icmp_ne, pm_s_iload_n, pm_s_invokevirtual, pm_s_isub, pm_s_return, ct_X4_shiftBack, pS, pR, pC, pE, pL, -Int32.not_le, -Int32.not_lt, -Int64.not_le, -Int64.not_lt, -List.getD_eq_getElem?_getD]
        refine h44' M'' (r1.congr (fun i _ => ?_) (fun j hj => ?_) (fun i _ => ?_)) r2
        · simp [aMv, aPut, hb4]
        · have r := r0 j hj
          show (aTake S a).2.1 j = T j
          rw [r]
          have e1 : (aMv P ec S a b).2.1 = up S.2.1 (ffc ec S) d := by
            have e2 : aMv P ec S a b = ((aTake S a).1, up (aTake S a).2.1 (ffc ec S) d, (aTake S a).2.2) := by
              unfold aMv aPut; rw [hcd, if_neg hb5, if_pos hb4, hffe, if_neg hff]
            rw [e2, hT0]; rfl
          rw [e1, hT0]
          by_cases q : j = ffc ec S
          · rw [q, up_s, if_pos rfl]; exact f0
          · rw [up_n _ _ q, if_neg (hdis j hj)]; rfl
        · simp [aMv, aPut, hb4]
  · exact hT.elim
end
section
def aIns (S : St) (i d n : Nat) : St := (up S.1 i ((S.1 i).take ((S.1 i).length - n) ++ [d] ++ (S.1 i).drop ((S.1 i).length - n)), S.2.1, S.2.2)
theorem ln_low {l : List Nat} (h : ∀ d ∈ l, d < 16) {n : Nat} (hn : n ≤ l.length) (h12 : l.length ≤ 12) : lN (pq l) &&& ((lN 1 <<< ((nI (4 * n)).toInt64 &&& 63)) - lN 1) = lN (pq (l.drop (l.length - n))) := by
  rw [ln_pow (by omega), wb_mask (by have := pq_48 h h12; omega) (by omega), Nat.pow_mul, show (2 : Nat) ^ 4 = 16 from rfl, pq_drop h hn]
theorem ln_high {l : List Nat} (h : ∀ d ∈ l, d < 16) {n : Nat} (hn : n ≤ l.length) (h12 : l.length ≤ 12) : ((lN (pq l)).toUInt64 >>> ((nI (4 * n)).toInt64.toUInt64 &&& Int64.toUInt64 63)).toInt64 = lN (pq (l.take (l.length - n))) := by
  rw [wb_shr (by have := pq_48 h h12; omega) (by omega), Nat.pow_mul, show (2 : Nat) ^ 4 = 16 from rfl, pq_take h hn]
theorem ln_cat {l m : List Nat} (hl : ∀ d ∈ l, d < 16) (hm : ∀ d ∈ m, d < 16) (h12 : l.length + m.length ≤ 12) : (lN (pq l) <<< ((nI (4 * m.length)).toInt64 &&& 63)) ||| lN (pq m) = lN (pq (l ++ m)) := by
  have e : (2 : Nat) ^ (4 * m.length) = 16 ^ m.length := by rw [Nat.pow_mul]
  have h1 := pq_lt hm
  have h2 := pq_48 (l := l ++ m) (fun d hd => by rcases List.mem_append.mp hd with q | q; exact hl d q; exact hm d q) (by simp; omega)
  rw [pq_append] at h2
  rw [wb_shl _ (by omega), ln_or (by rw [e]; exact h1) (by rw [e]; omega), e, ← pq_append]
theorem SdX.setC {M : pm_M} {p ec : Nat} {S : St} (h : SdX M p ec S) {i : Nat} {l : List Nat} (hl : l.length ≤ 12) (hd : ∀ d ∈ l, 1 ≤ d ∧ d ≤ 12) : SdX (pm_set (pm_setL M (p + 1) i (lN (pq l))) (p + 2) i (nI l.length)) p ec (up S.1 i l, S.2.1, S.2.2) := by
  obtain ⟨a, b, c, dd, e⟩ := h
  refine ⟨⟨fun j hj => ?_, a.2⟩, b, ?_, fun j hj => ?_, fun j hj => ?_⟩
  · by_cases ej : j = i
    · subst ej; simp only [up_s]; exact ⟨hl, hd⟩
    · simp only [up_n _ _ ej]; exact a.1 j hj
  · simp only [me_1, me_3]; simpa using c
  · have := dd j hj
    by_cases ej : j = i
    · subst ej; simp only [me_1, me_2, me_3, me_4, up_s]; simp [this.2.2]
    · simp only [me_1, me_2, me_3, me_4, up_n _ _ ej]; simp [ej, this]
  · simp only [me_1, me_2, me_3]; simpa using e j hj
def tt_X4_insert : pm_T := fun args M k => match args with
  | [.ref p, .int x, .int y, .int z] => ∃ ec S i d n, isSt p ∧ x = nI i ∧ y = nI d ∧ z = nI n ∧ SdX M p ec S ∧ i < 4 ∧ (1 ≤ d ∧ d ≤ 12) ∧ (S.1 i).length < 12 ∧ n < 2 ^ 31 ∧ ∀ M', SdX M' p ec (aIns S i d (min n (S.1 i).length)) → pm_fr (stF p) M M' → k none M'
  | _ => False
abbrev ct_X4_insert : List pm_C := [(true, 45, 0, 2, (some .int), tt_J9_min_7cf53)]
theorem mnF_n {a b : Nat} (ha : a < 2 ^ 31) (hb : b < 2 ^ 31) : mnF (nI a) (nI b) = nI (min a b) := by
  unfold mnF; simp only [ni_lt hb ha]; split
  · congr 1; omega
  · congr 1; omega
theorem mxF_n {a b : Nat} (ha : a < 2 ^ 31) (hb : b < 2 ^ 31) : mxF (nI a) (nI b) = nI (max a b) := by
  unfold mxF; simp only [ni_lt ha hb]; split
  · congr 1; omega
  · congr 1; omega
set_option maxHeartbeats 4000000 in
theorem sm_X4_insert  : pm_Sem SHx yX4_insert cX4_insert 7 none 2 tt_X4_insert := by
  refine pm_Sem_intro bl_X4_insert ct_X4_insert cs_X4_insert rfl (List.forall_mem_cons.mpr ⟨⟨_, _, _, _, sm_J9_min_7cf53, by decide, cm_J9_min_7cf53, by decide +kernel⟩, fun _ h => absurd h List.not_mem_nil⟩) ck_X4_insert (by decide +kernel) (by decide) ?_
  intro X k hX args M hT
  have hb0 := hX 0 bk_X4_insert_0 (List.mem_of_getElem? (i := 0) rfl)
  clear hX
  unfold tt_X4_insert at hT; split at hT
  · next p x y z =>
    obtain ⟨ec, S, i, d, n, hp, rfl, rfl, rfl, hS, hi, ⟨d1, d2⟩, hl, hn, hT⟩ := hT
    refine ⟨by simp [lg_sl, Value.category], ?_⟩
    refine hb0 _ _ _ ?_
    simp (maxSteps := 2000000) [bk_X4_insert_0, pm_arr, pm_call, pm_e_c0, pm_e_c1, pm_e_cti, pm_e_ctl, pm_e_ctr, pm_e_go, pm_e_i, pm_e_ii, pm_e_l, pm_e_ldi, pm_e_ldl, pm_e_ldr, pm_e_li, pm_e_lk, pm_e_ll, pm_e_r, pm_e_ri, pm_e_rii, pm_e_ril, pm_e_rm0, pm_e_rm1, pm_e_rs0, pm_e_rs1, pm_e_v2, pm_e_wp0, pm_e_wp1, pm_f2, pm_f3, pm_fld, pm_fv, pm_obj, pm_recv, pm_s_aload_n, pm_s_dup2, pm_s_getfield, pm_s_i2l, pm_s_iadd, pm_s_iaload, pm_s_iastore, pm_s_iconst, pm_s_iload, pm_s_iload_n, pm_s_imul, pm_s_invokestatic, pm_s_istore, pm_s_laload, pm_s_land, pm_s_lastore, pm_s_lconst, pm_s_lload, pm_s_lor, pm_s_lshl, pm_s_lstore, pm_s_lsub, pm_s_lushr, pm_s_return, ct_X4_insert, tt_J9_min_7cf53, pS, pR, pC, pE, pL, -Int32.not_le, -Int32.not_lt, -Int64.not_le, -Int64.not_lt, lv_args, st_0 hp, st_1 hp, st_2 hp]
    simp (disch := omega) only [ni_in, ni_cl, ni_add, ni_mul, ni_sub, ni_lt, ni_le, ni_eq, ni_eq0, ni_lt0, ni_0le, ni_0lt, ni_le0, ni_a1, ni_a3, ni_a7, ni_a15, hS.n hi, hS.c hi, mnF_n, me_3]
    repeat refine ⟨by omega, ?_⟩
    have hm : min n (S.1 i).length ≤ (S.1 i).length := by omega
    generalize min n (S.1 i).length = m at *
    have h16 := hS.d16 hi
    have t16 : ∀ z ∈ (S.1 i).take ((S.1 i).length - m), z < 16 := fun z hz => h16 z (List.mem_of_mem_take hz)
    have r16 : ∀ z ∈ (S.1 i).drop ((S.1 i).length - m), z < 16 := fun z hz => h16 z (List.mem_of_mem_drop hz)
    rw [ln_high h16 hm (by omega), ln_low h16 hm (by omega)]
    have e1 : (lN (pq ((S.1 i).take ((S.1 i).length - m))) <<< ((nI 4).toInt64 &&& 63)) ||| (nI d).toInt64 = lN (pq ((S.1 i).take ((S.1 i).length - m) ++ [d])) := by
      have := ln_cat (l := (S.1 i).take ((S.1 i).length - m)) (m := [d]) t16 (by intro z hz; simp at hz; omega) (by simp; omega)
      rw [ni_l (n := d) (by omega)]; simpa [pq] using this
    rw [e1]
    have e2 := ln_cat (l := (S.1 i).take ((S.1 i).length - m) ++ [d]) (m := (S.1 i).drop ((S.1 i).length - m)) (by intro z hz; rcases List.mem_append.mp hz with q | q; exact t16 z q; simp at q; omega) r16 (by simp; omega)
    rw [show ((S.1 i).drop ((S.1 i).length - m)).length = m by simp; omega] at e2
    rw [e2]
    refine hT _ ?_ ((pm_fr.rfl.setL (by simp)).set (by simp))
    have := hS.setC (i := i) (l := (S.1 i).take ((S.1 i).length - m) ++ [d] ++ (S.1 i).drop ((S.1 i).length - m)) (by simp; omega) (by
      intro z hz
      rcases List.mem_append.mp hz with q | q
      · rcases List.mem_append.mp q with q | q
        · exact (hS.1.1 i hi).2 z (List.mem_of_mem_take q)
        · simp at q; omega
      · exact (hS.1.1 i hi).2 z (List.mem_of_mem_drop q))
    rw [show ((S.1 i).take ((S.1 i).length - m) ++ [d] ++ (S.1 i).drop ((S.1 i).length - m)).length = (S.1 i).length + 1 by simp; omega] at this
    exact this
  · exact hT.elim
def aRow (S : St) (a b n : Nat) : St := (up (up S.1 a ((S.1 a).take ((S.1 a).length - n))) b (S.1 b ++ (S.1 a).drop ((S.1 a).length - n)), S.2.1, S.2.2)
def tt_X4_shiftRow : pm_T := fun args M k => match args with
  | [.ref p, .int x, .int y, .int z] => ∃ ec S a b n, isSt p ∧ x = nI a ∧ y = nI b ∧ z = nI n ∧ SdX M p ec S ∧ a < 4 ∧ b < 4 ∧ a ≠ b ∧ n ≤ (S.1 a).length ∧ (S.1 b).length + n ≤ 12 ∧ ∀ M', SdX M' p ec (aRow S a b n) → pm_fr (stF p) M M' → k none M'
  | _ => False
abbrev ct_X4_shiftRow : List pm_C := []
set_option maxHeartbeats 4000000 in
theorem sm_X4_shiftRow  : pm_Sem SHx yX4_shiftRow cX4_shiftRow 7 none 1 tt_X4_shiftRow := by
  refine pm_Sem_intro bl_X4_shiftRow ct_X4_shiftRow cs_X4_shiftRow rfl (fun _ h => absurd h List.not_mem_nil) ck_X4_shiftRow (by decide +kernel) (by decide) ?_
  intro X k hX args M hT
  have hb0 := hX 0 bk_X4_shiftRow_0 (List.mem_of_getElem? (i := 0) rfl)
  clear hX
  unfold tt_X4_shiftRow at hT; split at hT
  · next p x y z =>
    obtain ⟨ec, S, a, b, n, hp, rfl, rfl, rfl, hS, ha, hb, hab, hn, hbn, hT⟩ := hT
    have hla := hS.len ha
    refine ⟨by simp [lg_sl, Value.category], ?_⟩
    refine hb0 _ _ _ ?_
    simp (maxSteps := 2000000) [bk_X4_shiftRow_0, pm_arr, pm_e_c0, pm_e_c1, pm_e_cti, pm_e_ctl, pm_e_ctr, pm_e_go, pm_e_i, pm_e_ii, pm_e_l, pm_e_ldi, pm_e_ldl, pm_e_ldr, pm_e_li, pm_e_lk, pm_e_ll, pm_e_r, pm_e_ri, pm_e_rii, pm_e_ril, pm_e_rm0, pm_e_rm1, pm_e_rs0, pm_e_rs1, pm_e_v2, pm_e_wp0, pm_e_wp1, pm_f2, pm_f3, pm_fld, pm_fv, pm_obj, pm_s_aload_n, pm_s_dup2, pm_s_getfield, pm_s_iadd, pm_s_iaload, pm_s_iastore, pm_s_iconst, pm_s_iload, pm_s_iload_n, pm_s_imul, pm_s_istore, pm_s_isub, pm_s_laload, pm_s_land, pm_s_lastore, pm_s_lconst, pm_s_lload, pm_s_lor, pm_s_lshl, pm_s_lstore, pm_s_lsub, pm_s_lushr, pm_s_return, ct_X4_shiftRow, pS, pR, pC, pE, pL, -Int32.not_le, -Int32.not_lt, -Int64.not_le, -Int64.not_lt, lv_args, st_0 hp, st_1 hp, st_2 hp]
    simp (disch := omega) only [ni_in, ni_cl, ni_add, ni_mul, ni_sub, ni_lt, ni_le, ni_eq, ni_eq0, ni_lt0, ni_0le, ni_0lt, ni_le0, ni_a1, ni_a3, ni_a7, ni_a15, hS.n ha, hS.c ha, me_1, me_2, me_3, me_4]
    repeat refine ⟨by omega, ?_⟩
    have hba : ¬ b = a := fun e => hab e.symm
    simp only [hba, and_false, if_false]
    simp (disch := omega) only [ni_in, ni_cl, ni_add, ni_mul, ni_sub, ni_lt, ni_le, ni_eq, ni_eq0, ni_lt0, ni_0le, ni_0lt, ni_le0, ni_a1, ni_a3, ni_a7, ni_a15, hS.n hb, hS.c hb]
    rw [ln_high (hS.d16 ha) hn hla, ln_low (hS.d16 ha) hn hla]
    have e2 := ln_cat (l := S.1 b) (m := (S.1 a).drop ((S.1 a).length - n)) (hS.d16 hb) (fun z hz => hS.d16 ha z (List.mem_of_mem_drop hz)) (by simp; omega)
    rw [show ((S.1 a).drop ((S.1 a).length - n)).length = n by simp; omega] at e2
    rw [e2]
    refine hT _ ?_ ((((pm_fr.rfl.setL (by simp)).set (by simp)).setL (by simp)).set (by simp))
    have s1 := hS.setC (i := a) (l := (S.1 a).take ((S.1 a).length - n)) (by simp; omega) (fun z hz => (hS.1.1 a ha).2 z (List.mem_of_mem_take hz))
    have s2 := s1.setC (i := b) (l := S.1 b ++ (S.1 a).drop ((S.1 a).length - n)) (by simp; omega) (by
      intro z hz
      rcases List.mem_append.mp hz with q | q
      · exact (hS.1.1 b hb).2 z q
      · exact (hS.1.1 a ha).2 z (List.mem_of_mem_drop q))
    rw [show ((S.1 a).take ((S.1 a).length - n)).length = (S.1 a).length - n by simp, show (S.1 b ++ (S.1 a).drop ((S.1 a).length - n)).length = (S.1 b).length + n by simp; omega] at s2
    exact s2
  · exact hT.elim
end
section
/-! COUNTS -/
def cnt : Nat → (Nat → Bool) → Nat
  | 0, _ => 0
  | n + 1, p => cnt n p + (if p n = true then 1 else 0)
def sumN : Nat → (Nat → Nat) → Nat
  | 0, _ => 0
  | n + 1, f => sumN n f + f n
def anyN : Nat → (Nat → Bool) → Bool
  | 0, _ => false
  | n + 1, p => anyN n p || p n
theorem cnt_le (n : Nat) (p : Nat → Bool) : cnt n p ≤ n := by
  induction n with
  | zero => exact Nat.le_refl 0
  | succ n ih => unfold cnt; split <;> omega
theorem sumN_le {m : Nat} {f : Nat → Nat} (n : Nat) (h : ∀ i, i < n → f i ≤ m) : sumN n f ≤ n * m := by
  induction n with
  | zero => simp [sumN]
  | succ n ih =>
    have h1 := ih (fun i hi => h i (by omega))
    have h2 := h n (by omega)
    unfold sumN; rw [Nat.succ_mul]; omega
theorem anyN_iff {n : Nat} {p : Nat → Bool} : anyN n p = true ↔ ∃ a, a < n ∧ p a = true := by
  induction n with
  | zero => simp [anyN]
  | succ n ih =>
    simp only [anyN, Bool.or_eq_true, ih]
    constructor
    · rintro (⟨a, h1, h2⟩ | h)
      · exact ⟨a, by omega, h2⟩
      · exact ⟨n, by omega, h⟩
    · rintro ⟨a, h1, h2⟩
      rcases Nat.lt_or_ge a n with q | q
      · exact Or.inl ⟨a, q, h2⟩
      · have : a = n := by omega
        subst this; exact Or.inr h2
theorem anyN_no {n : Nat} {p : Nat → Bool} (h : ∀ a, a < n → p a = false) : anyN n p = false := by
  cases hh : anyN n p with
  | false => rfl
  | true =>
    obtain ⟨a, h1, h2⟩ := anyN_iff.mp hh
    rw [h a h1] at h2; cases h2
theorem cnt_congr {n : Nat} {p q : Nat → Bool} (h : ∀ i, i < n → p i = q i) : cnt n p = cnt n q := by
  induction n with
  | zero => rfl
  | succ n ih => unfold cnt; rw [ih (fun i hi => h i (by omega)), h n (by omega)]
theorem sumN_congr {n : Nat} {p q : Nat → Nat} (h : ∀ i, i < n → p i = q i) : sumN n p = sumN n q := by
  induction n with
  | zero => rfl
  | succ n ih => unfold sumN; rw [ih (fun i hi => h i (by omega)), h n (by omega)]
def tt_X4_emptyColumns : pm_T := fun args M k => match args with
  | [.ref p] => ∃ ec S P, isSt p ∧ SdX M p ec S ∧ DkX M P ∧ k (some (.int (nI (cnt (pC P) (fun i => decide (S.1 i = [])))))) M
  | _ => False
abbrev ct_X4_emptyColumns : List pm_C := []
set_option maxHeartbeats 4000000 in
theorem sm_X4_emptyColumns  : pm_Sem SHx yX4_emptyColumns cX4_emptyColumns 3 (some .int) 1 tt_X4_emptyColumns := by
  refine pm_Sem_intro bl_X4_emptyColumns ct_X4_emptyColumns cs_X4_emptyColumns rfl (fun _ h => absurd h List.not_mem_nil) ck_X4_emptyColumns (by decide +kernel) (by decide) ?_
  intro X k hX args M hT
  have hb0 := hX 0 bk_X4_emptyColumns_0 (List.mem_of_getElem? (i := 0) rfl)
  have hb4 := hX 4 bk_X4_emptyColumns_4 (List.mem_of_getElem? (i := 1) rfl)
  have hb29 := hX 29 bk_X4_emptyColumns_29 (List.mem_of_getElem? (i := 2) rfl)
  have hb30 := hX 30 bk_X4_emptyColumns_30 (List.mem_of_getElem? (i := 3) rfl)
  have hb38 := hX 38 bk_X4_emptyColumns_38 (List.mem_of_getElem? (i := 4) rfl)
  clear hX
  unfold tt_X4_emptyColumns at hT; split at hT
  · next p =>
    obtain ⟨ec, S, ⟨s, r, c, e, w⟩, hp, hS, hD, hT⟩ := hT
    have hP := hD.1.1
    have m5 := hD.1.2.1.2.2.1
    obtain ⟨h1, h2, h3, h4, h5, h6, h7, h8, h9⟩ := hP
    dsimp only [pS, pR, pC, pE, pL] at *
    refine ⟨by simp [lg_sl, Value.category], ?_⟩
    have loop : ∀ (f i : Nat), c ≤ i + f → i ≤ c → X 4 [(0, .ref p), (1, .int (nI (cnt i (fun i => decide (S.1 i = []))))), (2, .int (nI i))] [] M := by
      intro f
      have out : X 38 [(1, .int (nI (cnt c (fun i => decide (S.1 i = [])))))] [] M := by
        refine hb38 _ _ _ ?_
        simp (maxSteps := 2000000) [bk_X4_emptyColumns_0, bk_X4_emptyColumns_4, bk_X4_emptyColumns_29, bk_X4_emptyColumns_30, bk_X4_emptyColumns_38, pm_arr, pm_e_c0, pm_e_c1, pm_e_cti, pm_e_ctl, pm_e_ctr, pm_e_go, pm_e_i, pm_e_ii, pm_e_ldi, pm_e_ldr, pm_e_lk, pm_e_r, pm_e_ri, pm_e_rm0, pm_e_rm1, pm_e_rs0, pm_e_rs1, pm_e_wp0, pm_e_wp1, pm_f2, pm_f3, pm_fld, pm_fv, pm_obj, pm_s_aload_n, pm_s_getfield, pm_s_goto, pm_s_iadd, pm_s_iaload, pm_s_iconst, pm_s_ifCond_ne, pm_s_if_icmp_ge, pm_s_iinc, pm_s_iload_n, pm_s_ireturn, pm_s_istore_n, ct_X4_emptyColumns, pS, pR, pC, pE, pL, -Int32.not_le, -Int32.not_lt, -Int64.not_le, -Int64.not_lt, -List.getD_eq_getElem?_getD]
        exact hT
      induction f with
      | zero =>
        intro i f1 f2
        have e1 : i = c := by omega
        subst e1
        refine hb4 _ _ _ ?_
        simp (maxSteps := 2000000) [bk_X4_emptyColumns_0, bk_X4_emptyColumns_4, bk_X4_emptyColumns_29, bk_X4_emptyColumns_30, bk_X4_emptyColumns_38, pm_arr, pm_e_c0, pm_e_c1, pm_e_cti, pm_e_ctl, pm_e_ctr, pm_e_go, pm_e_i, pm_e_ii, pm_e_ldi, pm_e_ldr, pm_e_lk, pm_e_r, pm_e_ri, pm_e_rm0, pm_e_rm1, pm_e_rs0, pm_e_rs1, pm_e_wp0, pm_e_wp1, pm_f2, pm_f3, pm_fld, pm_fv, pm_obj, pm_s_aload_n, pm_s_getfield, pm_s_goto, pm_s_iadd, pm_s_iaload, pm_s_iconst, pm_s_ifCond_ne, pm_s_if_icmp_ge, pm_s_iinc, pm_s_iload_n, pm_s_ireturn, pm_s_istore_n, ct_X4_emptyColumns, pS, pR, pC, pE, pL, -Int32.not_le, -Int32.not_lt, -Int64.not_le, -Int64.not_lt, -List.getD_eq_getElem?_getD, st_0 hp, st_2 hp, sx_1, m5]
        exact out
      | succ f ih =>
        intro i f1 f2
        refine hb4 _ _ _ ?_
        simp (maxSteps := 2000000) [bk_X4_emptyColumns_0, bk_X4_emptyColumns_4, bk_X4_emptyColumns_29, bk_X4_emptyColumns_30, bk_X4_emptyColumns_38, pm_arr, pm_e_c0, pm_e_c1, pm_e_cti, pm_e_ctl, pm_e_ctr, pm_e_go, pm_e_i, pm_e_ii, pm_e_ldi, pm_e_ldr, pm_e_lk, pm_e_r, pm_e_ri, pm_e_rm0, pm_e_rm1, pm_e_rs0, pm_e_rs1, pm_e_wp0, pm_e_wp1, pm_f2, pm_f3, pm_fld, pm_fv, pm_obj, pm_s_aload_n, pm_s_getfield, pm_s_goto, pm_s_iadd, pm_s_iaload, pm_s_iconst, pm_s_ifCond_ne, pm_s_if_icmp_ge, pm_s_iinc, pm_s_iload_n, pm_s_ireturn, pm_s_istore_n, ct_X4_emptyColumns, pS, pR, pC, pE, pL, -Int32.not_le, -Int32.not_lt, -Int64.not_le, -Int64.not_lt, -List.getD_eq_getElem?_getD, st_0 hp, st_2 hp, sx_1, m5]
        by_cases hi : i < c
        · have hl := hS.len (show i < 4 by omega)
          simp (disch := omega) only [ni_in, ni_cl, ni_add, ni_mul, ni_sub, ni_lt, ni_le, ni_eq, ni_eq0, ni_lt0, ni_0le, ni_0lt, ni_le0, ni_a1, ni_a3, ni_a7, ni_a15, hS.n (show i < 4 by omega)]
          refine ⟨fun h => by omega, fun _ => ⟨by omega, fun h => ?_, fun h => ?_⟩⟩
          · refine hb29 _ _ _ ?_
            simp (maxSteps := 2000000) [bk_X4_emptyColumns_0, bk_X4_emptyColumns_4, bk_X4_emptyColumns_29, bk_X4_emptyColumns_30, bk_X4_emptyColumns_38, pm_arr, pm_e_c0, pm_e_c1, pm_e_cti, pm_e_ctl, pm_e_ctr, pm_e_go, pm_e_i, pm_e_ii, pm_e_ldi, pm_e_ldr, pm_e_lk, pm_e_r, pm_e_ri, pm_e_rm0, pm_e_rm1, pm_e_rs0, pm_e_rs1, pm_e_wp0, pm_e_wp1, pm_f2, pm_f3, pm_fld, pm_fv, pm_obj, pm_s_aload_n, pm_s_getfield, pm_s_goto, pm_s_iadd, pm_s_iaload, pm_s_iconst, pm_s_ifCond_ne, pm_s_if_icmp_ge, pm_s_iinc, pm_s_iload_n, pm_s_ireturn, pm_s_istore_n, ct_X4_emptyColumns, pS, pR, pC, pE, pL, -Int32.not_le, -Int32.not_lt, -Int64.not_le, -Int64.not_lt, -List.getD_eq_getElem?_getD]
            refine hb30 _ _ _ ?_
            simp (maxSteps := 2000000) [bk_X4_emptyColumns_0, bk_X4_emptyColumns_4, bk_X4_emptyColumns_29, bk_X4_emptyColumns_30, bk_X4_emptyColumns_38, pm_arr, pm_e_c0, pm_e_c1, pm_e_cti, pm_e_ctl, pm_e_ctr, pm_e_go, pm_e_i, pm_e_ii, pm_e_ldi, pm_e_ldr, pm_e_lk, pm_e_r, pm_e_ri, pm_e_rm0, pm_e_rm1, pm_e_rs0, pm_e_rs1, pm_e_wp0, pm_e_wp1, pm_f2, pm_f3, pm_fld, pm_fv, pm_obj, pm_s_aload_n, pm_s_getfield, pm_s_goto, pm_s_iadd, pm_s_iaload, pm_s_iconst, pm_s_ifCond_ne, pm_s_if_icmp_ge, pm_s_iinc, pm_s_iload_n, pm_s_ireturn, pm_s_istore_n, ct_X4_emptyColumns, pS, pR, pC, pE, pL, -Int32.not_le, -Int32.not_lt, -Int64.not_le, -Int64.not_lt, -List.getD_eq_getElem?_getD]
            simp only [ni_add]
            have := ih (i + 1) (by omega) (by omega)
            have hne : ¬ S.1 i = [] := fun z => h (by rw [z]; rfl)
            simpa [cnt, hne] using this
          · refine hb30 _ _ _ ?_
            simp (maxSteps := 2000000) [bk_X4_emptyColumns_0, bk_X4_emptyColumns_4, bk_X4_emptyColumns_29, bk_X4_emptyColumns_30, bk_X4_emptyColumns_38, pm_arr, pm_e_c0, pm_e_c1, pm_e_cti, pm_e_ctl, pm_e_ctr, pm_e_go, pm_e_i, pm_e_ii, pm_e_ldi, pm_e_ldr, pm_e_lk, pm_e_r, pm_e_ri, pm_e_rm0, pm_e_rm1, pm_e_rs0, pm_e_rs1, pm_e_wp0, pm_e_wp1, pm_f2, pm_f3, pm_fld, pm_fv, pm_obj, pm_s_aload_n, pm_s_getfield, pm_s_goto, pm_s_iadd, pm_s_iaload, pm_s_iconst, pm_s_ifCond_ne, pm_s_if_icmp_ge, pm_s_iinc, pm_s_iload_n, pm_s_ireturn, pm_s_istore_n, ct_X4_emptyColumns, pS, pR, pC, pE, pL, -Int32.not_le, -Int32.not_lt, -Int64.not_le, -Int64.not_lt, -List.getD_eq_getElem?_getD]
            simp only [ni_add]
            have := ih (i + 1) (by omega) (by omega)
            have hne : S.1 i = [] := List.length_eq_zero_iff.mp h
            simpa [cnt, hne] using this
        · have e1 : i = c := by omega
          subst e1
          exact ⟨fun _ => out, fun h => absurd (Int32.le_refl _) h⟩
    refine hb0 _ _ _ ?_
    simp (maxSteps := 2000000) [bk_X4_emptyColumns_0, bk_X4_emptyColumns_4, bk_X4_emptyColumns_29, bk_X4_emptyColumns_30, bk_X4_emptyColumns_38, pm_arr, pm_e_c0, pm_e_c1, pm_e_cti, pm_e_ctl, pm_e_ctr, pm_e_go, pm_e_i, pm_e_ii, pm_e_ldi, pm_e_ldr, pm_e_lk, pm_e_r, pm_e_ri, pm_e_rm0, pm_e_rm1, pm_e_rs0, pm_e_rs1, pm_e_wp0, pm_e_wp1, pm_f2, pm_f3, pm_fld, pm_fv, pm_obj, pm_s_aload_n, pm_s_getfield, pm_s_goto, pm_s_iadd, pm_s_iaload, pm_s_iconst, pm_s_ifCond_ne, pm_s_if_icmp_ge, pm_s_iinc, pm_s_iload_n, pm_s_ireturn, pm_s_istore_n, ct_X4_emptyColumns, pS, pR, pC, pE, pL, -Int32.not_le, -Int32.not_lt, -Int64.not_le, -Int64.not_lt, -List.getD_eq_getElem?_getD, lv_args]
    exact loop c 0 (by omega) (by omega)
  · exact hT.elim
/-- is the card at j buried: one ahead of it has its suit and is lower -/
def bury (r : Nat) (l : List Nat) (j : Nat) : Bool := anyN j (fun a => decide (su r (l.getD a 0) = su r (l.getD j 0)) && decide (ra r (l.getD a 0) < ra r (l.getD j 0)))
def tt_X4_isBuried : pm_T := fun args M k => match args with
  | [.ref p, .int x, .int y] => ∃ ec S P i j, isSt p ∧ x = nI i ∧ y = nI j ∧ SdX M p ec S ∧ DkX M P ∧ inD P S ∧ i < 4 ∧ j < (S.1 i).length ∧ k (some (.int (pb (bury (pR P) (S.1 i) j)))) M
  | _ => False
theorem getD_mem {l : List Nat} {j : Nat} (h : j < l.length) : l.getD j 0 ∈ l := by
  rw [List.getD_eq_getElem?_getD, List.getElem?_eq_getElem h]; exact List.getElem_mem h
abbrev ct_X4_isBuried : List pm_C := [(false, 70, 4, 3, (some .int), tt_X4_cardAt)]
set_option maxHeartbeats 4000000 in
theorem sm_X4_isBuried  : pm_Sem SHx yX4_isBuried cX4_isBuried 6 (some .boolean) 3 tt_X4_isBuried := by
  refine pm_Sem_intro bl_X4_isBuried ct_X4_isBuried cs_X4_isBuried rfl (List.forall_mem_cons.mpr ⟨⟨_, _, _, _, sm_X4_cardAt, by decide, cm_X4_cardAt, by decide +kernel⟩, fun _ h => absurd h List.not_mem_nil⟩) ck_X4_isBuried (by decide +kernel) (by decide) ?_
  intro X k hX args M hT
  have hb0 := hX 0 bk_X4_isBuried_0 (List.mem_of_getElem? (i := 0) rfl)
  have hb10 := hX 10 bk_X4_isBuried_10 (List.mem_of_getElem? (i := 1) rfl)
  have hb71 := hX 71 bk_X4_isBuried_71 (List.mem_of_getElem? (i := 2) rfl)
  have hb77 := hX 77 bk_X4_isBuried_77 (List.mem_of_getElem? (i := 3) rfl)
  clear hX
  unfold tt_X4_isBuried at hT; split at hT
  · next p x y =>
    obtain ⟨ec, S, ⟨s, r, c, e, w⟩, i, j, hp, rfl, rfl, hS, hD, hI, hi, hj, hT⟩ := hT
    have hP := hD.1.1
    have hd := hD.1.2.2
    obtain ⟨h1, h2, h3, h4, h5, h6, h7, h8, h9⟩ := hP
    have hI1 := hI.1 i hi
    dsimp only [pS, pR, pC, pE, pL] at *
    have hlen := hS.len hi
    have hcard : ∀ a, a < (S.1 i).length → 1 ≤ (S.1 i).getD a 0 ∧ (S.1 i).getD a 0 ≤ s * r := fun a ha => ⟨((hS.1.1 i hi).2 _ (getD_mem ha)).1, hI1 _ (getD_mem ha)⟩
    have cj := hcard j hj
    have mj := hd _ cj.1 cj.2
    have sj := su_lt h3 cj.1 cj.2
    have rj := ra_le (n := (S.1 i).getD j 0) h3
    refine ⟨by simp [lg_sl, Value.category], ?_⟩
    have loop : ∀ (f a : Nat), j ≤ a + f → a ≤ j → (∀ b, b < a → (decide (su r ((S.1 i).getD b 0) = su r ((S.1 i).getD j 0)) && decide (ra r ((S.1 i).getD b 0) < ra r ((S.1 i).getD j 0))) = false) → X 10 [(0, .ref p), (1, .int (nI i)), (2, .int (nI j)), (3, .int (nI ((S.1 i).getD j 0))), (4, .int (nI a))] [] M := by
      intro f
      have out : (∀ b, b < j → (decide (su r ((S.1 i).getD b 0) = su r ((S.1 i).getD j 0)) && decide (ra r ((S.1 i).getD b 0) < ra r ((S.1 i).getD j 0))) = false) → X 77 [] [] M := by
        intro hA
        refine hb77 _ _ _ ?_
        simp (maxSteps := 2000000) [bk_X4_isBuried_0, bk_X4_isBuried_10, bk_X4_isBuried_71, bk_X4_isBuried_77, pm_arr, pm_call, pm_e_c0, pm_e_c1, pm_e_cti, pm_e_ctl, pm_e_ctr, pm_e_go, pm_e_i, pm_e_ii, pm_e_ldi, pm_e_ldr, pm_e_lk, pm_e_r, pm_e_ri, pm_e_rm0, pm_e_rm1, pm_e_rs0, pm_e_rs1, pm_e_wp0, pm_e_wp1, pm_f2, pm_f3, pm_fld, pm_fv, pm_obj, pm_recv, pm_s_aload_n, pm_s_getfield, pm_s_goto, pm_s_iaload, pm_s_iconst, pm_s_if_icmp_ge, pm_s_if_icmp_ne, pm_s_iinc, pm_s_iload, pm_s_iload_n, pm_s_invokevirtual, pm_s_ireturn, pm_s_istore, pm_s_istore_n, ct_X4_isBuried, pS, pR, pC, pE, pL, -Int32.not_le, -Int32.not_lt, -Int64.not_le, -Int64.not_lt, -List.getD_eq_getElem?_getD, ni_0]
        have : bury r (S.1 i) j = false := anyN_no hA
        rw [this] at hT; exact hT
      induction f with
      | zero =>
        intro a f1 f2 hA
        have e1 : a = j := by omega
        subst e1
        refine hb10 _ _ _ ?_
        simp (maxSteps := 2000000) [bk_X4_isBuried_0, bk_X4_isBuried_10, bk_X4_isBuried_71, bk_X4_isBuried_77, pm_arr, pm_call, pm_e_c0, pm_e_c1, pm_e_cti, pm_e_ctl, pm_e_ctr, pm_e_go, pm_e_i, pm_e_ii, pm_e_ldi, pm_e_ldr, pm_e_lk, pm_e_r, pm_e_ri, pm_e_rm0, pm_e_rm1, pm_e_rs0, pm_e_rs1, pm_e_wp0, pm_e_wp1, pm_f2, pm_f3, pm_fld, pm_fv, pm_obj, pm_recv, pm_s_aload_n, pm_s_getfield, pm_s_goto, pm_s_iaload, pm_s_iconst, pm_s_if_icmp_ge, pm_s_if_icmp_ne, pm_s_iinc, pm_s_iload, pm_s_iload_n, pm_s_invokevirtual, pm_s_ireturn, pm_s_istore, pm_s_istore_n, ct_X4_isBuried, pS, pR, pC, pE, pL, -Int32.not_le, -Int32.not_lt, -Int64.not_le, -Int64.not_lt, -List.getD_eq_getElem?_getD]
        exact out hA
      | succ f ih =>
        intro a f1 f2 hA
        refine hb10 _ _ _ ?_
        simp [bk_X4_isBuried_10, pm_e_wp1, pm_e_wp0, pm_s_iload, pm_s_iload_n, pm_s_aload_n, pm_e_ldi, pm_e_ldr, pm_e_lk, pm_f2, pm_f3, pm_s_if_icmp_ge, pm_e_ii, pm_e_go, pm_e_rs0, pm_e_rs1, pm_e_cti, pm_e_ctr, pm_s_invokevirtual, ct_X4_isBuried, pm_call, pm_recv, pm_obj, st_0 hp, -Int32.not_le, -Int32.not_lt, -List.getD_eq_getElem?_getD]
        by_cases ha : a < j
        · simp (disch := omega) only [ni_in, ni_cl, ni_add, ni_mul, ni_sub, ni_lt, ni_le, ni_eq, ni_eq0, ni_lt0, ni_0le, ni_0lt, ni_le0, ni_a1, ni_a3, ni_a7, ni_a15]
          refine ⟨fun h => by omega, fun _ => ?_⟩
          have ca := hcard a (by omega)
          have ma := hd _ ca.1 ca.2
          have sa := su_lt h3 ca.1 ca.2
          have ra' := ra_le (n := (S.1 i).getD a 0) h3
          refine ⟨ec, S, i, hp, rfl, hS, hi, fun b hb eb => ?_, fun h => absurd rfl (h a (by omega))⟩
          rw [ni_eq (by omega) (by omega)] at eb
          subst eb
          simp (maxSteps := 2000000) [bk_X4_isBuried_0, bk_X4_isBuried_10, bk_X4_isBuried_71, bk_X4_isBuried_77, pm_arr, pm_call, pm_e_c0, pm_e_c1, pm_e_cti, pm_e_ctl, pm_e_ctr, pm_e_go, pm_e_i, pm_e_ii, pm_e_ldi, pm_e_ldr, pm_e_lk, pm_e_r, pm_e_ri, pm_e_rm0, pm_e_rm1, pm_e_rs0, pm_e_rs1, pm_e_wp0, pm_e_wp1, pm_f2, pm_f3, pm_fld, pm_fv, pm_obj, pm_recv, pm_s_aload_n, pm_s_getfield, pm_s_goto, pm_s_iaload, pm_s_iconst, pm_s_if_icmp_ge, pm_s_if_icmp_ne, pm_s_iinc, pm_s_iload, pm_s_iload_n, pm_s_invokevirtual, pm_s_ireturn, pm_s_istore, pm_s_istore_n, ct_X4_isBuried, pS, pR, pC, pE, pL, -Int32.not_le, -Int32.not_lt, -Int64.not_le, -Int64.not_lt, -List.getD_eq_getElem?_getD, st_0 hp, sx_1, sx_2, sx_3]
          simp (disch := omega) only [ni_in, ni_cl, ni_add, ni_mul, ni_sub, ni_lt, ni_le, ni_eq, ni_eq0, ni_lt0, ni_0le, ni_0lt, ni_le0, ni_a1, ni_a3, ni_a7, ni_a15, ma.1, ma.2, mj.1, mj.2]
          have h71 : (decide (su r ((S.1 i).getD a 0) = su r ((S.1 i).getD j 0)) && decide (ra r ((S.1 i).getD a 0) < ra r ((S.1 i).getD j 0))) = false → X 71 [(0, .ref p), (1, .int (nI i)), (2, .int (nI j)), (3, .int (nI ((S.1 i).getD j 0))), (4, .int (nI a))] [] M := by
            intro hq
            refine hb71 _ _ _ ?_
            simp (maxSteps := 2000000) [bk_X4_isBuried_0, bk_X4_isBuried_10, bk_X4_isBuried_71, bk_X4_isBuried_77, pm_arr, pm_call, pm_e_c0, pm_e_c1, pm_e_cti, pm_e_ctl, pm_e_ctr, pm_e_go, pm_e_i, pm_e_ii, pm_e_ldi, pm_e_ldr, pm_e_lk, pm_e_r, pm_e_ri, pm_e_rm0, pm_e_rm1, pm_e_rs0, pm_e_rs1, pm_e_wp0, pm_e_wp1, pm_f2, pm_f3, pm_fld, pm_fv, pm_obj, pm_recv, pm_s_aload_n, pm_s_getfield, pm_s_goto, pm_s_iaload, pm_s_iconst, pm_s_if_icmp_ge, pm_s_if_icmp_ne, pm_s_iinc, pm_s_iload, pm_s_iload_n, pm_s_invokevirtual, pm_s_ireturn, pm_s_istore, pm_s_istore_n, ct_X4_isBuried, pS, pR, pC, pE, pL, -Int32.not_le, -Int32.not_lt, -Int64.not_le, -Int64.not_lt, -List.getD_eq_getElem?_getD]
            simp only [ni_add]
            refine ih (a + 1) (by omega) (by omega) (fun b hb => ?_)
            rcases Nat.lt_or_ge b a with q | q
            · exact hA b q
            · have : b = a := by omega
              subst this; exact hq
          repeat refine ⟨by omega, ?_⟩
          refine ⟨fun h => h71 (by rw [decide_eq_false h]; rfl), fun h => ?_⟩
          repeat refine ⟨by omega, ?_⟩
          refine ⟨fun h' => h71 (by rw [decide_eq_false (show ¬ ra r ((S.1 i).getD a 0) < ra r ((S.1 i).getD j 0) by omega)]; simp), fun h' => ?_⟩
          have : bury r (S.1 i) j = true := anyN_iff.mpr ⟨a, ha, by rw [decide_eq_true h, decide_eq_true (by omega)]; rfl⟩
          rw [this] at hT
          first | exact hT | exact ⟨Or.inr rfl, hT⟩
        · have e1 : a = j := by omega
          subst e1
          simp (disch := omega) only [ni_in, ni_cl, ni_add, ni_mul, ni_sub, ni_lt, ni_le, ni_eq, ni_eq0, ni_lt0, ni_0le, ni_0lt, ni_le0, ni_a1, ni_a3, ni_a7, ni_a15]
          exact ⟨fun _ => out hA, fun h => by omega⟩
    refine hb0 _ _ _ ?_
    simp (maxSteps := 2000000) [bk_X4_isBuried_0, bk_X4_isBuried_10, bk_X4_isBuried_71, bk_X4_isBuried_77, pm_arr, pm_call, pm_e_c0, pm_e_c1, pm_e_cti, pm_e_ctl, pm_e_ctr, pm_e_go, pm_e_i, pm_e_ii, pm_e_ldi, pm_e_ldr, pm_e_lk, pm_e_r, pm_e_ri, pm_e_rm0, pm_e_rm1, pm_e_rs0, pm_e_rs1, pm_e_wp0, pm_e_wp1, pm_f2, pm_f3, pm_fld, pm_fv, pm_obj, pm_recv, pm_s_aload_n, pm_s_getfield, pm_s_goto, pm_s_iaload, pm_s_iconst, pm_s_if_icmp_ge, pm_s_if_icmp_ne, pm_s_iinc, pm_s_iload, pm_s_iload_n, pm_s_invokevirtual, pm_s_ireturn, pm_s_istore, pm_s_istore_n, ct_X4_isBuried, pS, pR, pC, pE, pL, -Int32.not_le, -Int32.not_lt, -Int64.not_le, -Int64.not_lt, -List.getD_eq_getElem?_getD, lv_args, st_0 hp]
    refine ⟨ec, S, i, hp, rfl, hS, hi, fun b hb eb => ?_, fun h => absurd rfl (h j hj)⟩
    rw [ni_eq (by omega) (by omega)] at eb
    subst eb
    simp (maxSteps := 2000000) [bk_X4_isBuried_0, bk_X4_isBuried_10, bk_X4_isBuried_71, bk_X4_isBuried_77, pm_arr, pm_call, pm_e_c0, pm_e_c1, pm_e_cti, pm_e_ctl, pm_e_ctr, pm_e_go, pm_e_i, pm_e_ii, pm_e_ldi, pm_e_ldr, pm_e_lk, pm_e_r, pm_e_ri, pm_e_rm0, pm_e_rm1, pm_e_rs0, pm_e_rs1, pm_e_wp0, pm_e_wp1, pm_f2, pm_f3, pm_fld, pm_fv, pm_obj, pm_recv, pm_s_aload_n, pm_s_getfield, pm_s_goto, pm_s_iaload, pm_s_iconst, pm_s_if_icmp_ge, pm_s_if_icmp_ne, pm_s_iinc, pm_s_iload, pm_s_iload_n, pm_s_invokevirtual, pm_s_ireturn, pm_s_istore, pm_s_istore_n, ct_X4_isBuried, pS, pR, pC, pE, pL, -Int32.not_le, -Int32.not_lt, -Int64.not_le, -Int64.not_lt, -List.getD_eq_getElem?_getD]
    exact loop j 0 (by omega) (by omega) (fun b hb => by omega)
  · exact hT.elim
end
section
theorem cnt_s (n : Nat) (p : Nat → Bool) : cnt (n + 1) p = cnt n p + (if p n = true then 1 else 0) := rfl
theorem sumN_s (n : Nat) (f : Nat → Nat) : sumN (n + 1) f = sumN n f + f n := rfl
def buryN (P : Pm) (S : St) : Nat := sumN (pC P) (fun i => cnt (S.1 i).length (fun j => bury (pR P) (S.1 i) j))
def tt_X4_buriedCards : pm_T := fun args M k => match args with
  | [.ref p] => ∃ ec S P, isSt p ∧ SdX M p ec S ∧ DkX M P ∧ inD P S ∧ k (some (.int (nI (buryN P S)))) M
  | _ => False
abbrev ct_X4_buriedCards : List pm_C := [(false, 66, 4, 3, (some .boolean), tt_X4_isBuried)]
set_option maxHeartbeats 4000000 in
theorem sm_X4_buriedCards  : pm_Sem SHx yX4_buriedCards cX4_buriedCards 4 (some .int) 4 tt_X4_buriedCards := by
  refine pm_Sem_intro bl_X4_buriedCards ct_X4_buriedCards cs_X4_buriedCards rfl (List.forall_mem_cons.mpr ⟨⟨_, _, _, _, sm_X4_isBuried, by decide, cm_X4_isBuried, by decide +kernel⟩, fun _ h => absurd h List.not_mem_nil⟩) ck_X4_buriedCards (by decide +kernel) (by decide) ?_
  intro X k hX args M hT
  have hb0 := hX 0 bk_X4_buriedCards_0 (List.mem_of_getElem? (i := 0) rfl)
  have hb4 := hX 4 bk_X4_buriedCards_4 (List.mem_of_getElem? (i := 1) rfl)
  have hb17 := hX 17 bk_X4_buriedCards_17 (List.mem_of_getElem? (i := 2) rfl)
  have hb41 := hX 41 bk_X4_buriedCards_41 (List.mem_of_getElem? (i := 3) rfl)
  have hb42 := hX 42 bk_X4_buriedCards_42 (List.mem_of_getElem? (i := 4) rfl)
  have hb50 := hX 50 bk_X4_buriedCards_50 (List.mem_of_getElem? (i := 5) rfl)
  have hb56 := hX 56 bk_X4_buriedCards_56 (List.mem_of_getElem? (i := 6) rfl)
  clear hX
  unfold tt_X4_buriedCards at hT; split at hT
  · next p =>
    obtain ⟨ec, S, ⟨s, r, c, e, w⟩, hp, hS, hD, hI, hT⟩ := hT
    have hP := hD.1.1
    have m5 := hD.1.2.1.2.2.1
    obtain ⟨h1, h2, h3, h4, h5, h6, h7, h8, h9⟩ := hP
    unfold buryN at hT
    dsimp only [pS, pR, pC, pE, pL] at *
    refine ⟨by simp [lg_sl, Value.category], ?_⟩
    have out : X 56 [(1, .int (nI (sumN c (fun i => cnt (S.1 i).length (fun j => bury r (S.1 i) j)))))] [] M := by
      refine hb56 _ _ _ ?_
      simp (maxSteps := 2000000) [bk_X4_buriedCards_0, bk_X4_buriedCards_4, bk_X4_buriedCards_17, bk_X4_buriedCards_41, bk_X4_buriedCards_42, bk_X4_buriedCards_50, bk_X4_buriedCards_56, pm_arr, pm_call, pm_e_c0, pm_e_c1, pm_e_cti, pm_e_ctl, pm_e_ctr, pm_e_go, pm_e_i, pm_e_ii, pm_e_ldi, pm_e_ldr, pm_e_lk, pm_e_r, pm_e_ri, pm_e_rm0, pm_e_rm1, pm_e_rs0, pm_e_rs1, pm_e_wp0, pm_e_wp1, pm_f2, pm_f3, pm_fld, pm_fv, pm_obj, pm_recv, pm_s_aload_n, pm_s_getfield, pm_s_goto, pm_s_iadd, pm_s_iaload, pm_s_iconst, pm_s_ifCond_eq, pm_s_if_icmp_ge, pm_s_iinc, pm_s_iload_n, pm_s_invokevirtual, pm_s_ireturn, pm_s_istore_n, ct_X4_buriedCards, pS, pR, pC, pE, pL, -Int32.not_le, -Int32.not_lt, -Int64.not_le, -Int64.not_lt, -List.getD_eq_getElem?_getD]
      exact hT
    have loop : ∀ (f i : Nat), c ≤ i + f → i ≤ c → X 4 [(0, .ref p), (1, .int (nI (sumN i (fun i => cnt (S.1 i).length (fun j => bury r (S.1 i) j))))), (2, .int (nI i))] [] M := by
      intro f
      induction f with
      | zero =>
        intro i f1 f2
        have e1 : i = c := by omega
        subst e1
        refine hb4 _ _ _ ?_
        simp (maxSteps := 2000000) [bk_X4_buriedCards_0, bk_X4_buriedCards_4, bk_X4_buriedCards_17, bk_X4_buriedCards_41, bk_X4_buriedCards_42, bk_X4_buriedCards_50, bk_X4_buriedCards_56, pm_arr, pm_call, pm_e_c0, pm_e_c1, pm_e_cti, pm_e_ctl, pm_e_ctr, pm_e_go, pm_e_i, pm_e_ii, pm_e_ldi, pm_e_ldr, pm_e_lk, pm_e_r, pm_e_ri, pm_e_rm0, pm_e_rm1, pm_e_rs0, pm_e_rs1, pm_e_wp0, pm_e_wp1, pm_f2, pm_f3, pm_fld, pm_fv, pm_obj, pm_recv, pm_s_aload_n, pm_s_getfield, pm_s_goto, pm_s_iadd, pm_s_iaload, pm_s_iconst, pm_s_ifCond_eq, pm_s_if_icmp_ge, pm_s_iinc, pm_s_iload_n, pm_s_invokevirtual, pm_s_ireturn, pm_s_istore_n, ct_X4_buriedCards, pS, pR, pC, pE, pL, -Int32.not_le, -Int32.not_lt, -Int64.not_le, -Int64.not_lt, -List.getD_eq_getElem?_getD, st_0 hp, sx_1, m5]
        exact out
      | succ f ih =>
        intro i f1 f2
        refine hb4 _ _ _ ?_
        simp (maxSteps := 2000000) [bk_X4_buriedCards_0, bk_X4_buriedCards_4, bk_X4_buriedCards_17, bk_X4_buriedCards_41, bk_X4_buriedCards_42, bk_X4_buriedCards_50, bk_X4_buriedCards_56, pm_arr, pm_call, pm_e_c0, pm_e_c1, pm_e_cti, pm_e_ctl, pm_e_ctr, pm_e_go, pm_e_i, pm_e_ii, pm_e_ldi, pm_e_ldr, pm_e_lk, pm_e_r, pm_e_ri, pm_e_rm0, pm_e_rm1, pm_e_rs0, pm_e_rs1, pm_e_wp0, pm_e_wp1, pm_f2, pm_f3, pm_fld, pm_fv, pm_obj, pm_recv, pm_s_aload_n, pm_s_getfield, pm_s_goto, pm_s_iadd, pm_s_iaload, pm_s_iconst, pm_s_ifCond_eq, pm_s_if_icmp_ge, pm_s_iinc, pm_s_iload_n, pm_s_invokevirtual, pm_s_ireturn, pm_s_istore_n, ct_X4_buriedCards, pS, pR, pC, pE, pL, -Int32.not_le, -Int32.not_lt, -Int64.not_le, -Int64.not_lt, -List.getD_eq_getElem?_getD, st_0 hp, sx_1, m5]
        by_cases hi : i < c
        · have hl := hS.len (show i < 4 by omega)
          simp (disch := omega) only [ni_in, ni_cl, ni_add, ni_mul, ni_sub, ni_lt, ni_le, ni_eq, ni_eq0, ni_lt0, ni_0le, ni_0lt, ni_le0, ni_a1, ni_a3, ni_a7, ni_a15]
          refine ⟨fun h => by omega, fun _ => ?_⟩
          have inner : ∀ (g j : Nat), (S.1 i).length ≤ j + g → 1 ≤ j → (j ≤ (S.1 i).length ∨ ((S.1 i).length = 0 ∧ j = 1)) → X 17 [(0, .ref p), (1, .int (nI (sumN i (fun i => cnt (S.1 i).length (fun j => bury r (S.1 i) j)) + cnt j (fun j => bury r (S.1 i) j)))), (2, .int (nI i)), (3, .int (nI j))] [] M := by
            intro g
            have done : ∀ j, (S.1 i).length ≤ j → (j ≤ (S.1 i).length ∨ ((S.1 i).length = 0 ∧ j = 1)) → X 50 [(0, .ref p), (1, .int (nI (sumN i (fun i => cnt (S.1 i).length (fun j => bury r (S.1 i) j)) + cnt j (fun j => bury r (S.1 i) j)))), (2, .int (nI i))] [] M := by
              intro j g1 g2
              refine hb50 _ _ _ ?_
              simp (maxSteps := 2000000) [bk_X4_buriedCards_0, bk_X4_buriedCards_4, bk_X4_buriedCards_17, bk_X4_buriedCards_41, bk_X4_buriedCards_42, bk_X4_buriedCards_50, bk_X4_buriedCards_56, pm_arr, pm_call, pm_e_c0, pm_e_c1, pm_e_cti, pm_e_ctl, pm_e_ctr, pm_e_go, pm_e_i, pm_e_ii, pm_e_ldi, pm_e_ldr, pm_e_lk, pm_e_r, pm_e_ri, pm_e_rm0, pm_e_rm1, pm_e_rs0, pm_e_rs1, pm_e_wp0, pm_e_wp1, pm_f2, pm_f3, pm_fld, pm_fv, pm_obj, pm_recv, pm_s_aload_n, pm_s_getfield, pm_s_goto, pm_s_iadd, pm_s_iaload, pm_s_iconst, pm_s_ifCond_eq, pm_s_if_icmp_ge, pm_s_iinc, pm_s_iload_n, pm_s_invokevirtual, pm_s_ireturn, pm_s_istore_n, ct_X4_buriedCards, pS, pR, pC, pE, pL, -Int32.not_le, -Int32.not_lt, -Int64.not_le, -Int64.not_lt, -List.getD_eq_getElem?_getD]
              simp only [ni_add]
              have := ih (i + 1) (by omega) (by omega)
              have e1 : cnt (S.1 i).length (fun j => bury r (S.1 i) j) = cnt j (fun j => bury r (S.1 i) j) := by
                rcases g2 with q | ⟨q1, q2⟩
                · rw [show j = (S.1 i).length by omega]
                · rw [q1, q2]; rfl
              rw [sumN_s i] at this
              rw [e1] at this
              exact this
            induction g with
            | zero =>
              intro j g1 g2 g3
              refine hb17 _ _ _ ?_
              simp (maxSteps := 2000000) [bk_X4_buriedCards_0, bk_X4_buriedCards_4, bk_X4_buriedCards_17, bk_X4_buriedCards_41, bk_X4_buriedCards_42, bk_X4_buriedCards_50, bk_X4_buriedCards_56, pm_arr, pm_call, pm_e_c0, pm_e_c1, pm_e_cti, pm_e_ctl, pm_e_ctr, pm_e_go, pm_e_i, pm_e_ii, pm_e_ldi, pm_e_ldr, pm_e_lk, pm_e_r, pm_e_ri, pm_e_rm0, pm_e_rm1, pm_e_rs0, pm_e_rs1, pm_e_wp0, pm_e_wp1, pm_f2, pm_f3, pm_fld, pm_fv, pm_obj, pm_recv, pm_s_aload_n, pm_s_getfield, pm_s_goto, pm_s_iadd, pm_s_iaload, pm_s_iconst, pm_s_ifCond_eq, pm_s_if_icmp_ge, pm_s_iinc, pm_s_iload_n, pm_s_invokevirtual, pm_s_ireturn, pm_s_istore_n, ct_X4_buriedCards, pS, pR, pC, pE, pL, -Int32.not_le, -Int32.not_lt, -Int64.not_le, -Int64.not_lt, -List.getD_eq_getElem?_getD, st_0 hp, st_2 hp]
              simp (disch := omega) only [ni_in, ni_cl, ni_add, ni_mul, ni_sub, ni_lt, ni_le, ni_eq, ni_eq0, ni_lt0, ni_0le, ni_0lt, ni_le0, ni_a1, ni_a3, ni_a7, ni_a15, hS.n (show i < 4 by omega)]
              exact ⟨by omega, fun _ => done j g1 g3, fun h => by omega⟩
            | succ g ihg =>
              intro j g1 g2 g3
              refine hb17 _ _ _ ?_
              simp (maxSteps := 2000000) [bk_X4_buriedCards_0, bk_X4_buriedCards_4, bk_X4_buriedCards_17, bk_X4_buriedCards_41, bk_X4_buriedCards_42, bk_X4_buriedCards_50, bk_X4_buriedCards_56, pm_arr, pm_call, pm_e_c0, pm_e_c1, pm_e_cti, pm_e_ctl, pm_e_ctr, pm_e_go, pm_e_i, pm_e_ii, pm_e_ldi, pm_e_ldr, pm_e_lk, pm_e_r, pm_e_ri, pm_e_rm0, pm_e_rm1, pm_e_rs0, pm_e_rs1, pm_e_wp0, pm_e_wp1, pm_f2, pm_f3, pm_fld, pm_fv, pm_obj, pm_recv, pm_s_aload_n, pm_s_getfield, pm_s_goto, pm_s_iadd, pm_s_iaload, pm_s_iconst, pm_s_ifCond_eq, pm_s_if_icmp_ge, pm_s_iinc, pm_s_iload_n, pm_s_invokevirtual, pm_s_ireturn, pm_s_istore_n, ct_X4_buriedCards, pS, pR, pC, pE, pL, -Int32.not_le, -Int32.not_lt, -Int64.not_le, -Int64.not_lt, -List.getD_eq_getElem?_getD, st_0 hp, st_2 hp]
              simp (disch := omega) only [ni_in, ni_cl, ni_add, ni_mul, ni_sub, ni_lt, ni_le, ni_eq, ni_eq0, ni_lt0, ni_0le, ni_0lt, ni_le0, ni_a1, ni_a3, ni_a7, ni_a15, hS.n (show i < 4 by omega)]
              refine ⟨by omega, fun h => done j (by omega) g3, fun h => ?_⟩
              refine ⟨ec, S, (s, r, c, e, w), i, j, hp, rfl, rfl, hS, hD, hI, by omega, by omega, ?_⟩
              simp (maxSteps := 2000000) [bk_X4_buriedCards_0, bk_X4_buriedCards_4, bk_X4_buriedCards_17, bk_X4_buriedCards_41, bk_X4_buriedCards_42, bk_X4_buriedCards_50, bk_X4_buriedCards_56, pm_arr, pm_call, pm_e_c0, pm_e_c1, pm_e_cti, pm_e_ctl, pm_e_ctr, pm_e_go, pm_e_i, pm_e_ii, pm_e_ldi, pm_e_ldr, pm_e_lk, pm_e_r, pm_e_ri, pm_e_rm0, pm_e_rm1, pm_e_rs0, pm_e_rs1, pm_e_wp0, pm_e_wp1, pm_f2, pm_f3, pm_fld, pm_fv, pm_obj, pm_recv, pm_s_aload_n, pm_s_getfield, pm_s_goto, pm_s_iadd, pm_s_iaload, pm_s_iconst, pm_s_ifCond_eq, pm_s_if_icmp_ge, pm_s_iinc, pm_s_iload_n, pm_s_invokevirtual, pm_s_ireturn, pm_s_istore_n, ct_X4_buriedCards, pS, pR, pC, pE, pL, -Int32.not_le, -Int32.not_lt, -Int64.not_le, -Int64.not_lt, -List.getD_eq_getElem?_getD, pb_eq0]
              refine ⟨fun hb => ?_, fun hb => ?_⟩
              · refine hb41 _ _ _ ?_
                simp (maxSteps := 2000000) [bk_X4_buriedCards_0, bk_X4_buriedCards_4, bk_X4_buriedCards_17, bk_X4_buriedCards_41, bk_X4_buriedCards_42, bk_X4_buriedCards_50, bk_X4_buriedCards_56, pm_arr, pm_call, pm_e_c0, pm_e_c1, pm_e_cti, pm_e_ctl, pm_e_ctr, pm_e_go, pm_e_i, pm_e_ii, pm_e_ldi, pm_e_ldr, pm_e_lk, pm_e_r, pm_e_ri, pm_e_rm0, pm_e_rm1, pm_e_rs0, pm_e_rs1, pm_e_wp0, pm_e_wp1, pm_f2, pm_f3, pm_fld, pm_fv, pm_obj, pm_recv, pm_s_aload_n, pm_s_getfield, pm_s_goto, pm_s_iadd, pm_s_iaload, pm_s_iconst, pm_s_ifCond_eq, pm_s_if_icmp_ge, pm_s_iinc, pm_s_iload_n, pm_s_invokevirtual, pm_s_ireturn, pm_s_istore_n, ct_X4_buriedCards, pS, pR, pC, pE, pL, -Int32.not_le, -Int32.not_lt, -Int64.not_le, -Int64.not_lt, -List.getD_eq_getElem?_getD]
                refine hb42 _ _ _ ?_
                simp (maxSteps := 2000000) [bk_X4_buriedCards_0, bk_X4_buriedCards_4, bk_X4_buriedCards_17, bk_X4_buriedCards_41, bk_X4_buriedCards_42, bk_X4_buriedCards_50, bk_X4_buriedCards_56, pm_arr, pm_call, pm_e_c0, pm_e_c1, pm_e_cti, pm_e_ctl, pm_e_ctr, pm_e_go, pm_e_i, pm_e_ii, pm_e_ldi, pm_e_ldr, pm_e_lk, pm_e_r, pm_e_ri, pm_e_rm0, pm_e_rm1, pm_e_rs0, pm_e_rs1, pm_e_wp0, pm_e_wp1, pm_f2, pm_f3, pm_fld, pm_fv, pm_obj, pm_recv, pm_s_aload_n, pm_s_getfield, pm_s_goto, pm_s_iadd, pm_s_iaload, pm_s_iconst, pm_s_ifCond_eq, pm_s_if_icmp_ge, pm_s_iinc, pm_s_iload_n, pm_s_invokevirtual, pm_s_ireturn, pm_s_istore_n, ct_X4_buriedCards, pS, pR, pC, pE, pL, -Int32.not_le, -Int32.not_lt, -Int64.not_le, -Int64.not_lt, -List.getD_eq_getElem?_getD]
                simp only [ni_add]
                have := ihg (j + 1) (by omega) (by omega) (by omega)
                rw [cnt_s j] at this
                rw [if_neg (by rw [hb]; decide)] at this
                exact this
              · refine hb42 _ _ _ ?_
                simp (maxSteps := 2000000) [bk_X4_buriedCards_0, bk_X4_buriedCards_4, bk_X4_buriedCards_17, bk_X4_buriedCards_41, bk_X4_buriedCards_42, bk_X4_buriedCards_50, bk_X4_buriedCards_56, pm_arr, pm_call, pm_e_c0, pm_e_c1, pm_e_cti, pm_e_ctl, pm_e_ctr, pm_e_go, pm_e_i, pm_e_ii, pm_e_ldi, pm_e_ldr, pm_e_lk, pm_e_r, pm_e_ri, pm_e_rm0, pm_e_rm1, pm_e_rs0, pm_e_rs1, pm_e_wp0, pm_e_wp1, pm_f2, pm_f3, pm_fld, pm_fv, pm_obj, pm_recv, pm_s_aload_n, pm_s_getfield, pm_s_goto, pm_s_iadd, pm_s_iaload, pm_s_iconst, pm_s_ifCond_eq, pm_s_if_icmp_ge, pm_s_iinc, pm_s_iload_n, pm_s_invokevirtual, pm_s_ireturn, pm_s_istore_n, ct_X4_buriedCards, pS, pR, pC, pE, pL, -Int32.not_le, -Int32.not_lt, -Int64.not_le, -Int64.not_lt, -List.getD_eq_getElem?_getD]
                simp only [ni_add]
                have := ihg (j + 1) (by omega) (by omega) (by omega)
                rw [cnt_s j] at this
                rw [if_pos hb, ← Nat.add_assoc] at this
                exact this
          have := inner (S.1 i).length 1 (by omega) (by omega) (by omega)
          have e0 : cnt 1 (fun j => bury r (S.1 i) j) = 0 := by simp [cnt, bury, anyN]
          rw [e0] at this
          exact this
        · have e1 : i = c := by omega
          subst e1
          simp (disch := omega) only [ni_in, ni_cl, ni_add, ni_mul, ni_sub, ni_lt, ni_le, ni_eq, ni_eq0, ni_lt0, ni_0le, ni_0lt, ni_le0, ni_a1, ni_a3, ni_a7, ni_a15]
          exact ⟨fun _ => out, fun h => by omega⟩
    refine hb0 _ _ _ ?_
    simp (maxSteps := 2000000) [bk_X4_buriedCards_0, bk_X4_buriedCards_4, bk_X4_buriedCards_17, bk_X4_buriedCards_41, bk_X4_buriedCards_42, bk_X4_buriedCards_50, bk_X4_buriedCards_56, pm_arr, pm_call, pm_e_c0, pm_e_c1, pm_e_cti, pm_e_ctl, pm_e_ctr, pm_e_go, pm_e_i, pm_e_ii, pm_e_ldi, pm_e_ldr, pm_e_lk, pm_e_r, pm_e_ri, pm_e_rm0, pm_e_rm1, pm_e_rs0, pm_e_rs1, pm_e_wp0, pm_e_wp1, pm_f2, pm_f3, pm_fld, pm_fv, pm_obj, pm_recv, pm_s_aload_n, pm_s_getfield, pm_s_goto, pm_s_iadd, pm_s_iaload, pm_s_iconst, pm_s_ifCond_eq, pm_s_if_icmp_ge, pm_s_iinc, pm_s_iload_n, pm_s_invokevirtual, pm_s_ireturn, pm_s_istore_n, ct_X4_buriedCards, pS, pR, pC, pE, pL, -Int32.not_le, -Int32.not_lt, -Int64.not_le, -Int64.not_lt, -List.getD_eq_getElem?_getD, lv_args]
    exact loop c 0 (by omega) (by omega)
  · exact hT.elim
def safeF (P : Pm) (S : St) (d : Nat) : Bool :=
  if pL P = 1 then true else if pL P = 0 ∨ pL P = 2 then !(anyN (pS P) (fun t => (decide (pL P = 0) || !decide (t % 2 = su (pR P) d % 2)) && decide (S.2.2 t < ra (pR P) d - 1))) else false
def tt_X4_isSafe : pm_T := fun args M k => match args with
  | [.ref p, .int x] => ∃ ec S P d, isSt p ∧ x = nI d ∧ SdX M p ec S ∧ DkX M P ∧ (1 ≤ d ∧ d ≤ pS P * pR P) ∧ k (some (.int (pb (safeF P S d)))) M
  | _ => False
abbrev ct_X4_isSafe : List pm_C := [(false, 134, 0, 3, (some .boolean), tt_X0_suitsTurn)]
set_option maxHeartbeats 4000000 in
theorem sm_X4_isSafe  : pm_Sem SHx yX4_isSafe cX4_isSafe 4 (some .boolean) 2 tt_X4_isSafe := by
  refine pm_Sem_intro bl_X4_isSafe ct_X4_isSafe cs_X4_isSafe rfl (List.forall_mem_cons.mpr ⟨⟨_, _, _, _, sm_X0_suitsTurn, by decide, cm_X0_suitsTurn, by decide +kernel⟩, fun _ h => absurd h List.not_mem_nil⟩) ck_X4_isSafe (by decide +kernel) (by decide) ?_
  intro X k hX args M hT
  have hb0 := hX 0 bk_X4_isSafe_0 (List.mem_of_getElem? (i := 0) rfl)
  have hb13 := hX 13 bk_X4_isSafe_13 (List.mem_of_getElem? (i := 1) rfl)
  have hb36 := hX 36 bk_X4_isSafe_36 (List.mem_of_getElem? (i := 2) rfl)
  have hb38 := hX 38 bk_X4_isSafe_38 (List.mem_of_getElem? (i := 3) rfl)
  have hb79 := hX 79 bk_X4_isSafe_79 (List.mem_of_getElem? (i := 4) rfl)
  have hb83 := hX 83 bk_X4_isSafe_83 (List.mem_of_getElem? (i := 5) rfl)
  have hb84 := hX 84 bk_X4_isSafe_84 (List.mem_of_getElem? (i := 6) rfl)
  have hb111 := hX 111 bk_X4_isSafe_111 (List.mem_of_getElem? (i := 7) rfl)
  have hb117 := hX 117 bk_X4_isSafe_117 (List.mem_of_getElem? (i := 8) rfl)
  clear hX
  unfold tt_X4_isSafe at hT; split at hT
  · next p x =>
    obtain ⟨ec, S, ⟨s, r, c, e, w⟩, d, hp, rfl, hS, hD, ⟨d1, d2⟩, hT⟩ := hT
    have hP := hD.1.1
    obtain ⟨m3, m4, m5, m6, m7⟩ := hD.1.2.1
    have md := hD.1.2.2 d d1 d2
    obtain ⟨h1, h2, h3, h4, h5, h6, h7, h8, h9⟩ := hP
    unfold safeF at hT
    dsimp only [pS, pR, pC, pE, pL] at *
    have sd := su_lt h3 d1 d2
    have rd := ra_le (n := d) h3
    have gd := ra_ge (r := r) (n := d)
    refine ⟨by simp [lg_sl, Value.category], ?_⟩
    have h36 : w = 0 ∨ w = 2 → X 36 [(0, .ref p), (1, .int (nI d))] [] M := by
      intro hw
      rw [if_neg (by omega), if_pos hw] at hT
      generalize hq : (fun t => (decide (w = 0) || !decide (t % 2 = su r d % 2)) && decide (S.2.2 t < ra r d - 1)) = q at hT
      have hqt : ∀ t, q t = ((decide (w = 0) || !decide (t % 2 = su r d % 2)) && decide (S.2.2 t < ra r d - 1)) := fun t => by rw [← hq]
      have loop : ∀ (f t : Nat), s ≤ t + f → t ≤ s → (∀ b, b < t → q b = false) → X 38 [(0, .ref p), (1, .int (nI d)), (2, .int (nI t))] [] M := by
        intro f
        have out : (∀ b, b < s → q b = false) → X 117 [] [] M := by
          intro hA
          refine hb117 _ _ _ ?_
          simp (maxSteps := 2000000) [bk_X4_isSafe_0, bk_X4_isSafe_13, bk_X4_isSafe_36, bk_X4_isSafe_38, bk_X4_isSafe_79, bk_X4_isSafe_83, bk_X4_isSafe_84, bk_X4_isSafe_111, bk_X4_isSafe_117, pm_arr, pm_call, pm_e_c0, pm_e_c1, pm_e_cti, pm_e_ctl, pm_e_ctr, pm_e_go, pm_e_i, pm_e_ii, pm_e_ldi, pm_e_ldr, pm_e_lk, pm_e_r, pm_e_ri, pm_e_rm0, pm_e_rm1, pm_e_rs0, pm_e_rs1, pm_e_wp0, pm_e_wp1, pm_f2, pm_f3, pm_fld, pm_fv, pm_obj, pm_recv, pm_s_aload_n, pm_s_getfield, pm_s_goto, pm_s_iaload, pm_s_iconst, pm_s_ifCond_eq, pm_s_if_icmp_eq, pm_s_if_icmp_ge, pm_s_if_icmp_ne, pm_s_iinc, pm_s_iload_n, pm_s_invokevirtual, pm_s_ireturn, pm_s_istore_n, pm_s_isub, ct_X4_isSafe, tt_X0_suitsTurn, pS, pR, pC, pE, pL, -Int32.not_le, -Int32.not_lt, -Int64.not_le, -Int64.not_lt, -List.getD_eq_getElem?_getD, ni_1]
          rw [anyN_no hA] at hT; exact hT
        induction f with
        | zero =>
          intro t f1 f2 hA
          have e1 : t = s := by omega
          subst e1
          refine hb38 _ _ _ ?_
          simp (maxSteps := 2000000) [bk_X4_isSafe_0, bk_X4_isSafe_13, bk_X4_isSafe_36, bk_X4_isSafe_38, bk_X4_isSafe_79, bk_X4_isSafe_83, bk_X4_isSafe_84, bk_X4_isSafe_111, bk_X4_isSafe_117, pm_arr, pm_call, pm_e_c0, pm_e_c1, pm_e_cti, pm_e_ctl, pm_e_ctr, pm_e_go, pm_e_i, pm_e_ii, pm_e_ldi, pm_e_ldr, pm_e_lk, pm_e_r, pm_e_ri, pm_e_rm0, pm_e_rm1, pm_e_rs0, pm_e_rs1, pm_e_wp0, pm_e_wp1, pm_f2, pm_f3, pm_fld, pm_fv, pm_obj, pm_recv, pm_s_aload_n, pm_s_getfield, pm_s_goto, pm_s_iaload, pm_s_iconst, pm_s_ifCond_eq, pm_s_if_icmp_eq, pm_s_if_icmp_ge, pm_s_if_icmp_ne, pm_s_iinc, pm_s_iload_n, pm_s_invokevirtual, pm_s_ireturn, pm_s_istore_n, pm_s_isub, ct_X4_isSafe, tt_X0_suitsTurn, pS, pR, pC, pE, pL, -Int32.not_le, -Int32.not_lt, -Int64.not_le, -Int64.not_lt, -List.getD_eq_getElem?_getD, st_0 hp, sx_1, m3]
          exact out hA
        | succ f ih =>
          intro t f1 f2 hA
          by_cases ht : t < s
          · have hh := hS.1.2.2 t (by omega)
            have h111 : q t = false → X 111 [(0, .ref p), (1, .int (nI d)), (2, .int (nI t))] [] M := by
              intro hq
              refine hb111 _ _ _ ?_
              simp (maxSteps := 2000000) [bk_X4_isSafe_0, bk_X4_isSafe_13, bk_X4_isSafe_36, bk_X4_isSafe_38, bk_X4_isSafe_79, bk_X4_isSafe_83, bk_X4_isSafe_84, bk_X4_isSafe_111, bk_X4_isSafe_117, pm_arr, pm_call, pm_e_c0, pm_e_c1, pm_e_cti, pm_e_ctl, pm_e_ctr, pm_e_go, pm_e_i, pm_e_ii, pm_e_ldi, pm_e_ldr, pm_e_lk, pm_e_r, pm_e_ri, pm_e_rm0, pm_e_rm1, pm_e_rs0, pm_e_rs1, pm_e_wp0, pm_e_wp1, pm_f2, pm_f3, pm_fld, pm_fv, pm_obj, pm_recv, pm_s_aload_n, pm_s_getfield, pm_s_goto, pm_s_iaload, pm_s_iconst, pm_s_ifCond_eq, pm_s_if_icmp_eq, pm_s_if_icmp_ge, pm_s_if_icmp_ne, pm_s_iinc, pm_s_iload_n, pm_s_invokevirtual, pm_s_ireturn, pm_s_istore_n, pm_s_isub, ct_X4_isSafe, tt_X0_suitsTurn, pS, pR, pC, pE, pL, -Int32.not_le, -Int32.not_lt, -Int64.not_le, -Int64.not_lt, -List.getD_eq_getElem?_getD]
              simp only [ni_add]
              refine ih (t + 1) (by omega) (by omega) (fun b hb => ?_)
              rcases Nat.lt_or_ge b t with z | z
              · exact hA b z
              · have : b = t := by omega
                subst this; exact hq
            have h84 : ∀ b : Bool, b = (decide (w = 0) || !decide (t % 2 = su r d % 2)) → X 84 [(0, .ref p), (1, .int (nI d)), (2, .int (nI t))] [.int (pb b)] M := by
              intro b eb
              refine hb84 _ _ _ ?_
              simp (maxSteps := 2000000) [bk_X4_isSafe_0, bk_X4_isSafe_13, bk_X4_isSafe_36, bk_X4_isSafe_38, bk_X4_isSafe_79, bk_X4_isSafe_83, bk_X4_isSafe_84, bk_X4_isSafe_111, bk_X4_isSafe_117, pm_arr, pm_call, pm_e_c0, pm_e_c1, pm_e_cti, pm_e_ctl, pm_e_ctr, pm_e_go, pm_e_i, pm_e_ii, pm_e_ldi, pm_e_ldr, pm_e_lk, pm_e_r, pm_e_ri, pm_e_rm0, pm_e_rm1, pm_e_rs0, pm_e_rs1, pm_e_wp0, pm_e_wp1, pm_f2, pm_f3, pm_fld, pm_fv, pm_obj, pm_recv, pm_s_aload_n, pm_s_getfield, pm_s_goto, pm_s_iaload, pm_s_iconst, pm_s_ifCond_eq, pm_s_if_icmp_eq, pm_s_if_icmp_ge, pm_s_if_icmp_ne, pm_s_iinc, pm_s_iload_n, pm_s_invokevirtual, pm_s_ireturn, pm_s_istore_n, pm_s_isub, ct_X4_isSafe, tt_X0_suitsTurn, pS, pR, pC, pE, pL, -Int32.not_le, -Int32.not_lt, -Int64.not_le, -Int64.not_lt, -List.getD_eq_getElem?_getD, pb_eq0, st_0 hp, st_4 hp, sx_1, sx_3]
              simp (disch := omega) only [ni_in, ni_cl, ni_add, ni_mul, ni_sub, ni_lt, ni_le, ni_eq, ni_eq0, ni_lt0, ni_0le, ni_0lt, ni_le0, ni_a1, ni_a3, ni_a7, ni_a15, hS.h (show t < 4 by omega), md.2]
              refine ⟨fun hb => h111 (by rw [hqt, ← eb, hb]; rfl), fun hb => ?_⟩
              repeat refine ⟨by omega, ?_⟩
              refine ⟨fun h => h111 (by rw [hqt, ← eb, hb, decide_eq_false (by omega)]; rfl), fun h => ?_⟩
              have : anyN s q = true := anyN_iff.mpr ⟨t, ht, by rw [hqt, ← eb, hb, decide_eq_true (by omega)]; rfl⟩
              rw [this] at hT
              first | exact hT | exact ⟨Or.inl rfl, hT⟩ | exact ⟨Or.inr rfl, hT⟩ | exact ⟨Or.inl trivial, hT⟩ | exact ⟨Or.inr trivial, hT⟩
            refine hb38 _ _ _ ?_
            simp (maxSteps := 2000000) [bk_X4_isSafe_0, bk_X4_isSafe_13, bk_X4_isSafe_36, bk_X4_isSafe_38, bk_X4_isSafe_79, bk_X4_isSafe_83, bk_X4_isSafe_84, bk_X4_isSafe_111, bk_X4_isSafe_117, pm_arr, pm_call, pm_e_c0, pm_e_c1, pm_e_cti, pm_e_ctl, pm_e_ctr, pm_e_go, pm_e_i, pm_e_ii, pm_e_ldi, pm_e_ldr, pm_e_lk, pm_e_r, pm_e_ri, pm_e_rm0, pm_e_rm1, pm_e_rs0, pm_e_rs1, pm_e_wp0, pm_e_wp1, pm_f2, pm_f3, pm_fld, pm_fv, pm_obj, pm_recv, pm_s_aload_n, pm_s_getfield, pm_s_goto, pm_s_iaload, pm_s_iconst, pm_s_ifCond_eq, pm_s_if_icmp_eq, pm_s_if_icmp_ge, pm_s_if_icmp_ne, pm_s_iinc, pm_s_iload_n, pm_s_invokevirtual, pm_s_ireturn, pm_s_istore_n, pm_s_isub, ct_X4_isSafe, tt_X0_suitsTurn, pS, pR, pC, pE, pL, -Int32.not_le, -Int32.not_lt, -Int64.not_le, -Int64.not_lt, -List.getD_eq_getElem?_getD, st_0 hp, sx_1, sx_2, m3, m7]
            simp (disch := omega) only [ni_in, ni_cl, ni_add, ni_mul, ni_sub, ni_lt, ni_le, ni_eq, ni_eq0, ni_lt0, ni_0le, ni_0lt, ni_le0, ni_a1, ni_a3, ni_a7, ni_a15, md.1]
            refine ⟨fun h => by omega, fun _ => ⟨fun h => ?_, fun h => ?_⟩⟩
            · refine hb79 _ _ _ ?_
              simp (maxSteps := 2000000) [bk_X4_isSafe_0, bk_X4_isSafe_13, bk_X4_isSafe_36, bk_X4_isSafe_38, bk_X4_isSafe_79, bk_X4_isSafe_83, bk_X4_isSafe_84, bk_X4_isSafe_111, bk_X4_isSafe_117, pm_arr, pm_call, pm_e_c0, pm_e_c1, pm_e_cti, pm_e_ctl, pm_e_ctr, pm_e_go, pm_e_i, pm_e_ii, pm_e_ldi, pm_e_ldr, pm_e_lk, pm_e_r, pm_e_ri, pm_e_rm0, pm_e_rm1, pm_e_rs0, pm_e_rs1, pm_e_wp0, pm_e_wp1, pm_f2, pm_f3, pm_fld, pm_fv, pm_obj, pm_recv, pm_s_aload_n, pm_s_getfield, pm_s_goto, pm_s_iaload, pm_s_iconst, pm_s_ifCond_eq, pm_s_if_icmp_eq, pm_s_if_icmp_ge, pm_s_if_icmp_ne, pm_s_iinc, pm_s_iload_n, pm_s_invokevirtual, pm_s_ireturn, pm_s_istore_n, pm_s_isub, ct_X4_isSafe, tt_X0_suitsTurn, pS, pR, pC, pE, pL, -Int32.not_le, -Int32.not_lt, -Int64.not_le, -Int64.not_lt, -List.getD_eq_getElem?_getD]
              exact h84 true (by simp [h])
            · refine ⟨by omega, ?_⟩
              simp only [pb_eq0]
              refine ⟨fun h' => ?_, fun h' => ?_⟩
              · refine hb83 _ _ _ ?_
                simp (maxSteps := 2000000) [bk_X4_isSafe_0, bk_X4_isSafe_13, bk_X4_isSafe_36, bk_X4_isSafe_38, bk_X4_isSafe_79, bk_X4_isSafe_83, bk_X4_isSafe_84, bk_X4_isSafe_111, bk_X4_isSafe_117, pm_arr, pm_call, pm_e_c0, pm_e_c1, pm_e_cti, pm_e_ctl, pm_e_ctr, pm_e_go, pm_e_i, pm_e_ii, pm_e_ldi, pm_e_ldr, pm_e_lk, pm_e_r, pm_e_ri, pm_e_rm0, pm_e_rm1, pm_e_rs0, pm_e_rs1, pm_e_wp0, pm_e_wp1, pm_f2, pm_f3, pm_fld, pm_fv, pm_obj, pm_recv, pm_s_aload_n, pm_s_getfield, pm_s_goto, pm_s_iaload, pm_s_iconst, pm_s_ifCond_eq, pm_s_if_icmp_eq, pm_s_if_icmp_ge, pm_s_if_icmp_ne, pm_s_iinc, pm_s_iload_n, pm_s_invokevirtual, pm_s_ireturn, pm_s_istore_n, pm_s_isub, ct_X4_isSafe, tt_X0_suitsTurn, pS, pR, pC, pE, pL, -Int32.not_le, -Int32.not_lt, -Int64.not_le, -Int64.not_lt, -List.getD_eq_getElem?_getD]
                exact h84 false (by rw [decide_eq_false h, Bool.false_or, h'])
              · refine hb79 _ _ _ ?_
                simp (maxSteps := 2000000) [bk_X4_isSafe_0, bk_X4_isSafe_13, bk_X4_isSafe_36, bk_X4_isSafe_38, bk_X4_isSafe_79, bk_X4_isSafe_83, bk_X4_isSafe_84, bk_X4_isSafe_111, bk_X4_isSafe_117, pm_arr, pm_call, pm_e_c0, pm_e_c1, pm_e_cti, pm_e_ctl, pm_e_ctr, pm_e_go, pm_e_i, pm_e_ii, pm_e_ldi, pm_e_ldr, pm_e_lk, pm_e_r, pm_e_ri, pm_e_rm0, pm_e_rm1, pm_e_rs0, pm_e_rs1, pm_e_wp0, pm_e_wp1, pm_f2, pm_f3, pm_fld, pm_fv, pm_obj, pm_recv, pm_s_aload_n, pm_s_getfield, pm_s_goto, pm_s_iaload, pm_s_iconst, pm_s_ifCond_eq, pm_s_if_icmp_eq, pm_s_if_icmp_ge, pm_s_if_icmp_ne, pm_s_iinc, pm_s_iload_n, pm_s_invokevirtual, pm_s_ireturn, pm_s_istore_n, pm_s_isub, ct_X4_isSafe, tt_X0_suitsTurn, pS, pR, pC, pE, pL, -Int32.not_le, -Int32.not_lt, -Int64.not_le, -Int64.not_lt, -List.getD_eq_getElem?_getD]
                have h'' : (!decide (t % 2 = su r d % 2)) = true := by simpa using h'
                exact h84 true (by rw [h'']; simp)
          · have e1 : t = s := by omega
            subst e1
            refine hb38 _ _ _ ?_
            simp (maxSteps := 2000000) [bk_X4_isSafe_0, bk_X4_isSafe_13, bk_X4_isSafe_36, bk_X4_isSafe_38, bk_X4_isSafe_79, bk_X4_isSafe_83, bk_X4_isSafe_84, bk_X4_isSafe_111, bk_X4_isSafe_117, pm_arr, pm_call, pm_e_c0, pm_e_c1, pm_e_cti, pm_e_ctl, pm_e_ctr, pm_e_go, pm_e_i, pm_e_ii, pm_e_ldi, pm_e_ldr, pm_e_lk, pm_e_r, pm_e_ri, pm_e_rm0, pm_e_rm1, pm_e_rs0, pm_e_rs1, pm_e_wp0, pm_e_wp1, pm_f2, pm_f3, pm_fld, pm_fv, pm_obj, pm_recv, pm_s_aload_n, pm_s_getfield, pm_s_goto, pm_s_iaload, pm_s_iconst, pm_s_ifCond_eq, pm_s_if_icmp_eq, pm_s_if_icmp_ge, pm_s_if_icmp_ne, pm_s_iinc, pm_s_iload_n, pm_s_invokevirtual, pm_s_ireturn, pm_s_istore_n, pm_s_isub, ct_X4_isSafe, tt_X0_suitsTurn, pS, pR, pC, pE, pL, -Int32.not_le, -Int32.not_lt, -Int64.not_le, -Int64.not_lt, -List.getD_eq_getElem?_getD, st_0 hp, sx_1, m3]
            exact out hA
      refine hb36 _ _ _ ?_
      simp (maxSteps := 2000000) [bk_X4_isSafe_0, bk_X4_isSafe_13, bk_X4_isSafe_36, bk_X4_isSafe_38, bk_X4_isSafe_79, bk_X4_isSafe_83, bk_X4_isSafe_84, bk_X4_isSafe_111, bk_X4_isSafe_117, pm_arr, pm_call, pm_e_c0, pm_e_c1, pm_e_cti, pm_e_ctl, pm_e_ctr, pm_e_go, pm_e_i, pm_e_ii, pm_e_ldi, pm_e_ldr, pm_e_lk, pm_e_r, pm_e_ri, pm_e_rm0, pm_e_rm1, pm_e_rs0, pm_e_rs1, pm_e_wp0, pm_e_wp1, pm_f2, pm_f3, pm_fld, pm_fv, pm_obj, pm_recv, pm_s_aload_n, pm_s_getfield, pm_s_goto, pm_s_iaload, pm_s_iconst, pm_s_ifCond_eq, pm_s_if_icmp_eq, pm_s_if_icmp_ge, pm_s_if_icmp_ne, pm_s_iinc, pm_s_iload_n, pm_s_invokevirtual, pm_s_ireturn, pm_s_istore_n, pm_s_isub, ct_X4_isSafe, tt_X0_suitsTurn, pS, pR, pC, pE, pL, -Int32.not_le, -Int32.not_lt, -Int64.not_le, -Int64.not_lt, -List.getD_eq_getElem?_getD]
      exact loop s 0 (by omega) (by omega) (fun b hb => by omega)
    refine hb0 _ _ _ ?_
    simp (maxSteps := 2000000) [bk_X4_isSafe_0, bk_X4_isSafe_13, bk_X4_isSafe_36, bk_X4_isSafe_38, bk_X4_isSafe_79, bk_X4_isSafe_83, bk_X4_isSafe_84, bk_X4_isSafe_111, bk_X4_isSafe_117, pm_arr, pm_call, pm_e_c0, pm_e_c1, pm_e_cti, pm_e_ctl, pm_e_ctr, pm_e_go, pm_e_i, pm_e_ii, pm_e_ldi, pm_e_ldr, pm_e_lk, pm_e_r, pm_e_ri, pm_e_rm0, pm_e_rm1, pm_e_rs0, pm_e_rs1, pm_e_wp0, pm_e_wp1, pm_f2, pm_f3, pm_fld, pm_fv, pm_obj, pm_recv, pm_s_aload_n, pm_s_getfield, pm_s_goto, pm_s_iaload, pm_s_iconst, pm_s_ifCond_eq, pm_s_if_icmp_eq, pm_s_if_icmp_ge, pm_s_if_icmp_ne, pm_s_iinc, pm_s_iload_n, pm_s_invokevirtual, pm_s_ireturn, pm_s_istore_n, pm_s_isub, ct_X4_isSafe, tt_X0_suitsTurn, pS, pR, pC, pE, pL, -Int32.not_le, -Int32.not_lt, -Int64.not_le, -Int64.not_lt, -List.getD_eq_getElem?_getD, lv_args, st_0 hp, sx_1, m7]
    simp (disch := omega) only [ni_in, ni_cl, ni_add, ni_mul, ni_sub, ni_lt, ni_le, ni_eq, ni_eq0, ni_lt0, ni_0le, ni_0lt, ni_le0, ni_a1, ni_a3, ni_a7, ni_a15]
    refine ⟨fun hw1 => ?_, fun hw1 => ?_⟩
    · refine hb13 _ _ _ ?_
      simp (maxSteps := 2000000) [bk_X4_isSafe_0, bk_X4_isSafe_13, bk_X4_isSafe_36, bk_X4_isSafe_38, bk_X4_isSafe_79, bk_X4_isSafe_83, bk_X4_isSafe_84, bk_X4_isSafe_111, bk_X4_isSafe_117, pm_arr, pm_call, pm_e_c0, pm_e_c1, pm_e_cti, pm_e_ctl, pm_e_ctr, pm_e_go, pm_e_i, pm_e_ii, pm_e_ldi, pm_e_ldr, pm_e_lk, pm_e_r, pm_e_ri, pm_e_rm0, pm_e_rm1, pm_e_rs0, pm_e_rs1, pm_e_wp0, pm_e_wp1, pm_f2, pm_f3, pm_fld, pm_fv, pm_obj, pm_recv, pm_s_aload_n, pm_s_getfield, pm_s_goto, pm_s_iaload, pm_s_iconst, pm_s_ifCond_eq, pm_s_if_icmp_eq, pm_s_if_icmp_ge, pm_s_if_icmp_ne, pm_s_iinc, pm_s_iload_n, pm_s_invokevirtual, pm_s_ireturn, pm_s_istore_n, pm_s_isub, ct_X4_isSafe, tt_X0_suitsTurn, pS, pR, pC, pE, pL, -Int32.not_le, -Int32.not_lt, -Int64.not_le, -Int64.not_lt, -List.getD_eq_getElem?_getD, st_0 hp, sx_1, m7]
      simp (disch := omega) only [ni_in, ni_cl, ni_add, ni_mul, ni_sub, ni_lt, ni_le, ni_eq, ni_eq0, ni_lt0, ni_0le, ni_0lt, ni_le0, ni_a1, ni_a3, ni_a7, ni_a15]
      refine ⟨fun h => h36 (Or.inl h), fun h => ⟨fun h' => h36 (Or.inr h'), fun h' => ?_⟩⟩
      rw [if_neg hw1, if_neg (by omega)] at hT
      first | exact hT | exact ⟨Or.inl rfl, hT⟩ | exact ⟨Or.inr rfl, hT⟩ | exact ⟨Or.inl trivial, hT⟩ | exact ⟨Or.inr trivial, hT⟩
    · rw [if_pos hw1] at hT
      first | exact hT | exact ⟨Or.inl rfl, hT⟩ | exact ⟨Or.inr rfl, hT⟩ | exact ⟨Or.inl trivial, hT⟩ | exact ⟨Or.inr trivial, hT⟩
  · exact hT.elim
end
section
/-- a move's name, for small numbers -/
def nmN (P : Pm) (ec a b : Nat) : Bool :=
  if b = 4 then decide (a < pC P)
  else (decide (a < pC P) || (decide (4 ≤ a) && decide (a < 4 + ec))) && ((decide (b < pC P) && !decide (b = a)) || decide (b = 5))
theorem nmF_n {P : Pm} (hP : okP P) {ec a b : Nat} (he : ec ≤ 2) (ha : a < 2 ^ 30) (hb : b < 2 ^ 30) : nmF (nI (pC P)) (nI ec) (nI a) (nI b) = nmN P ec a b := by
  obtain ⟨h1, h2, h3, h4, h5, h6, h7, h8, h9⟩ := hP
  have e1 : wi (nI a) (nI 0) (nI (pC P) - nI 1) = decide (a < pC P) := by
    rw [ni_sub h6, wi_n (by omega) (by omega) (by omega)]
    by_cases q : a < pC P <;> simp [q] <;> omega
  have e2 : wi (nI b) (nI 0) (nI (pC P) - nI 1) = decide (b < pC P) := by
    rw [ni_sub h6, wi_n (by omega) (by omega) (by omega)]
    by_cases q : b < pC P <;> simp [q] <;> omega
  have e3 : wi (nI a) (nI 4) (nI 4 + nI ec - nI 1) = (decide (4 ≤ a) && decide (a < 4 + ec)) := by
    rw [ni_add, ni_sub (by omega), wi_n (by omega) (by omega) (by omega)]
    congr 1; exact decide_eq_decide.mpr (by omega)
  unfold nmF nmN
  simp only [e1, e2, e3, ni_eq (show b < 2 ^ 31 by omega) (show 4 < 2 ^ 31 by omega), ni_eq (show b < 2 ^ 31 by omega) (show a < 2 ^ 31 by omega), ni_eq (show b < 2 ^ 31 by omega) (show 5 < 2 ^ 31 by omega)]
def canN (P : Pm) (ec : Nat) (S : St) (a b : Nat) : Bool := nmN P ec a b && decide (whyF P ec S a b = 0)
theorem whyF_le (P : Pm) (ec : Nat) (S : St) (a b : Nat) : whyF P ec S a b ≤ 5 := by
  unfold whyF; repeat' split
  all_goals omega
def movesN (P : Pm) (ec : Nat) (S : St) : Nat := sumN 6 (fun a => cnt 6 (fun b => canN P ec S a b))
def tt_X4_possibleMoves : pm_T := fun args M k => match args with
  | [.ref p] => ∃ ec S P, isSt p ∧ SdX M p ec S ∧ DkX M P ∧ inD P S ∧ k (some (.int (nI (movesN P ec S)))) M
  | _ => False
abbrev ct_X4_possibleMoves : List pm_C := [(false, 96, 4, 3, (some .boolean), tt_X4_isNamed), (false, 99, 4, 3, (some .int), tt_X4_whyNot)]
set_option maxHeartbeats 4000000 in
theorem sm_X4_possibleMoves  : pm_Sem SHx yX4_possibleMoves cX4_possibleMoves 4 (some .int) 4 tt_X4_possibleMoves := by
  refine pm_Sem_intro bl_X4_possibleMoves ct_X4_possibleMoves cs_X4_possibleMoves rfl (List.forall_mem_cons.mpr ⟨⟨_, _, _, _, sm_X4_isNamed, by decide, cm_X4_isNamed, by decide +kernel⟩, List.forall_mem_cons.mpr ⟨⟨_, _, _, _, sm_X4_whyNot, by decide, cm_X4_whyNot, by decide +kernel⟩, fun _ h => absurd h List.not_mem_nil⟩⟩) ck_X4_possibleMoves (by decide +kernel) (by decide) ?_
  intro X k hX args M hT
  have hb0 := hX 0 bk_X4_possibleMoves_0 (List.mem_of_getElem? (i := 0) rfl)
  have hb4 := hX 4 bk_X4_possibleMoves_4 (List.mem_of_getElem? (i := 1) rfl)
  have hb12 := hX 12 bk_X4_possibleMoves_12 (List.mem_of_getElem? (i := 2) rfl)
  have hb41 := hX 41 bk_X4_possibleMoves_41 (List.mem_of_getElem? (i := 3) rfl)
  have hb42 := hX 42 bk_X4_possibleMoves_42 (List.mem_of_getElem? (i := 4) rfl)
  have hb50 := hX 50 bk_X4_possibleMoves_50 (List.mem_of_getElem? (i := 5) rfl)
  have hb56 := hX 56 bk_X4_possibleMoves_56 (List.mem_of_getElem? (i := 6) rfl)
  clear hX
  unfold tt_X4_possibleMoves at hT; split at hT
  · next p =>
    obtain ⟨ec, S, P, hp, hS, hD, hI, hT⟩ := hT
    have hP := hD.1.1
    have m5 := hD.1.2.1.2.2.1
    have hcc := hS.2.2.1
    unfold movesN at hT
    refine ⟨by simp [lg_sl, Value.category], ?_⟩
    have out : X 56 [(1, .int (nI (sumN 6 (fun a => cnt 6 (fun b => canN P ec S a b)))))] [] M := by
      refine hb56 _ _ _ ?_
      simp (maxSteps := 2000000) [bk_X4_possibleMoves_0, bk_X4_possibleMoves_4, bk_X4_possibleMoves_12, bk_X4_possibleMoves_41, bk_X4_possibleMoves_42, bk_X4_possibleMoves_50, bk_X4_possibleMoves_56, pm_call, pm_e_c0, pm_e_c1, pm_e_cti, pm_e_ctl, pm_e_ctr, pm_e_go, pm_e_i, pm_e_ii, pm_e_ldi, pm_e_ldr, pm_e_lk, pm_e_rm0, pm_e_rm1, pm_e_rs0, pm_e_rs1, pm_e_wp0, pm_e_wp1, pm_f2, pm_f3, pm_obj, pm_recv, pm_s_aload_n, pm_s_bipush, pm_s_goto, pm_s_iadd, pm_s_iconst, pm_s_ifCond_eq, pm_s_ifCond_ne, pm_s_if_icmp_ge, pm_s_iinc, pm_s_iload_n, pm_s_invokevirtual, pm_s_ireturn, pm_s_istore_n, ct_X4_possibleMoves, pS, pR, pC, pE, pL, -Int32.not_le, -Int32.not_lt, -Int64.not_le, -Int64.not_lt, -List.getD_eq_getElem?_getD]
      exact hT
    have loop : ∀ (f a : Nat), 6 ≤ a + f → a ≤ 6 → X 4 [(0, .ref p), (1, .int (nI (sumN a (fun a => cnt 6 (fun b => canN P ec S a b))))), (2, .int (nI a))] [] M := by
      intro f
      induction f with
      | zero =>
        intro a f1 f2
        have e1 : a = 6 := by omega
        subst e1
        refine hb4 _ _ _ ?_
        simp (maxSteps := 2000000) [bk_X4_possibleMoves_0, bk_X4_possibleMoves_4, bk_X4_possibleMoves_12, bk_X4_possibleMoves_41, bk_X4_possibleMoves_42, bk_X4_possibleMoves_50, bk_X4_possibleMoves_56, pm_call, pm_e_c0, pm_e_c1, pm_e_cti, pm_e_ctl, pm_e_ctr, pm_e_go, pm_e_i, pm_e_ii, pm_e_ldi, pm_e_ldr, pm_e_lk, pm_e_rm0, pm_e_rm1, pm_e_rs0, pm_e_rs1, pm_e_wp0, pm_e_wp1, pm_f2, pm_f3, pm_obj, pm_recv, pm_s_aload_n, pm_s_bipush, pm_s_goto, pm_s_iadd, pm_s_iconst, pm_s_ifCond_eq, pm_s_ifCond_ne, pm_s_if_icmp_ge, pm_s_iinc, pm_s_iload_n, pm_s_invokevirtual, pm_s_ireturn, pm_s_istore_n, ct_X4_possibleMoves, pS, pR, pC, pE, pL, -Int32.not_le, -Int32.not_lt, -Int64.not_le, -Int64.not_lt, -List.getD_eq_getElem?_getD]
        exact out
      | succ f ih =>
        intro a f1 f2
        refine hb4 _ _ _ ?_
        simp (maxSteps := 2000000) [bk_X4_possibleMoves_0, bk_X4_possibleMoves_4, bk_X4_possibleMoves_12, bk_X4_possibleMoves_41, bk_X4_possibleMoves_42, bk_X4_possibleMoves_50, bk_X4_possibleMoves_56, pm_call, pm_e_c0, pm_e_c1, pm_e_cti, pm_e_ctl, pm_e_ctr, pm_e_go, pm_e_i, pm_e_ii, pm_e_ldi, pm_e_ldr, pm_e_lk, pm_e_rm0, pm_e_rm1, pm_e_rs0, pm_e_rs1, pm_e_wp0, pm_e_wp1, pm_f2, pm_f3, pm_obj, pm_recv, pm_s_aload_n, pm_s_bipush, pm_s_goto, pm_s_iadd, pm_s_iconst, pm_s_ifCond_eq, pm_s_ifCond_ne, pm_s_if_icmp_ge, pm_s_iinc, pm_s_iload_n, pm_s_invokevirtual, pm_s_ireturn, pm_s_istore_n, ct_X4_possibleMoves, pS, pR, pC, pE, pL, -Int32.not_le, -Int32.not_lt, -Int64.not_le, -Int64.not_lt, -List.getD_eq_getElem?_getD]
        by_cases ha : a < 6
        · simp (disch := omega) only [ni_in, ni_cl, ni_add, ni_mul, ni_sub, ni_lt, ni_le, ni_eq, ni_eq0, ni_lt0, ni_0le, ni_0lt, ni_le0, ni_a1, ni_a3, ni_a7, ni_a15]
          refine ⟨fun h => by omega, fun _ => ?_⟩
          have inner : ∀ (g b : Nat), 6 ≤ b + g → b ≤ 6 → X 12 [(0, .ref p), (1, .int (nI (sumN a (fun a => cnt 6 (fun b => canN P ec S a b)) + cnt b (fun b => canN P ec S a b)))), (2, .int (nI a)), (3, .int (nI b))] [] M := by
            intro g
            have done : X 50 [(0, .ref p), (1, .int (nI (sumN a (fun a => cnt 6 (fun b => canN P ec S a b)) + cnt 6 (fun b => canN P ec S a b)))), (2, .int (nI a))] [] M := by
              refine hb50 _ _ _ ?_
              simp (maxSteps := 2000000) [bk_X4_possibleMoves_0, bk_X4_possibleMoves_4, bk_X4_possibleMoves_12, bk_X4_possibleMoves_41, bk_X4_possibleMoves_42, bk_X4_possibleMoves_50, bk_X4_possibleMoves_56, pm_call, pm_e_c0, pm_e_c1, pm_e_cti, pm_e_ctl, pm_e_ctr, pm_e_go, pm_e_i, pm_e_ii, pm_e_ldi, pm_e_ldr, pm_e_lk, pm_e_rm0, pm_e_rm1, pm_e_rs0, pm_e_rs1, pm_e_wp0, pm_e_wp1, pm_f2, pm_f3, pm_obj, pm_recv, pm_s_aload_n, pm_s_bipush, pm_s_goto, pm_s_iadd, pm_s_iconst, pm_s_ifCond_eq, pm_s_ifCond_ne, pm_s_if_icmp_ge, pm_s_iinc, pm_s_iload_n, pm_s_invokevirtual, pm_s_ireturn, pm_s_istore_n, ct_X4_possibleMoves, pS, pR, pC, pE, pL, -Int32.not_le, -Int32.not_lt, -Int64.not_le, -Int64.not_lt, -List.getD_eq_getElem?_getD]
              simp only [ni_add]
              exact ih (a + 1) (by omega) (by omega)
            induction g with
            | zero =>
              intro b g1 g2
              have e1 : b = 6 := by omega
              subst e1
              refine hb12 _ _ _ ?_
              simp (maxSteps := 2000000) [bk_X4_possibleMoves_0, bk_X4_possibleMoves_4, bk_X4_possibleMoves_12, bk_X4_possibleMoves_41, bk_X4_possibleMoves_42, bk_X4_possibleMoves_50, bk_X4_possibleMoves_56, pm_call, pm_e_c0, pm_e_c1, pm_e_cti, pm_e_ctl, pm_e_ctr, pm_e_go, pm_e_i, pm_e_ii, pm_e_ldi, pm_e_ldr, pm_e_lk, pm_e_rm0, pm_e_rm1, pm_e_rs0, pm_e_rs1, pm_e_wp0, pm_e_wp1, pm_f2, pm_f3, pm_obj, pm_recv, pm_s_aload_n, pm_s_bipush, pm_s_goto, pm_s_iadd, pm_s_iconst, pm_s_ifCond_eq, pm_s_ifCond_ne, pm_s_if_icmp_ge, pm_s_iinc, pm_s_iload_n, pm_s_invokevirtual, pm_s_ireturn, pm_s_istore_n, ct_X4_possibleMoves, pS, pR, pC, pE, pL, -Int32.not_le, -Int32.not_lt, -Int64.not_le, -Int64.not_lt, -List.getD_eq_getElem?_getD]
              exact done
            | succ g ihg =>
              intro b g1 g2
              by_cases hb : b < 6
              · refine hb12 _ _ _ ?_
                simp [bk_X4_possibleMoves_12, pm_e_wp1, pm_e_wp0, pm_s_iload, pm_s_iload_n, pm_s_bipush, pm_e_c0, pm_s_aload_n, pm_e_ldi, pm_e_ldr, pm_e_lk, pm_f2, pm_f3, pm_s_if_icmp_ge, pm_e_ii, pm_e_go, pm_e_rs0, pm_e_rs1, pm_e_cti, pm_e_ctr, pm_s_invokevirtual, ct_X4_possibleMoves, pm_call, pm_recv, pm_obj, st_0 hp, -Int32.not_le, -Int32.not_lt]
                simp (disch := omega) only [ni_in, ni_cl, ni_add, ni_mul, ni_sub, ni_lt, ni_le, ni_eq, ni_eq0, ni_lt0, ni_0le, ni_0lt, ni_le0, ni_a1, ni_a3, ni_a7, ni_a15]
                refine ⟨fun h => by omega, fun _ => ?_⟩
                refine ⟨hp, ?_⟩
                rw [m5, hcc, nmF_n hP hS.2.1 (by omega) (by omega)]
                have h42 : ∀ q : Bool, q = canN P ec S a b → X 42 [(0, .ref p), (2, .int (nI a)), (3, .int (nI b))] [.int (pb q), .int (nI (sumN a (fun a => cnt 6 (fun b => canN P ec S a b)) + cnt b (fun b => canN P ec S a b)))] M := by
                  intro q hq
                  refine hb42 _ _ _ ?_
                  have e2 : pb q = nI (if canN P ec S a b = true then 1 else 0) := by rw [← hq]; cases q <;> rfl
                  simp (maxSteps := 2000000) [bk_X4_possibleMoves_0, bk_X4_possibleMoves_4, bk_X4_possibleMoves_12, bk_X4_possibleMoves_41, bk_X4_possibleMoves_42, bk_X4_possibleMoves_50, bk_X4_possibleMoves_56, pm_call, pm_e_c0, pm_e_c1, pm_e_cti, pm_e_ctl, pm_e_ctr, pm_e_go, pm_e_i, pm_e_ii, pm_e_ldi, pm_e_ldr, pm_e_lk, pm_e_rm0, pm_e_rm1, pm_e_rs0, pm_e_rs1, pm_e_wp0, pm_e_wp1, pm_f2, pm_f3, pm_obj, pm_recv, pm_s_aload_n, pm_s_bipush, pm_s_goto, pm_s_iadd, pm_s_iconst, pm_s_ifCond_eq, pm_s_ifCond_ne, pm_s_if_icmp_ge, pm_s_iinc, pm_s_iload_n, pm_s_invokevirtual, pm_s_ireturn, pm_s_istore_n, ct_X4_possibleMoves, pS, pR, pC, pE, pL, -Int32.not_le, -Int32.not_lt, -Int64.not_le, -Int64.not_lt, -List.getD_eq_getElem?_getD, e2]
                  simp only [ni_add]
                  have := ihg (b + 1) (by omega) (by omega)
                  rw [cnt_s b, ← Nat.add_assoc] at this
                  exact this
                have h41 : canN P ec S a b = false → X 41 [(0, .ref p), (2, .int (nI a)), (3, .int (nI b))] [.int (nI (sumN a (fun a => cnt 6 (fun b => canN P ec S a b)) + cnt b (fun b => canN P ec S a b)))] M := by
                  intro hq
                  refine hb41 _ _ _ ?_
                  simp (maxSteps := 2000000) [bk_X4_possibleMoves_0, bk_X4_possibleMoves_4, bk_X4_possibleMoves_12, bk_X4_possibleMoves_41, bk_X4_possibleMoves_42, bk_X4_possibleMoves_50, bk_X4_possibleMoves_56, pm_call, pm_e_c0, pm_e_c1, pm_e_cti, pm_e_ctl, pm_e_ctr, pm_e_go, pm_e_i, pm_e_ii, pm_e_ldi, pm_e_ldr, pm_e_lk, pm_e_rm0, pm_e_rm1, pm_e_rs0, pm_e_rs1, pm_e_wp0, pm_e_wp1, pm_f2, pm_f3, pm_obj, pm_recv, pm_s_aload_n, pm_s_bipush, pm_s_goto, pm_s_iadd, pm_s_iconst, pm_s_ifCond_eq, pm_s_ifCond_ne, pm_s_if_icmp_ge, pm_s_iinc, pm_s_iload_n, pm_s_invokevirtual, pm_s_ireturn, pm_s_istore_n, ct_X4_possibleMoves, pS, pR, pC, pE, pL, -Int32.not_le, -Int32.not_lt, -Int64.not_le, -Int64.not_lt, -List.getD_eq_getElem?_getD]
                  exact h42 false hq.symm
                have hwl := whyF_le P ec S a b
                simp (maxSteps := 2000000) [bk_X4_possibleMoves_0, bk_X4_possibleMoves_4, bk_X4_possibleMoves_12, bk_X4_possibleMoves_41, bk_X4_possibleMoves_42, bk_X4_possibleMoves_50, bk_X4_possibleMoves_56, pm_call, pm_e_c0, pm_e_c1, pm_e_cti, pm_e_ctl, pm_e_ctr, pm_e_go, pm_e_i, pm_e_ii, pm_e_ldi, pm_e_ldr, pm_e_lk, pm_e_rm0, pm_e_rm1, pm_e_rs0, pm_e_rs1, pm_e_wp0, pm_e_wp1, pm_f2, pm_f3, pm_obj, pm_recv, pm_s_aload_n, pm_s_bipush, pm_s_goto, pm_s_iadd, pm_s_iconst, pm_s_ifCond_eq, pm_s_ifCond_ne, pm_s_if_icmp_ge, pm_s_iinc, pm_s_iload_n, pm_s_invokevirtual, pm_s_ireturn, pm_s_istore_n, ct_X4_possibleMoves, pS, pR, pC, pE, pL, -Int32.not_le, -Int32.not_lt, -Int64.not_le, -Int64.not_lt, -List.getD_eq_getElem?_getD, pb_eq0, st_0 hp]
                refine ⟨fun h => h41 (by simp [canN, h]), fun h => ?_⟩
                refine ⟨ec, S, P, a, b, hp, rfl, rfl, hS, hD, hI, ha, hb, ?_⟩
                simp (maxSteps := 2000000) [bk_X4_possibleMoves_0, bk_X4_possibleMoves_4, bk_X4_possibleMoves_12, bk_X4_possibleMoves_41, bk_X4_possibleMoves_42, bk_X4_possibleMoves_50, bk_X4_possibleMoves_56, pm_call, pm_e_c0, pm_e_c1, pm_e_cti, pm_e_ctl, pm_e_ctr, pm_e_go, pm_e_i, pm_e_ii, pm_e_ldi, pm_e_ldr, pm_e_lk, pm_e_rm0, pm_e_rm1, pm_e_rs0, pm_e_rs1, pm_e_wp0, pm_e_wp1, pm_f2, pm_f3, pm_obj, pm_recv, pm_s_aload_n, pm_s_bipush, pm_s_goto, pm_s_iadd, pm_s_iconst, pm_s_ifCond_eq, pm_s_ifCond_ne, pm_s_if_icmp_ge, pm_s_iinc, pm_s_iload_n, pm_s_invokevirtual, pm_s_ireturn, pm_s_istore_n, ct_X4_possibleMoves, pS, pR, pC, pE, pL, -Int32.not_le, -Int32.not_lt, -Int64.not_le, -Int64.not_lt, -List.getD_eq_getElem?_getD]
                simp (disch := omega) only [ni_in, ni_cl, ni_add, ni_mul, ni_sub, ni_lt, ni_le, ni_eq, ni_eq0, ni_lt0, ni_0le, ni_0lt, ni_le0, ni_a1, ni_a3, ni_a7, ni_a15]
                exact ⟨fun h' => h41 (by simp [canN, h']), fun h' => h42 true (by simp [canN, h, h'])⟩
              · have e1 : b = 6 := by omega
                subst e1
                refine hb12 _ _ _ ?_
                simp (maxSteps := 2000000) [bk_X4_possibleMoves_0, bk_X4_possibleMoves_4, bk_X4_possibleMoves_12, bk_X4_possibleMoves_41, bk_X4_possibleMoves_42, bk_X4_possibleMoves_50, bk_X4_possibleMoves_56, pm_call, pm_e_c0, pm_e_c1, pm_e_cti, pm_e_ctl, pm_e_ctr, pm_e_go, pm_e_i, pm_e_ii, pm_e_ldi, pm_e_ldr, pm_e_lk, pm_e_rm0, pm_e_rm1, pm_e_rs0, pm_e_rs1, pm_e_wp0, pm_e_wp1, pm_f2, pm_f3, pm_obj, pm_recv, pm_s_aload_n, pm_s_bipush, pm_s_goto, pm_s_iadd, pm_s_iconst, pm_s_ifCond_eq, pm_s_ifCond_ne, pm_s_if_icmp_ge, pm_s_iinc, pm_s_iload_n, pm_s_invokevirtual, pm_s_ireturn, pm_s_istore_n, ct_X4_possibleMoves, pS, pR, pC, pE, pL, -Int32.not_le, -Int32.not_lt, -Int64.not_le, -Int64.not_lt, -List.getD_eq_getElem?_getD]
                exact done
          exact inner 6 0 (by omega) (by omega)
        · have e1 : a = 6 := by omega
          subst e1
          simp (disch := omega) only [ni_in, ni_cl, ni_add, ni_mul, ni_sub, ni_lt, ni_le, ni_eq, ni_eq0, ni_lt0, ni_0le, ni_0lt, ni_le0, ni_a1, ni_a3, ni_a7, ni_a15]
          exact ⟨fun _ => out, fun h => by omega⟩
    refine hb0 _ _ _ ?_
    simp (maxSteps := 2000000) [bk_X4_possibleMoves_0, bk_X4_possibleMoves_4, bk_X4_possibleMoves_12, bk_X4_possibleMoves_41, bk_X4_possibleMoves_42, bk_X4_possibleMoves_50, bk_X4_possibleMoves_56, pm_call, pm_e_c0, pm_e_c1, pm_e_cti, pm_e_ctl, pm_e_ctr, pm_e_go, pm_e_i, pm_e_ii, pm_e_ldi, pm_e_ldr, pm_e_lk, pm_e_rm0, pm_e_rm1, pm_e_rs0, pm_e_rs1, pm_e_wp0, pm_e_wp1, pm_f2, pm_f3, pm_obj, pm_recv, pm_s_aload_n, pm_s_bipush, pm_s_goto, pm_s_iadd, pm_s_iconst, pm_s_ifCond_eq, pm_s_ifCond_ne, pm_s_if_icmp_ge, pm_s_iinc, pm_s_iload_n, pm_s_invokevirtual, pm_s_ireturn, pm_s_istore_n, ct_X4_possibleMoves, pS, pR, pC, pE, pL, -Int32.not_le, -Int32.not_lt, -Int64.not_le, -Int64.not_lt, -List.getD_eq_getElem?_getD, lv_args]
    exact loop 6 0 (by omega) (by omega)
  · exact hT.elim
/-- may the last card of a by itself go to its house -/
def goesN (P : Pm) (ec : Nat) (S : St) (a : Nat) : Bool := canN P ec S a 5 && safeF P S (cardF S a)
theorem whyF_5 {P : Pm} {ec : Nat} {S : St} {a : Nat} (h : whyF P ec S a 5 = 0) : cardF S a ≠ 0 ∧ S.2.2 (su (pR P) (cardF S a)) + 1 = ra (pR P) (cardF S a) := by
  unfold whyF at h
  split at h
  · cases h
  · next q =>
    rw [if_neg (by decide), if_pos rfl] at h
    split at h
    · next z => exact ⟨q, z⟩
    · cases h
def tt_X4_sendSafeCard : pm_T := fun args M k => match args with
  | [.ref p] => ∃ ec S P, isSt p ∧ SdX M p ec S ∧ DkX M P ∧ inD P S ∧ (∀ a, a < 6 → goesN P ec S a = true → (∀ b, b < a → goesN P ec S b = false) → ∀ M', SdX M' p ec (aMv P ec S a 5) → pm_fr (stF p) M M' → k (some (.int (nI 1))) M') ∧ ((∀ a, a < 6 → goesN P ec S a = false) → k (some (.int (nI 0))) M)
  | _ => False
abbrev ct_X4_sendSafeCard : List pm_C := [(false, 96, 4, 3, (some .boolean), tt_X4_isNamed), (false, 99, 4, 3, (some .int), tt_X4_whyNot), (false, 83, 4, 2, (some .int), tt_X4_cardFrom), (false, 125, 4, 2, (some .boolean), tt_X4_isSafe), (false, 128, 4, 3, (some .int), tt_X4_shift)]
set_option maxHeartbeats 4000000 in
theorem sm_X4_sendSafeCard  : pm_Sem SHx yX4_sendSafeCard cX4_sendSafeCard 3 (some .boolean) 4 tt_X4_sendSafeCard := by
  refine pm_Sem_intro bl_X4_sendSafeCard ct_X4_sendSafeCard cs_X4_sendSafeCard rfl (List.forall_mem_cons.mpr ⟨⟨_, _, _, _, sm_X4_isNamed, by decide, cm_X4_isNamed, by decide +kernel⟩, List.forall_mem_cons.mpr ⟨⟨_, _, _, _, sm_X4_whyNot, by decide, cm_X4_whyNot, by decide +kernel⟩, List.forall_mem_cons.mpr ⟨⟨_, _, _, _, sm_X4_cardFrom, by decide, cm_X4_cardFrom, by decide +kernel⟩, List.forall_mem_cons.mpr ⟨⟨_, _, _, _, sm_X4_isSafe, by decide, cm_X4_isSafe, by decide +kernel⟩, List.forall_mem_cons.mpr ⟨⟨_, _, _, _, sm_X4_shift, by decide, cm_X4_shift, by decide +kernel⟩, fun _ h => absurd h List.not_mem_nil⟩⟩⟩⟩⟩) ck_X4_sendSafeCard (by decide +kernel) (by decide) ?_
  intro X k hX args M hT
  have hb0 := hX 0 bk_X4_sendSafeCard_0 (List.mem_of_getElem? (i := 0) rfl)
  have hb2 := hX 2 bk_X4_sendSafeCard_2 (List.mem_of_getElem? (i := 1) rfl)
  have hb30 := hX 30 bk_X4_sendSafeCard_30 (List.mem_of_getElem? (i := 2) rfl)
  have hb31 := hX 31 bk_X4_sendSafeCard_31 (List.mem_of_getElem? (i := 3) rfl)
  have hb57 := hX 57 bk_X4_sendSafeCard_57 (List.mem_of_getElem? (i := 4) rfl)
  have hb63 := hX 63 bk_X4_sendSafeCard_63 (List.mem_of_getElem? (i := 5) rfl)
  clear hX
  unfold tt_X4_sendSafeCard at hT; split at hT
  · next p =>
    obtain ⟨ec, S, P, hp, hS, hD, hI, hT1, hT2⟩ := hT
    have hP := hD.1.1
    have m5 := hD.1.2.1.2.2.1
    have hcc := hS.2.2.1
    refine ⟨by simp [lg_sl, Value.category], ?_⟩
    have out : (∀ b, b < 6 → goesN P ec S b = false) → X 63 [] [] M := by
      intro hA
      refine hb63 _ _ _ ?_
      simp (maxSteps := 2000000) [bk_X4_sendSafeCard_0, bk_X4_sendSafeCard_2, bk_X4_sendSafeCard_30, bk_X4_sendSafeCard_31, bk_X4_sendSafeCard_57, bk_X4_sendSafeCard_63, pm_call, pm_e_c0, pm_e_c1, pm_e_cti, pm_e_ctl, pm_e_ctr, pm_e_go, pm_e_i, pm_e_ii, pm_e_ldi, pm_e_ldr, pm_e_lk, pm_e_rm0, pm_e_rm1, pm_e_rs0, pm_e_rs1, pm_e_v1, pm_e_wp0, pm_e_wp1, pm_f2, pm_f3, pm_obj, pm_recv, pm_s_aload_n, pm_s_bipush, pm_s_goto, pm_s_iconst, pm_s_ifCond_eq, pm_s_ifCond_ne, pm_s_if_icmp_ge, pm_s_iinc, pm_s_iload_n, pm_s_invokevirtual, pm_s_ireturn, pm_s_istore_n, pm_s_pop, ct_X4_sendSafeCard, pS, pR, pC, pE, pL, -Int32.not_le, -Int32.not_lt, -Int64.not_le, -Int64.not_lt, -List.getD_eq_getElem?_getD]
      exact ⟨Or.inl rfl, hT2 hA⟩
    have loop : ∀ (f a : Nat), 6 ≤ a + f → a ≤ 6 → (∀ b, b < a → goesN P ec S b = false) → X 2 [(0, .ref p), (1, .int (nI a))] [] M := by
      intro f
      induction f with
      | zero =>
        intro a f1 f2 hA
        have e1 : a = 6 := by omega
        subst e1
        refine hb2 _ _ _ ?_
        simp (maxSteps := 2000000) [bk_X4_sendSafeCard_0, bk_X4_sendSafeCard_2, bk_X4_sendSafeCard_30, bk_X4_sendSafeCard_31, bk_X4_sendSafeCard_57, bk_X4_sendSafeCard_63, pm_call, pm_e_c0, pm_e_c1, pm_e_cti, pm_e_ctl, pm_e_ctr, pm_e_go, pm_e_i, pm_e_ii, pm_e_ldi, pm_e_ldr, pm_e_lk, pm_e_rm0, pm_e_rm1, pm_e_rs0, pm_e_rs1, pm_e_v1, pm_e_wp0, pm_e_wp1, pm_f2, pm_f3, pm_obj, pm_recv, pm_s_aload_n, pm_s_bipush, pm_s_goto, pm_s_iconst, pm_s_ifCond_eq, pm_s_ifCond_ne, pm_s_if_icmp_ge, pm_s_iinc, pm_s_iload_n, pm_s_invokevirtual, pm_s_ireturn, pm_s_istore_n, pm_s_pop, ct_X4_sendSafeCard, pS, pR, pC, pE, pL, -Int32.not_le, -Int32.not_lt, -Int64.not_le, -Int64.not_lt, -List.getD_eq_getElem?_getD]
        exact out hA
      | succ f ih =>
        intro a f1 f2 hA
        by_cases ha : a < 6
        · have h57 : goesN P ec S a = false → X 57 [(0, .ref p), (1, .int (nI a))] [] M := by
            intro hq
            refine hb57 _ _ _ ?_
            simp (maxSteps := 2000000) [bk_X4_sendSafeCard_0, bk_X4_sendSafeCard_2, bk_X4_sendSafeCard_30, bk_X4_sendSafeCard_31, bk_X4_sendSafeCard_57, bk_X4_sendSafeCard_63, pm_call, pm_e_c0, pm_e_c1, pm_e_cti, pm_e_ctl, pm_e_ctr, pm_e_go, pm_e_i, pm_e_ii, pm_e_ldi, pm_e_ldr, pm_e_lk, pm_e_rm0, pm_e_rm1, pm_e_rs0, pm_e_rs1, pm_e_v1, pm_e_wp0, pm_e_wp1, pm_f2, pm_f3, pm_obj, pm_recv, pm_s_aload_n, pm_s_bipush, pm_s_goto, pm_s_iconst, pm_s_ifCond_eq, pm_s_ifCond_ne, pm_s_if_icmp_ge, pm_s_iinc, pm_s_iload_n, pm_s_invokevirtual, pm_s_ireturn, pm_s_istore_n, pm_s_pop, ct_X4_sendSafeCard, pS, pR, pC, pE, pL, -Int32.not_le, -Int32.not_lt, -Int64.not_le, -Int64.not_lt, -List.getD_eq_getElem?_getD]
            simp only [ni_add]
            refine ih (a + 1) (by omega) (by omega) (fun b hb => ?_)
            rcases Nat.lt_or_ge b a with z | z
            · exact hA b z
            · have : b = a := by omega
              subst this; exact hq
          have h31 : ∀ q : Bool, q = canN P ec S a 5 → X 31 [(0, .ref p), (1, .int (nI a))] [.int (pb q)] M := by
            intro q hq
            refine hb31 _ _ _ ?_
            simp (maxSteps := 2000000) [bk_X4_sendSafeCard_0, bk_X4_sendSafeCard_2, bk_X4_sendSafeCard_30, bk_X4_sendSafeCard_31, bk_X4_sendSafeCard_57, bk_X4_sendSafeCard_63, pm_call, pm_e_c0, pm_e_c1, pm_e_cti, pm_e_ctl, pm_e_ctr, pm_e_go, pm_e_i, pm_e_ii, pm_e_ldi, pm_e_ldr, pm_e_lk, pm_e_rm0, pm_e_rm1, pm_e_rs0, pm_e_rs1, pm_e_v1, pm_e_wp0, pm_e_wp1, pm_f2, pm_f3, pm_obj, pm_recv, pm_s_aload_n, pm_s_bipush, pm_s_goto, pm_s_iconst, pm_s_ifCond_eq, pm_s_ifCond_ne, pm_s_if_icmp_ge, pm_s_iinc, pm_s_iload_n, pm_s_invokevirtual, pm_s_ireturn, pm_s_istore_n, pm_s_pop, ct_X4_sendSafeCard, pS, pR, pC, pE, pL, -Int32.not_le, -Int32.not_lt, -Int64.not_le, -Int64.not_lt, -List.getD_eq_getElem?_getD, pb_eq0, st_0 hp]
            refine ⟨fun h => h57 (by rw [goesN, ← hq, h]; rfl), fun h => ?_⟩
            refine ⟨ec, S, a, hp, rfl, hS, ha, ?_⟩
            simp (maxSteps := 2000000) [bk_X4_sendSafeCard_0, bk_X4_sendSafeCard_2, bk_X4_sendSafeCard_30, bk_X4_sendSafeCard_31, bk_X4_sendSafeCard_57, bk_X4_sendSafeCard_63, pm_call, pm_e_c0, pm_e_c1, pm_e_cti, pm_e_ctl, pm_e_ctr, pm_e_go, pm_e_i, pm_e_ii, pm_e_ldi, pm_e_ldr, pm_e_lk, pm_e_rm0, pm_e_rm1, pm_e_rs0, pm_e_rs1, pm_e_v1, pm_e_wp0, pm_e_wp1, pm_f2, pm_f3, pm_obj, pm_recv, pm_s_aload_n, pm_s_bipush, pm_s_goto, pm_s_iconst, pm_s_ifCond_eq, pm_s_ifCond_ne, pm_s_if_icmp_ge, pm_s_iinc, pm_s_iload_n, pm_s_invokevirtual, pm_s_ireturn, pm_s_istore_n, pm_s_pop, ct_X4_sendSafeCard, pS, pR, pC, pE, pL, -Int32.not_le, -Int32.not_lt, -Int64.not_le, -Int64.not_lt, -List.getD_eq_getElem?_getD, st_0 hp]
            have hcan : whyF P ec S a 5 = 0 := by
              have : canN P ec S a 5 = true := by rw [← hq]; exact h
              unfold canN at this
              simp at this
              exact this.2
            obtain ⟨c0, c1⟩ := whyF_5 hcan
            have hcl := cardF_le hI ha
            refine ⟨ec, S, P, cardF S a, hp, rfl, hS, hD, ⟨by omega, hcl⟩, ?_⟩
            simp (maxSteps := 2000000) [bk_X4_sendSafeCard_0, bk_X4_sendSafeCard_2, bk_X4_sendSafeCard_30, bk_X4_sendSafeCard_31, bk_X4_sendSafeCard_57, bk_X4_sendSafeCard_63, pm_call, pm_e_c0, pm_e_c1, pm_e_cti, pm_e_ctl, pm_e_ctr, pm_e_go, pm_e_i, pm_e_ii, pm_e_ldi, pm_e_ldr, pm_e_lk, pm_e_rm0, pm_e_rm1, pm_e_rs0, pm_e_rs1, pm_e_v1, pm_e_wp0, pm_e_wp1, pm_f2, pm_f3, pm_obj, pm_recv, pm_s_aload_n, pm_s_bipush, pm_s_goto, pm_s_iconst, pm_s_ifCond_eq, pm_s_ifCond_ne, pm_s_if_icmp_ge, pm_s_iinc, pm_s_iload_n, pm_s_invokevirtual, pm_s_ireturn, pm_s_istore_n, pm_s_pop, ct_X4_sendSafeCard, pS, pR, pC, pE, pL, -Int32.not_le, -Int32.not_lt, -Int64.not_le, -Int64.not_lt, -List.getD_eq_getElem?_getD, pb_eq0, st_0 hp]
            refine ⟨fun h' => h57 (by rw [goesN, h']; simp), fun h' => ?_⟩
            have hg : goesN P ec S a = true := by rw [goesN, ← hq, h, h']; rfl
            have hr6 : ra (pR P) (cardF S a) ≤ 6 := by
              have := ra_le (n := cardF S a) hP.2.2.1
              have := hP.2.2.2.1
              omega
            refine ⟨ec, S, P, a, 5, hp, rfl, rfl, hS, hD, hI, ha, by decide, fun z => by omega, c0, fun _ => by omega, fun z => by omega, fun M' r1 r2 => ?_⟩
            simp (maxSteps := 2000000) [bk_X4_sendSafeCard_0, bk_X4_sendSafeCard_2, bk_X4_sendSafeCard_30, bk_X4_sendSafeCard_31, bk_X4_sendSafeCard_57, bk_X4_sendSafeCard_63, pm_call, pm_e_c0, pm_e_c1, pm_e_cti, pm_e_ctl, pm_e_ctr, pm_e_go, pm_e_i, pm_e_ii, pm_e_ldi, pm_e_ldr, pm_e_lk, pm_e_rm0, pm_e_rm1, pm_e_rs0, pm_e_rs1, pm_e_v1, pm_e_wp0, pm_e_wp1, pm_f2, pm_f3, pm_obj, pm_recv, pm_s_aload_n, pm_s_bipush, pm_s_goto, pm_s_iconst, pm_s_ifCond_eq, pm_s_ifCond_ne, pm_s_if_icmp_ge, pm_s_iinc, pm_s_iload_n, pm_s_invokevirtual, pm_s_ireturn, pm_s_istore_n, pm_s_pop, ct_X4_sendSafeCard, pS, pR, pC, pE, pL, -Int32.not_le, -Int32.not_lt, -Int64.not_le, -Int64.not_lt, -List.getD_eq_getElem?_getD]
            exact ⟨Or.inr rfl, hT1 a ha hg hA M' r1 r2⟩
          refine hb2 _ _ _ ?_
          simp [bk_X4_sendSafeCard_2, pm_e_wp1, pm_e_wp0, pm_s_iload, pm_s_iload_n, pm_s_iconst, pm_s_bipush, pm_e_c0, pm_s_aload_n, pm_e_ldi, pm_e_ldr, pm_e_lk, pm_f2, pm_f3, pm_s_if_icmp_ge, pm_e_ii, pm_e_go, pm_e_rs0, pm_e_rs1, pm_e_cti, pm_e_ctr, pm_s_invokevirtual, ct_X4_sendSafeCard, pm_call, pm_recv, pm_obj, st_0 hp, -Int32.not_le, -Int32.not_lt]
          simp (disch := omega) only [ni_in, ni_cl, ni_add, ni_mul, ni_sub, ni_lt, ni_le, ni_eq, ni_eq0, ni_lt0, ni_0le, ni_0lt, ni_le0, ni_a1, ni_a3, ni_a7, ni_a15]
          refine ⟨fun h => by omega, fun _ => ⟨hp, ?_⟩⟩
          rw [m5, hcc, nmF_n hP hS.2.1 (by omega) (by omega)]
          have h30 : canN P ec S a 5 = false → X 30 [(0, .ref p), (1, .int (nI a))] [] M := by
            intro hq
            refine hb30 _ _ _ ?_
            simp (maxSteps := 2000000) [bk_X4_sendSafeCard_0, bk_X4_sendSafeCard_2, bk_X4_sendSafeCard_30, bk_X4_sendSafeCard_31, bk_X4_sendSafeCard_57, bk_X4_sendSafeCard_63, pm_call, pm_e_c0, pm_e_c1, pm_e_cti, pm_e_ctl, pm_e_ctr, pm_e_go, pm_e_i, pm_e_ii, pm_e_ldi, pm_e_ldr, pm_e_lk, pm_e_rm0, pm_e_rm1, pm_e_rs0, pm_e_rs1, pm_e_v1, pm_e_wp0, pm_e_wp1, pm_f2, pm_f3, pm_obj, pm_recv, pm_s_aload_n, pm_s_bipush, pm_s_goto, pm_s_iconst, pm_s_ifCond_eq, pm_s_ifCond_ne, pm_s_if_icmp_ge, pm_s_iinc, pm_s_iload_n, pm_s_invokevirtual, pm_s_ireturn, pm_s_istore_n, pm_s_pop, ct_X4_sendSafeCard, pS, pR, pC, pE, pL, -Int32.not_le, -Int32.not_lt, -Int64.not_le, -Int64.not_lt, -List.getD_eq_getElem?_getD]
            exact h31 false hq.symm
          have hwl := whyF_le P ec S a 5
          simp (maxSteps := 2000000) [bk_X4_sendSafeCard_0, bk_X4_sendSafeCard_2, bk_X4_sendSafeCard_30, bk_X4_sendSafeCard_31, bk_X4_sendSafeCard_57, bk_X4_sendSafeCard_63, pm_call, pm_e_c0, pm_e_c1, pm_e_cti, pm_e_ctl, pm_e_ctr, pm_e_go, pm_e_i, pm_e_ii, pm_e_ldi, pm_e_ldr, pm_e_lk, pm_e_rm0, pm_e_rm1, pm_e_rs0, pm_e_rs1, pm_e_v1, pm_e_wp0, pm_e_wp1, pm_f2, pm_f3, pm_obj, pm_recv, pm_s_aload_n, pm_s_bipush, pm_s_goto, pm_s_iconst, pm_s_ifCond_eq, pm_s_ifCond_ne, pm_s_if_icmp_ge, pm_s_iinc, pm_s_iload_n, pm_s_invokevirtual, pm_s_ireturn, pm_s_istore_n, pm_s_pop, ct_X4_sendSafeCard, pS, pR, pC, pE, pL, -Int32.not_le, -Int32.not_lt, -Int64.not_le, -Int64.not_lt, -List.getD_eq_getElem?_getD, pb_eq0, st_0 hp]
          refine ⟨fun h => h30 (by simp [canN, h]), fun h => ?_⟩
          refine ⟨ec, S, P, a, 5, hp, rfl, rfl, hS, hD, hI, ha, by decide, ?_⟩
          simp (maxSteps := 2000000) [bk_X4_sendSafeCard_0, bk_X4_sendSafeCard_2, bk_X4_sendSafeCard_30, bk_X4_sendSafeCard_31, bk_X4_sendSafeCard_57, bk_X4_sendSafeCard_63, pm_call, pm_e_c0, pm_e_c1, pm_e_cti, pm_e_ctl, pm_e_ctr, pm_e_go, pm_e_i, pm_e_ii, pm_e_ldi, pm_e_ldr, pm_e_lk, pm_e_rm0, pm_e_rm1, pm_e_rs0, pm_e_rs1, pm_e_v1, pm_e_wp0, pm_e_wp1, pm_f2, pm_f3, pm_obj, pm_recv, pm_s_aload_n, pm_s_bipush, pm_s_goto, pm_s_iconst, pm_s_ifCond_eq, pm_s_ifCond_ne, pm_s_if_icmp_ge, pm_s_iinc, pm_s_iload_n, pm_s_invokevirtual, pm_s_ireturn, pm_s_istore_n, pm_s_pop, ct_X4_sendSafeCard, pS, pR, pC, pE, pL, -Int32.not_le, -Int32.not_lt, -Int64.not_le, -Int64.not_lt, -List.getD_eq_getElem?_getD]
          simp (disch := omega) only [ni_in, ni_cl, ni_add, ni_mul, ni_sub, ni_lt, ni_le, ni_eq, ni_eq0, ni_lt0, ni_0le, ni_0lt, ni_le0, ni_a1, ni_a3, ni_a7, ni_a15]
          exact ⟨fun h' => h30 (by simp [canN, h']), fun h' => h31 true (by simp [canN, h, h'])⟩
        · have e1 : a = 6 := by omega
          subst e1
          refine hb2 _ _ _ ?_
          simp (maxSteps := 2000000) [bk_X4_sendSafeCard_0, bk_X4_sendSafeCard_2, bk_X4_sendSafeCard_30, bk_X4_sendSafeCard_31, bk_X4_sendSafeCard_57, bk_X4_sendSafeCard_63, pm_call, pm_e_c0, pm_e_c1, pm_e_cti, pm_e_ctl, pm_e_ctr, pm_e_go, pm_e_i, pm_e_ii, pm_e_ldi, pm_e_ldr, pm_e_lk, pm_e_rm0, pm_e_rm1, pm_e_rs0, pm_e_rs1, pm_e_v1, pm_e_wp0, pm_e_wp1, pm_f2, pm_f3, pm_obj, pm_recv, pm_s_aload_n, pm_s_bipush, pm_s_goto, pm_s_iconst, pm_s_ifCond_eq, pm_s_ifCond_ne, pm_s_if_icmp_ge, pm_s_iinc, pm_s_iload_n, pm_s_invokevirtual, pm_s_ireturn, pm_s_istore_n, pm_s_pop, ct_X4_sendSafeCard, pS, pR, pC, pE, pL, -Int32.not_le, -Int32.not_lt, -Int64.not_le, -Int64.not_lt, -List.getD_eq_getElem?_getD]
          exact out hA
    refine hb0 _ _ _ ?_
    simp (maxSteps := 2000000) [bk_X4_sendSafeCard_0, bk_X4_sendSafeCard_2, bk_X4_sendSafeCard_30, bk_X4_sendSafeCard_31, bk_X4_sendSafeCard_57, bk_X4_sendSafeCard_63, pm_call, pm_e_c0, pm_e_c1, pm_e_cti, pm_e_ctl, pm_e_ctr, pm_e_go, pm_e_i, pm_e_ii, pm_e_ldi, pm_e_ldr, pm_e_lk, pm_e_rm0, pm_e_rm1, pm_e_rs0, pm_e_rs1, pm_e_v1, pm_e_wp0, pm_e_wp1, pm_f2, pm_f3, pm_obj, pm_recv, pm_s_aload_n, pm_s_bipush, pm_s_goto, pm_s_iconst, pm_s_ifCond_eq, pm_s_ifCond_ne, pm_s_if_icmp_ge, pm_s_iinc, pm_s_iload_n, pm_s_invokevirtual, pm_s_ireturn, pm_s_istore_n, pm_s_pop, ct_X4_sendSafeCard, pS, pR, pC, pE, pL, -Int32.not_le, -Int32.not_lt, -Int64.not_le, -Int64.not_lt, -List.getD_eq_getElem?_getD, lv_args]
    exact loop 6 0 (by omega) (by omega) (fun b hb => by omega)
  · exact hT.elim
end
section
def helpF (P : Pm) (S : St) (a b i : Nat) : Bool := !decide (i = a) && !decide (i = b) && decide (S.1 i = []) && !decide (pL P = 4)
def longF (P : Pm) (ec : Nat) (S : St) (a b : Nat) : Nat := (nfc ec S + 1) * 2 ^ cnt (pC P) (helpF P S a b)
def tt_X4_longestRow : pm_T := fun args M k => match args with
  | [.ref p, .int x, .int y] => ∃ ec S P a b, isSt p ∧ x = nI a ∧ y = nI b ∧ SdX M p ec S ∧ DkX M P ∧ a < 4 ∧ b < 4 ∧ k (some (.int (nI (longF P ec S a b)))) M
  | _ => False
theorem nfc_le (ec : Nat) (S : St) : nfc ec S ≤ 2 := by unfold nfc; split <;> split <;> omega
theorem pow_le16 {n : Nat} (h : n ≤ 4) : 2 ^ n ≤ 16 := (Nat.pow_le_pow_right (by decide : 2 > 0) h : 2 ^ n ≤ 2 ^ 4)
abbrev ct_X4_longestRow : List pm_C := [(false, 119, 4, 1, (some .int), tt_X4_freeCells)]
set_option maxHeartbeats 4000000 in
theorem sm_X4_longestRow  : pm_Sem SHx yX4_longestRow cX4_longestRow 6 (some .int) 2 tt_X4_longestRow := by
  refine pm_Sem_intro bl_X4_longestRow ct_X4_longestRow cs_X4_longestRow rfl (List.forall_mem_cons.mpr ⟨⟨_, _, _, _, sm_X4_freeCells, by decide, cm_X4_freeCells, by decide +kernel⟩, fun _ h => absurd h List.not_mem_nil⟩) ck_X4_longestRow (by decide +kernel) (by decide) ?_
  intro X k hX args M hT
  have hb0 := hX 0 bk_X4_longestRow_0 (List.mem_of_getElem? (i := 0) rfl)
  have hb10 := hX 10 bk_X4_longestRow_10 (List.mem_of_getElem? (i := 1) rfl)
  have hb48 := hX 48 bk_X4_longestRow_48 (List.mem_of_getElem? (i := 2) rfl)
  have hb49 := hX 49 bk_X4_longestRow_49 (List.mem_of_getElem? (i := 3) rfl)
  have hb71 := hX 71 bk_X4_longestRow_71 (List.mem_of_getElem? (i := 4) rfl)
  have hb77 := hX 77 bk_X4_longestRow_77 (List.mem_of_getElem? (i := 5) rfl)
  clear hX
  unfold tt_X4_longestRow at hT; split at hT
  · next p x y =>
    obtain ⟨ec, S, ⟨s, r, c, e, w⟩, a, b, hp, rfl, rfl, hS, hD, ha, hb, hT⟩ := hT
    have hP := hD.1.1
    obtain ⟨m3, m4, m5, m6, m7⟩ := hD.1.2.1
    obtain ⟨h1, h2, h3, h4, h5, h6, h7, h8, h9⟩ := hP
    have hn := nfc_le ec S
    dsimp only [pS, pR, pC, pE, pL] at *
    refine ⟨by simp [lg_sl, Value.category], ?_⟩
    have out : X 77 [(3, .int (nI ((nfc ec S + 1) * 2 ^ cnt c (helpF (s, r, c, e, w) S a b))))] [] M := by
      refine hb77 _ _ _ ?_
      simp (maxSteps := 2000000) [bk_X4_longestRow_0, bk_X4_longestRow_10, bk_X4_longestRow_48, bk_X4_longestRow_49, bk_X4_longestRow_71, bk_X4_longestRow_77, pm_arr, pm_call, pm_e_c0, pm_e_c1, pm_e_cti, pm_e_ctl, pm_e_ctr, pm_e_go, pm_e_i, pm_e_ii, pm_e_ldi, pm_e_ldr, pm_e_lk, pm_e_r, pm_e_ri, pm_e_rm0, pm_e_rm1, pm_e_rs0, pm_e_rs1, pm_e_wp0, pm_e_wp1, pm_f2, pm_f3, pm_fld, pm_fv, pm_obj, pm_recv, pm_s_aload_n, pm_s_getfield, pm_s_goto, pm_s_iadd, pm_s_iaload, pm_s_iconst, pm_s_ifCond_eq, pm_s_ifCond_ne, pm_s_if_icmp_eq, pm_s_if_icmp_ge, pm_s_iinc, pm_s_iload, pm_s_iload_n, pm_s_imul, pm_s_invokevirtual, pm_s_ireturn, pm_s_istore, pm_s_istore_n, ct_X4_longestRow, pS, pR, pC, pE, pL, -Int32.not_le, -Int32.not_lt, -Int64.not_le, -Int64.not_lt, -List.getD_eq_getElem?_getD]
      exact hT
    have loop : ∀ (f i : Nat), c ≤ i + f → i ≤ c → X 10 [(0, .ref p), (1, .int (nI a)), (2, .int (nI b)), (3, .int (nI ((nfc ec S + 1) * 2 ^ cnt i (helpF (s, r, c, e, w) S a b)))), (4, .int (nI i))] [] M := by
      intro f
      induction f with
      | zero =>
        intro i f1 f2
        have e1 : i = c := by omega
        subst e1
        refine hb10 _ _ _ ?_
        simp (maxSteps := 2000000) [bk_X4_longestRow_0, bk_X4_longestRow_10, bk_X4_longestRow_48, bk_X4_longestRow_49, bk_X4_longestRow_71, bk_X4_longestRow_77, pm_arr, pm_call, pm_e_c0, pm_e_c1, pm_e_cti, pm_e_ctl, pm_e_ctr, pm_e_go, pm_e_i, pm_e_ii, pm_e_ldi, pm_e_ldr, pm_e_lk, pm_e_r, pm_e_ri, pm_e_rm0, pm_e_rm1, pm_e_rs0, pm_e_rs1, pm_e_wp0, pm_e_wp1, pm_f2, pm_f3, pm_fld, pm_fv, pm_obj, pm_recv, pm_s_aload_n, pm_s_getfield, pm_s_goto, pm_s_iadd, pm_s_iaload, pm_s_iconst, pm_s_ifCond_eq, pm_s_ifCond_ne, pm_s_if_icmp_eq, pm_s_if_icmp_ge, pm_s_iinc, pm_s_iload, pm_s_iload_n, pm_s_imul, pm_s_invokevirtual, pm_s_ireturn, pm_s_istore, pm_s_istore_n, ct_X4_longestRow, pS, pR, pC, pE, pL, -Int32.not_le, -Int32.not_lt, -Int64.not_le, -Int64.not_lt, -List.getD_eq_getElem?_getD, st_0 hp, sx_1, m5]
        exact out
      | succ f ih =>
        intro i f1 f2
        by_cases hi : i < c
        · have hl := hS.len (show i < 4 by omega)
          have next : ∀ v, v = (nfc ec S + 1) * 2 ^ cnt (i + 1) (helpF (s, r, c, e, w) S a b) → X 71 [(0, .ref p), (1, .int (nI a)), (2, .int (nI b)), (3, .int (nI v)), (4, .int (nI i))] [] M := by
            intro v hv
            refine hb71 _ _ _ ?_
            simp (maxSteps := 2000000) [bk_X4_longestRow_0, bk_X4_longestRow_10, bk_X4_longestRow_48, bk_X4_longestRow_49, bk_X4_longestRow_71, bk_X4_longestRow_77, pm_arr, pm_call, pm_e_c0, pm_e_c1, pm_e_cti, pm_e_ctl, pm_e_ctr, pm_e_go, pm_e_i, pm_e_ii, pm_e_ldi, pm_e_ldr, pm_e_lk, pm_e_r, pm_e_ri, pm_e_rm0, pm_e_rm1, pm_e_rs0, pm_e_rs1, pm_e_wp0, pm_e_wp1, pm_f2, pm_f3, pm_fld, pm_fv, pm_obj, pm_recv, pm_s_aload_n, pm_s_getfield, pm_s_goto, pm_s_iadd, pm_s_iaload, pm_s_iconst, pm_s_ifCond_eq, pm_s_ifCond_ne, pm_s_if_icmp_eq, pm_s_if_icmp_ge, pm_s_iinc, pm_s_iload, pm_s_iload_n, pm_s_imul, pm_s_invokevirtual, pm_s_ireturn, pm_s_istore, pm_s_istore_n, ct_X4_longestRow, pS, pR, pC, pE, pL, -Int32.not_le, -Int32.not_lt, -Int64.not_le, -Int64.not_lt, -List.getD_eq_getElem?_getD]
            simp only [ni_add]
            rw [hv]
            exact ih (i + 1) (by omega) (by omega)
          have h49 : ∀ q : Bool, q = (!decide (i = a) && !decide (i = b) && decide (S.1 i = [])) → X 49 [(0, .ref p), (1, .int (nI a)), (2, .int (nI b)), (3, .int (nI ((nfc ec S + 1) * 2 ^ cnt i (helpF (s, r, c, e, w) S a b)))), (4, .int (nI i))] [.int (pb q)] M := by
            intro q hq
            refine hb49 _ _ _ ?_
            simp (maxSteps := 2000000) [bk_X4_longestRow_0, bk_X4_longestRow_10, bk_X4_longestRow_48, bk_X4_longestRow_49, bk_X4_longestRow_71, bk_X4_longestRow_77, pm_arr, pm_call, pm_e_c0, pm_e_c1, pm_e_cti, pm_e_ctl, pm_e_ctr, pm_e_go, pm_e_i, pm_e_ii, pm_e_ldi, pm_e_ldr, pm_e_lk, pm_e_r, pm_e_ri, pm_e_rm0, pm_e_rm1, pm_e_rs0, pm_e_rs1, pm_e_wp0, pm_e_wp1, pm_f2, pm_f3, pm_fld, pm_fv, pm_obj, pm_recv, pm_s_aload_n, pm_s_getfield, pm_s_goto, pm_s_iadd, pm_s_iaload, pm_s_iconst, pm_s_ifCond_eq, pm_s_ifCond_ne, pm_s_if_icmp_eq, pm_s_if_icmp_ge, pm_s_iinc, pm_s_iload, pm_s_iload_n, pm_s_imul, pm_s_invokevirtual, pm_s_ireturn, pm_s_istore, pm_s_istore_n, ct_X4_longestRow, pS, pR, pC, pE, pL, -Int32.not_le, -Int32.not_lt, -Int64.not_le, -Int64.not_lt, -List.getD_eq_getElem?_getD, pb_eq0, st_0 hp, sx_1, m7]
            simp (disch := omega) only [ni_in, ni_cl, ni_add, ni_mul, ni_sub, ni_lt, ni_le, ni_eq, ni_eq0, ni_lt0, ni_0le, ni_0lt, ni_le0, ni_a1, ni_a3, ni_a7, ni_a15]
            refine ⟨fun h => next _ ?_, fun h => ⟨fun h' => next _ ?_, fun h' => ?_⟩⟩
            · rw [cnt_s i, helpF, ← hq, h]; simp
            · rw [cnt_s i, helpF]; simp [pL, h']
            · refine next _ ?_
              rw [cnt_s i, helpF, ← hq, h]
              simp [pL, h', Nat.pow_succ, Nat.mul_assoc]
          have h48 : (!decide (i = a) && !decide (i = b) && decide (S.1 i = [])) = false → X 48 [(0, .ref p), (1, .int (nI a)), (2, .int (nI b)), (3, .int (nI ((nfc ec S + 1) * 2 ^ cnt i (helpF (s, r, c, e, w) S a b)))), (4, .int (nI i))] [] M := by
            intro hq
            refine hb48 _ _ _ ?_
            simp (maxSteps := 2000000) [bk_X4_longestRow_0, bk_X4_longestRow_10, bk_X4_longestRow_48, bk_X4_longestRow_49, bk_X4_longestRow_71, bk_X4_longestRow_77, pm_arr, pm_call, pm_e_c0, pm_e_c1, pm_e_cti, pm_e_ctl, pm_e_ctr, pm_e_go, pm_e_i, pm_e_ii, pm_e_ldi, pm_e_ldr, pm_e_lk, pm_e_r, pm_e_ri, pm_e_rm0, pm_e_rm1, pm_e_rs0, pm_e_rs1, pm_e_wp0, pm_e_wp1, pm_f2, pm_f3, pm_fld, pm_fv, pm_obj, pm_recv, pm_s_aload_n, pm_s_getfield, pm_s_goto, pm_s_iadd, pm_s_iaload, pm_s_iconst, pm_s_ifCond_eq, pm_s_ifCond_ne, pm_s_if_icmp_eq, pm_s_if_icmp_ge, pm_s_iinc, pm_s_iload, pm_s_iload_n, pm_s_imul, pm_s_invokevirtual, pm_s_ireturn, pm_s_istore, pm_s_istore_n, ct_X4_longestRow, pS, pR, pC, pE, pL, -Int32.not_le, -Int32.not_lt, -Int64.not_le, -Int64.not_lt, -List.getD_eq_getElem?_getD]
            exact h49 false hq.symm
          refine hb10 _ _ _ ?_
          simp (maxSteps := 2000000) [bk_X4_longestRow_0, bk_X4_longestRow_10, bk_X4_longestRow_48, bk_X4_longestRow_49, bk_X4_longestRow_71, bk_X4_longestRow_77, pm_arr, pm_call, pm_e_c0, pm_e_c1, pm_e_cti, pm_e_ctl, pm_e_ctr, pm_e_go, pm_e_i, pm_e_ii, pm_e_ldi, pm_e_ldr, pm_e_lk, pm_e_r, pm_e_ri, pm_e_rm0, pm_e_rm1, pm_e_rs0, pm_e_rs1, pm_e_wp0, pm_e_wp1, pm_f2, pm_f3, pm_fld, pm_fv, pm_obj, pm_recv, pm_s_aload_n, pm_s_getfield, pm_s_goto, pm_s_iadd, pm_s_iaload, pm_s_iconst, pm_s_ifCond_eq, pm_s_ifCond_ne, pm_s_if_icmp_eq, pm_s_if_icmp_ge, pm_s_iinc, pm_s_iload, pm_s_iload_n, pm_s_imul, pm_s_invokevirtual, pm_s_ireturn, pm_s_istore, pm_s_istore_n, ct_X4_longestRow, pS, pR, pC, pE, pL, -Int32.not_le, -Int32.not_lt, -Int64.not_le, -Int64.not_lt, -List.getD_eq_getElem?_getD, st_0 hp, st_2 hp, sx_1, m5]
          simp (disch := omega) only [ni_in, ni_cl, ni_add, ni_mul, ni_sub, ni_lt, ni_le, ni_eq, ni_eq0, ni_lt0, ni_0le, ni_0lt, ni_le0, ni_a1, ni_a3, ni_a7, ni_a15, hS.n (show i < 4 by omega)]
          refine ⟨fun h => by omega, fun _ => ⟨fun h => h48 (by simp [h]), fun h => ⟨fun h' => h48 (by simp [h']), fun h' => ⟨by omega, fun h'' => h48 ?_, fun h'' => ?_⟩⟩⟩⟩
          · have : ¬ S.1 i = [] := fun z => h'' (by rw [z]; rfl)
            simp [this]
          · have : S.1 i = [] := List.length_eq_zero_iff.mp h''
            exact h49 true (by simp [h, h', this])
        · have e1 : i = c := by omega
          subst e1
          refine hb10 _ _ _ ?_
          simp (maxSteps := 2000000) [bk_X4_longestRow_0, bk_X4_longestRow_10, bk_X4_longestRow_48, bk_X4_longestRow_49, bk_X4_longestRow_71, bk_X4_longestRow_77, pm_arr, pm_call, pm_e_c0, pm_e_c1, pm_e_cti, pm_e_ctl, pm_e_ctr, pm_e_go, pm_e_i, pm_e_ii, pm_e_ldi, pm_e_ldr, pm_e_lk, pm_e_r, pm_e_ri, pm_e_rm0, pm_e_rm1, pm_e_rs0, pm_e_rs1, pm_e_wp0, pm_e_wp1, pm_f2, pm_f3, pm_fld, pm_fv, pm_obj, pm_recv, pm_s_aload_n, pm_s_getfield, pm_s_goto, pm_s_iadd, pm_s_iaload, pm_s_iconst, pm_s_ifCond_eq, pm_s_ifCond_ne, pm_s_if_icmp_eq, pm_s_if_icmp_ge, pm_s_iinc, pm_s_iload, pm_s_iload_n, pm_s_imul, pm_s_invokevirtual, pm_s_ireturn, pm_s_istore, pm_s_istore_n, ct_X4_longestRow, pS, pR, pC, pE, pL, -Int32.not_le, -Int32.not_lt, -Int64.not_le, -Int64.not_lt, -List.getD_eq_getElem?_getD, st_0 hp, sx_1, m5]
          exact out
    refine hb0 _ _ _ ?_
    simp (maxSteps := 2000000) [bk_X4_longestRow_0, bk_X4_longestRow_10, bk_X4_longestRow_48, bk_X4_longestRow_49, bk_X4_longestRow_71, bk_X4_longestRow_77, pm_arr, pm_call, pm_e_c0, pm_e_c1, pm_e_cti, pm_e_ctl, pm_e_ctr, pm_e_go, pm_e_i, pm_e_ii, pm_e_ldi, pm_e_ldr, pm_e_lk, pm_e_r, pm_e_ri, pm_e_rm0, pm_e_rm1, pm_e_rs0, pm_e_rs1, pm_e_wp0, pm_e_wp1, pm_f2, pm_f3, pm_fld, pm_fv, pm_obj, pm_recv, pm_s_aload_n, pm_s_getfield, pm_s_goto, pm_s_iadd, pm_s_iaload, pm_s_iconst, pm_s_ifCond_eq, pm_s_ifCond_ne, pm_s_if_icmp_eq, pm_s_if_icmp_ge, pm_s_iinc, pm_s_iload, pm_s_iload_n, pm_s_imul, pm_s_invokevirtual, pm_s_ireturn, pm_s_istore, pm_s_istore_n, ct_X4_longestRow, pS, pR, pC, pE, pL, -Int32.not_le, -Int32.not_lt, -Int64.not_le, -Int64.not_lt, -List.getD_eq_getElem?_getD, lv_args, st_0 hp]
    refine ⟨ec, S, hp, hS, ?_⟩
    simp (maxSteps := 2000000) [bk_X4_longestRow_0, bk_X4_longestRow_10, bk_X4_longestRow_48, bk_X4_longestRow_49, bk_X4_longestRow_71, bk_X4_longestRow_77, pm_arr, pm_call, pm_e_c0, pm_e_c1, pm_e_cti, pm_e_ctl, pm_e_ctr, pm_e_go, pm_e_i, pm_e_ii, pm_e_ldi, pm_e_ldr, pm_e_lk, pm_e_r, pm_e_ri, pm_e_rm0, pm_e_rm1, pm_e_rs0, pm_e_rs1, pm_e_wp0, pm_e_wp1, pm_f2, pm_f3, pm_fld, pm_fv, pm_obj, pm_recv, pm_s_aload_n, pm_s_getfield, pm_s_goto, pm_s_iadd, pm_s_iaload, pm_s_iconst, pm_s_ifCond_eq, pm_s_ifCond_ne, pm_s_if_icmp_eq, pm_s_if_icmp_ge, pm_s_iinc, pm_s_iload, pm_s_iload_n, pm_s_imul, pm_s_invokevirtual, pm_s_ireturn, pm_s_istore, pm_s_istore_n, ct_X4_longestRow, pS, pR, pC, pE, pL, -Int32.not_le, -Int32.not_lt, -Int64.not_le, -Int64.not_lt, -List.getD_eq_getElem?_getD]
    simp only [ni_add]
    have := loop c 0 (by omega) (by omega)
    rw [show cnt 0 (helpF (s, r, c, e, w) S a b) = 0 from rfl, Nat.pow_zero, Nat.mul_one] at this
    exact this
  · exact hT.elim
/-- may the last n cards of a go onto b as a row -/
def canF (P : Pm) (ec : Nat) (S : St) (a b n : Nat) : Bool :=
  decide (n ≤ (S.1 a).length) && decide (n ≤ longF P ec S a b) && !(anyN (S.1 a).length (fun i => decide ((S.1 a).length - n < i) && !letF P ((S.1 a).getD i 0) ((S.1 a).getD (i - 1) 0))) && letF P ((S.1 a).getD ((S.1 a).length - n) 0) (lastC (S.1 b))
theorem longF_le {P : Pm} (hP : okP P) (ec : Nat) (S : St) (a b : Nat) : longF P ec S a b ≤ 48 := by
  have h1 := nfc_le ec S
  have h2 := pow_le16 (n := cnt (pC P) (helpF P S a b)) (by have := cnt_le (pC P) (helpF P S a b); have := hP.2.2.2.2.2.2.1; omega)
  unfold longF
  calc _ ≤ 3 * 16 := Nat.mul_le_mul (by omega) h2
    _ = 48 := rfl
def tt_X4_canShiftRow : pm_T := fun args M k => match args with
  | [.ref p, .int x, .int y, .int z] => ∃ ec S P a b n, isSt p ∧ x = nI a ∧ y = nI b ∧ z = nI n ∧ SdX M p ec S ∧ DkX M P ∧ inD P S ∧ a < 4 ∧ b < 4 ∧ 1 ≤ n ∧ n < 2 ^ 31 ∧ k (some (.int (pb (canF P ec S a b n)))) M
  | _ => False
abbrev ct_X4_canShiftRow : List pm_C := [(false, 116, 4, 3, (some .int), tt_X4_longestRow), (false, 70, 4, 3, (some .int), tt_X4_cardAt), (false, 93, 0, 3, (some .boolean), tt_X0_allows), (false, 79, 4, 2, (some .int), tt_X4_lastOf)]
set_option maxHeartbeats 4000000 in
theorem sm_X4_canShiftRow  : pm_Sem SHx yX4_canShiftRow cX4_canShiftRow 6 (some .boolean) 3 tt_X4_canShiftRow := by
  refine pm_Sem_intro bl_X4_canShiftRow ct_X4_canShiftRow cs_X4_canShiftRow rfl (List.forall_mem_cons.mpr ⟨⟨_, _, _, _, sm_X4_longestRow, by decide, cm_X4_longestRow, by decide +kernel⟩, List.forall_mem_cons.mpr ⟨⟨_, _, _, _, sm_X4_cardAt, by decide, cm_X4_cardAt, by decide +kernel⟩, List.forall_mem_cons.mpr ⟨⟨_, _, _, _, sm_X0_allows, by decide, cm_X0_allows, by decide +kernel⟩, List.forall_mem_cons.mpr ⟨⟨_, _, _, _, sm_X4_lastOf, by decide, cm_X4_lastOf, by decide +kernel⟩, fun _ h => absurd h List.not_mem_nil⟩⟩⟩⟩) ck_X4_canShiftRow (by decide +kernel) (by decide) ?_
  intro X k hX args M hT
  have hb0 := hX 0 bk_X4_canShiftRow_0 (List.mem_of_getElem? (i := 0) rfl)
  have hb25 := hX 25 bk_X4_canShiftRow_25 (List.mem_of_getElem? (i := 1) rfl)
  have hb27 := hX 27 bk_X4_canShiftRow_27 (List.mem_of_getElem? (i := 2) rfl)
  have hb33 := hX 33 bk_X4_canShiftRow_33 (List.mem_of_getElem? (i := 3) rfl)
  have hb72 := hX 72 bk_X4_canShiftRow_72 (List.mem_of_getElem? (i := 4) rfl)
  have hb78 := hX 78 bk_X4_canShiftRow_78 (List.mem_of_getElem? (i := 5) rfl)
  clear hX
  unfold tt_X4_canShiftRow at hT; split at hT
  · next p x y z =>
    obtain ⟨ec, S, P, a, b, n, hp, rfl, rfl, rfl, hS, hD, hI, ha, hb, n1, n2, hT⟩ := hT
    have hP := hD.1.1
    have hlen := hS.len ha
    have hlong := longF_le hP ec S a b
    have hcard : ∀ i, i < (S.1 a).length → 1 ≤ (S.1 a).getD i 0 ∧ (S.1 a).getD i 0 ≤ pS P * pR P := fun i hi => ⟨((hS.1.1 a ha).2 _ (getD_mem hi)).1, hI.1 a ha _ (getD_mem hi)⟩
    refine ⟨by simp [lg_sl, Value.category], ?_⟩
    have no : canF P ec S a b n = false → X 25 [] [] M := by
      intro hq
      refine hb25 _ _ _ ?_
      simp (maxSteps := 2000000) [bk_X4_canShiftRow_0, bk_X4_canShiftRow_25, bk_X4_canShiftRow_27, bk_X4_canShiftRow_33, bk_X4_canShiftRow_72, bk_X4_canShiftRow_78, pm_arr, pm_call, pm_e_c0, pm_e_c1, pm_e_cti, pm_e_ctl, pm_e_ctr, pm_e_go, pm_e_i, pm_e_ii, pm_e_ldi, pm_e_ldr, pm_e_lk, pm_e_r, pm_e_ri, pm_e_rm0, pm_e_rm1, pm_e_rs0, pm_e_rs1, pm_e_wp0, pm_e_wp1, pm_f2, pm_f3, pm_fld, pm_fv, pm_obj, pm_recv, pm_s_aload_n, pm_s_getfield, pm_s_goto, pm_s_iadd, pm_s_iaload, pm_s_iconst, pm_s_ifCond_lt, pm_s_ifCond_ne, pm_s_if_icmp_ge, pm_s_if_icmp_le, pm_s_iinc, pm_s_iload, pm_s_iload_n, pm_s_invokevirtual, pm_s_ireturn, pm_s_istore, pm_s_isub, ct_X4_canShiftRow, tt_X0_allows, pS, pR, pC, pE, pL, -Int32.not_le, -Int32.not_lt, -Int64.not_le, -Int64.not_lt, -List.getD_eq_getElem?_getD, ni_0]
      rw [hq] at hT
      first | exact hT | exact ⟨Or.inl rfl, hT⟩ | exact ⟨Or.inr rfl, hT⟩ | exact ⟨Or.inl trivial, hT⟩ | exact ⟨Or.inr trivial, hT⟩
    generalize hql : (fun i => decide ((S.1 a).length - n < i) && !letF P ((S.1 a).getD i 0) ((S.1 a).getD (i - 1) 0)) = q at *
    have hqi : ∀ i, q i = (decide ((S.1 a).length - n < i) && !letF P ((S.1 a).getD i 0) ((S.1 a).getD (i - 1) 0)) := fun i => by rw [← hql]
    have h27 : n ≤ (S.1 a).length → n ≤ longF P ec S a b → X 27 [(0, .ref p), (1, .int (nI a)), (2, .int (nI b)), (4, .int (nI ((S.1 a).length - n)))] [] M := by
      intro hn hn2
      have hcf : canF P ec S a b n = (!(anyN (S.1 a).length q) && letF P ((S.1 a).getD ((S.1 a).length - n) 0) (lastC (S.1 b))) := by
        unfold canF; rw [decide_eq_true hn, decide_eq_true hn2, hql]; rfl
      rw [hcf] at hT
      have out : (∀ i, i < (S.1 a).length → q i = false) → X 78 [(0, .ref p), (1, .int (nI a)), (2, .int (nI b)), (4, .int (nI ((S.1 a).length - n)))] [] M := by
        intro hA
        rw [anyN_no hA] at hT
        refine hb78 _ _ _ ?_
        simp (maxSteps := 2000000) [bk_X4_canShiftRow_0, bk_X4_canShiftRow_25, bk_X4_canShiftRow_27, bk_X4_canShiftRow_33, bk_X4_canShiftRow_72, bk_X4_canShiftRow_78, pm_arr, pm_call, pm_e_c0, pm_e_c1, pm_e_cti, pm_e_ctl, pm_e_ctr, pm_e_go, pm_e_i, pm_e_ii, pm_e_ldi, pm_e_ldr, pm_e_lk, pm_e_r, pm_e_ri, pm_e_rm0, pm_e_rm1, pm_e_rs0, pm_e_rs1, pm_e_wp0, pm_e_wp1, pm_f2, pm_f3, pm_fld, pm_fv, pm_obj, pm_recv, pm_s_aload_n, pm_s_getfield, pm_s_goto, pm_s_iadd, pm_s_iaload, pm_s_iconst, pm_s_ifCond_lt, pm_s_ifCond_ne, pm_s_if_icmp_ge, pm_s_if_icmp_le, pm_s_iinc, pm_s_iload, pm_s_iload_n, pm_s_invokevirtual, pm_s_ireturn, pm_s_istore, pm_s_isub, ct_X4_canShiftRow, tt_X0_allows, pS, pR, pC, pE, pL, -Int32.not_le, -Int32.not_lt, -Int64.not_le, -Int64.not_lt, -List.getD_eq_getElem?_getD, st_0 hp, sx_1]
        refine ⟨ec, S, a, hp, rfl, hS, ha, fun j hj ej => ?_, fun h => absurd rfl (h _ (by omega))⟩
        rw [ni_eq (by omega) (by omega)] at ej
        subst ej
        simp (maxSteps := 2000000) [bk_X4_canShiftRow_0, bk_X4_canShiftRow_25, bk_X4_canShiftRow_27, bk_X4_canShiftRow_33, bk_X4_canShiftRow_72, bk_X4_canShiftRow_78, pm_arr, pm_call, pm_e_c0, pm_e_c1, pm_e_cti, pm_e_ctl, pm_e_ctr, pm_e_go, pm_e_i, pm_e_ii, pm_e_ldi, pm_e_ldr, pm_e_lk, pm_e_r, pm_e_ri, pm_e_rm0, pm_e_rm1, pm_e_rs0, pm_e_rs1, pm_e_wp0, pm_e_wp1, pm_f2, pm_f3, pm_fld, pm_fv, pm_obj, pm_recv, pm_s_aload_n, pm_s_getfield, pm_s_goto, pm_s_iadd, pm_s_iaload, pm_s_iconst, pm_s_ifCond_lt, pm_s_ifCond_ne, pm_s_if_icmp_ge, pm_s_if_icmp_le, pm_s_iinc, pm_s_iload, pm_s_iload_n, pm_s_invokevirtual, pm_s_ireturn, pm_s_istore, pm_s_isub, ct_X4_canShiftRow, tt_X0_allows, pS, pR, pC, pE, pL, -Int32.not_le, -Int32.not_lt, -Int64.not_le, -Int64.not_lt, -List.getD_eq_getElem?_getD, st_0 hp, sx_1]
        refine ⟨ec, S, b, hp, rfl, hS, hb, ?_⟩
        simp (maxSteps := 2000000) [bk_X4_canShiftRow_0, bk_X4_canShiftRow_25, bk_X4_canShiftRow_27, bk_X4_canShiftRow_33, bk_X4_canShiftRow_72, bk_X4_canShiftRow_78, pm_arr, pm_call, pm_e_c0, pm_e_c1, pm_e_cti, pm_e_ctl, pm_e_ctr, pm_e_go, pm_e_i, pm_e_ii, pm_e_ldi, pm_e_ldr, pm_e_lk, pm_e_r, pm_e_ri, pm_e_rm0, pm_e_rm1, pm_e_rs0, pm_e_rs1, pm_e_wp0, pm_e_wp1, pm_f2, pm_f3, pm_fld, pm_fv, pm_obj, pm_recv, pm_s_aload_n, pm_s_getfield, pm_s_goto, pm_s_iadd, pm_s_iaload, pm_s_iconst, pm_s_ifCond_lt, pm_s_ifCond_ne, pm_s_if_icmp_ge, pm_s_if_icmp_le, pm_s_iinc, pm_s_iload, pm_s_iload_n, pm_s_invokevirtual, pm_s_ireturn, pm_s_istore, pm_s_isub, ct_X4_canShiftRow, tt_X0_allows, pS, pR, pC, pE, pL, -Int32.not_le, -Int32.not_lt, -Int64.not_le, -Int64.not_lt, -List.getD_eq_getElem?_getD, sx_1]
        have hc := hcard ((S.1 a).length - n) (by omega)
        rw [al_let hD hc.1 hc.2 (lastC_in (hI.1 b hb))]
        refine ⟨?_, hT⟩
        first | exact (pb_01 ▸ trivial) | (rw [pb_01]; trivial) | trivial
      have loop : ∀ (f i : Nat), (S.1 a).length ≤ i + f → (S.1 a).length - n + 1 ≤ i → i ≤ (S.1 a).length → (∀ j, j < i → q j = false) → X 33 [(0, .ref p), (1, .int (nI a)), (2, .int (nI b)), (4, .int (nI ((S.1 a).length - n))), (5, .int (nI i))] [] M := by
        intro f
        induction f with
        | zero =>
          intro i f1 f2 f3 hA
          refine hb33 _ _ _ ?_
          simp (maxSteps := 2000000) [bk_X4_canShiftRow_0, bk_X4_canShiftRow_25, bk_X4_canShiftRow_27, bk_X4_canShiftRow_33, bk_X4_canShiftRow_72, bk_X4_canShiftRow_78, pm_arr, pm_call, pm_e_c0, pm_e_c1, pm_e_cti, pm_e_ctl, pm_e_ctr, pm_e_go, pm_e_i, pm_e_ii, pm_e_ldi, pm_e_ldr, pm_e_lk, pm_e_r, pm_e_ri, pm_e_rm0, pm_e_rm1, pm_e_rs0, pm_e_rs1, pm_e_wp0, pm_e_wp1, pm_f2, pm_f3, pm_fld, pm_fv, pm_obj, pm_recv, pm_s_aload_n, pm_s_getfield, pm_s_goto, pm_s_iadd, pm_s_iaload, pm_s_iconst, pm_s_ifCond_lt, pm_s_ifCond_ne, pm_s_if_icmp_ge, pm_s_if_icmp_le, pm_s_iinc, pm_s_iload, pm_s_iload_n, pm_s_invokevirtual, pm_s_ireturn, pm_s_istore, pm_s_isub, ct_X4_canShiftRow, tt_X0_allows, pS, pR, pC, pE, pL, -Int32.not_le, -Int32.not_lt, -Int64.not_le, -Int64.not_lt, -List.getD_eq_getElem?_getD, st_0 hp, st_2 hp]
          simp (disch := omega) only [ni_in, ni_cl, ni_add, ni_mul, ni_sub, ni_lt, ni_le, ni_eq, ni_eq0, ni_lt0, ni_0le, ni_0lt, ni_le0, ni_a1, ni_a3, ni_a7, ni_a15, hS.n ha]
          exact ⟨by omega, fun _ => out (fun j hj => hA j (by omega)), fun h => by omega⟩
        | succ f ih =>
          intro i f1 f2 f3 hA
          refine hb33 _ _ _ ?_
          simp (maxSteps := 2000000) [bk_X4_canShiftRow_0, bk_X4_canShiftRow_25, bk_X4_canShiftRow_27, bk_X4_canShiftRow_33, bk_X4_canShiftRow_72, bk_X4_canShiftRow_78, pm_arr, pm_call, pm_e_c0, pm_e_c1, pm_e_cti, pm_e_ctl, pm_e_ctr, pm_e_go, pm_e_i, pm_e_ii, pm_e_ldi, pm_e_ldr, pm_e_lk, pm_e_r, pm_e_ri, pm_e_rm0, pm_e_rm1, pm_e_rs0, pm_e_rs1, pm_e_wp0, pm_e_wp1, pm_f2, pm_f3, pm_fld, pm_fv, pm_obj, pm_recv, pm_s_aload_n, pm_s_getfield, pm_s_goto, pm_s_iadd, pm_s_iaload, pm_s_iconst, pm_s_ifCond_lt, pm_s_ifCond_ne, pm_s_if_icmp_ge, pm_s_if_icmp_le, pm_s_iinc, pm_s_iload, pm_s_iload_n, pm_s_invokevirtual, pm_s_ireturn, pm_s_istore, pm_s_isub, ct_X4_canShiftRow, tt_X0_allows, pS, pR, pC, pE, pL, -Int32.not_le, -Int32.not_lt, -Int64.not_le, -Int64.not_lt, -List.getD_eq_getElem?_getD, st_0 hp, st_2 hp]
          simp (disch := omega) only [ni_in, ni_cl, ni_add, ni_mul, ni_sub, ni_lt, ni_le, ni_eq, ni_eq0, ni_lt0, ni_0le, ni_0lt, ni_le0, ni_a1, ni_a3, ni_a7, ni_a15, hS.n ha]
          refine ⟨by omega, fun _ => out (fun j hj => hA j (by omega)), fun h => ?_⟩
          refine ⟨ec, S, a, hp, rfl, hS, ha, fun j hj ej => ?_, fun h => absurd rfl (h i (by omega))⟩
          rw [ni_eq (by omega) (by omega)] at ej
          subst ej
          simp (maxSteps := 2000000) [bk_X4_canShiftRow_0, bk_X4_canShiftRow_25, bk_X4_canShiftRow_27, bk_X4_canShiftRow_33, bk_X4_canShiftRow_72, bk_X4_canShiftRow_78, pm_arr, pm_call, pm_e_c0, pm_e_c1, pm_e_cti, pm_e_ctl, pm_e_ctr, pm_e_go, pm_e_i, pm_e_ii, pm_e_ldi, pm_e_ldr, pm_e_lk, pm_e_r, pm_e_ri, pm_e_rm0, pm_e_rm1, pm_e_rs0, pm_e_rs1, pm_e_wp0, pm_e_wp1, pm_f2, pm_f3, pm_fld, pm_fv, pm_obj, pm_recv, pm_s_aload_n, pm_s_getfield, pm_s_goto, pm_s_iadd, pm_s_iaload, pm_s_iconst, pm_s_ifCond_lt, pm_s_ifCond_ne, pm_s_if_icmp_ge, pm_s_if_icmp_le, pm_s_iinc, pm_s_iload, pm_s_iload_n, pm_s_invokevirtual, pm_s_ireturn, pm_s_istore, pm_s_isub, ct_X4_canShiftRow, tt_X0_allows, pS, pR, pC, pE, pL, -Int32.not_le, -Int32.not_lt, -Int64.not_le, -Int64.not_lt, -List.getD_eq_getElem?_getD, st_0 hp, sx_1]
          refine ⟨ec, S, a, hp, rfl, hS, ha, fun j hj ej => ?_, fun h => absurd rfl (h (i - 1) (by omega))⟩
          rw [ni_eq (by omega) (by omega)] at ej
          subst ej
          simp (maxSteps := 2000000) [bk_X4_canShiftRow_0, bk_X4_canShiftRow_25, bk_X4_canShiftRow_27, bk_X4_canShiftRow_33, bk_X4_canShiftRow_72, bk_X4_canShiftRow_78, pm_arr, pm_call, pm_e_c0, pm_e_c1, pm_e_cti, pm_e_ctl, pm_e_ctr, pm_e_go, pm_e_i, pm_e_ii, pm_e_ldi, pm_e_ldr, pm_e_lk, pm_e_r, pm_e_ri, pm_e_rm0, pm_e_rm1, pm_e_rs0, pm_e_rs1, pm_e_wp0, pm_e_wp1, pm_f2, pm_f3, pm_fld, pm_fv, pm_obj, pm_recv, pm_s_aload_n, pm_s_getfield, pm_s_goto, pm_s_iadd, pm_s_iaload, pm_s_iconst, pm_s_ifCond_lt, pm_s_ifCond_ne, pm_s_if_icmp_ge, pm_s_if_icmp_le, pm_s_iinc, pm_s_iload, pm_s_iload_n, pm_s_invokevirtual, pm_s_ireturn, pm_s_istore, pm_s_isub, ct_X4_canShiftRow, tt_X0_allows, pS, pR, pC, pE, pL, -Int32.not_le, -Int32.not_lt, -Int64.not_le, -Int64.not_lt, -List.getD_eq_getElem?_getD, sx_1]
          have hc := hcard i (by omega)
          have hc' := hcard (i - 1) (by omega)
          rw [al_let hD hc.1 hc.2 hc'.2, pb_eq0]
          refine ⟨fun h' => ?_, fun h' => ?_⟩
          · refine hb72 _ _ _ ?_
            simp (maxSteps := 2000000) [bk_X4_canShiftRow_0, bk_X4_canShiftRow_25, bk_X4_canShiftRow_27, bk_X4_canShiftRow_33, bk_X4_canShiftRow_72, bk_X4_canShiftRow_78, pm_arr, pm_call, pm_e_c0, pm_e_c1, pm_e_cti, pm_e_ctl, pm_e_ctr, pm_e_go, pm_e_i, pm_e_ii, pm_e_ldi, pm_e_ldr, pm_e_lk, pm_e_r, pm_e_ri, pm_e_rm0, pm_e_rm1, pm_e_rs0, pm_e_rs1, pm_e_wp0, pm_e_wp1, pm_f2, pm_f3, pm_fld, pm_fv, pm_obj, pm_recv, pm_s_aload_n, pm_s_getfield, pm_s_goto, pm_s_iadd, pm_s_iaload, pm_s_iconst, pm_s_ifCond_lt, pm_s_ifCond_ne, pm_s_if_icmp_ge, pm_s_if_icmp_le, pm_s_iinc, pm_s_iload, pm_s_iload_n, pm_s_invokevirtual, pm_s_ireturn, pm_s_istore, pm_s_isub, ct_X4_canShiftRow, tt_X0_allows, pS, pR, pC, pE, pL, -Int32.not_le, -Int32.not_lt, -Int64.not_le, -Int64.not_lt, -List.getD_eq_getElem?_getD]
            simp only [ni_add]
            refine ih (i + 1) (by omega) (by omega) (by omega) (fun j hj => ?_)
            rcases Nat.lt_or_ge j i with z | z
            · exact hA j z
            · have : j = i := by omega
              subst this
              rw [hqi]; simp at h'; simp [h']
          · have : anyN (S.1 a).length q = true := anyN_iff.mpr ⟨i, by omega, by rw [hqi, h', decide_eq_true (by omega)]; rfl⟩
            rw [this] at hT
            first | exact hT | exact ⟨Or.inl rfl, hT⟩ | exact ⟨Or.inr rfl, hT⟩ | exact ⟨Or.inl trivial, hT⟩ | exact ⟨Or.inr trivial, hT⟩
      refine hb27 _ _ _ ?_
      simp (maxSteps := 2000000) [bk_X4_canShiftRow_0, bk_X4_canShiftRow_25, bk_X4_canShiftRow_27, bk_X4_canShiftRow_33, bk_X4_canShiftRow_72, bk_X4_canShiftRow_78, pm_arr, pm_call, pm_e_c0, pm_e_c1, pm_e_cti, pm_e_ctl, pm_e_ctr, pm_e_go, pm_e_i, pm_e_ii, pm_e_ldi, pm_e_ldr, pm_e_lk, pm_e_r, pm_e_ri, pm_e_rm0, pm_e_rm1, pm_e_rs0, pm_e_rs1, pm_e_wp0, pm_e_wp1, pm_f2, pm_f3, pm_fld, pm_fv, pm_obj, pm_recv, pm_s_aload_n, pm_s_getfield, pm_s_goto, pm_s_iadd, pm_s_iaload, pm_s_iconst, pm_s_ifCond_lt, pm_s_ifCond_ne, pm_s_if_icmp_ge, pm_s_if_icmp_le, pm_s_iinc, pm_s_iload, pm_s_iload_n, pm_s_invokevirtual, pm_s_ireturn, pm_s_istore, pm_s_isub, ct_X4_canShiftRow, tt_X0_allows, pS, pR, pC, pE, pL, -Int32.not_le, -Int32.not_lt, -Int64.not_le, -Int64.not_lt, -List.getD_eq_getElem?_getD]
      simp only [ni_add]
      refine loop n _ (by omega) (by omega) (by omega) (fun j hj => ?_)
      rw [hqi, decide_eq_false (by omega)]; rfl
    refine hb0 _ _ _ ?_
    simp (maxSteps := 2000000) [bk_X4_canShiftRow_0, bk_X4_canShiftRow_25, bk_X4_canShiftRow_27, bk_X4_canShiftRow_33, bk_X4_canShiftRow_72, bk_X4_canShiftRow_78, pm_arr, pm_call, pm_e_c0, pm_e_c1, pm_e_cti, pm_e_ctl, pm_e_ctr, pm_e_go, pm_e_i, pm_e_ii, pm_e_ldi, pm_e_ldr, pm_e_lk, pm_e_r, pm_e_ri, pm_e_rm0, pm_e_rm1, pm_e_rs0, pm_e_rs1, pm_e_wp0, pm_e_wp1, pm_f2, pm_f3, pm_fld, pm_fv, pm_obj, pm_recv, pm_s_aload_n, pm_s_getfield, pm_s_goto, pm_s_iadd, pm_s_iaload, pm_s_iconst, pm_s_ifCond_lt, pm_s_ifCond_ne, pm_s_if_icmp_ge, pm_s_if_icmp_le, pm_s_iinc, pm_s_iload, pm_s_iload_n, pm_s_invokevirtual, pm_s_ireturn, pm_s_istore, pm_s_isub, ct_X4_canShiftRow, tt_X0_allows, pS, pR, pC, pE, pL, -Int32.not_le, -Int32.not_lt, -Int64.not_le, -Int64.not_lt, -List.getD_eq_getElem?_getD, lv_args, st_0 hp, st_2 hp]
    simp (disch := omega) only [ni_in, ni_cl, ni_add, ni_mul, ni_sub, ni_lt, ni_le, ni_eq, ni_eq0, ni_lt0, ni_0le, ni_0lt, ni_le0, ni_a1, ni_a3, ni_a7, ni_a15, hS.n ha]
    refine ⟨by omega, ?_⟩
    by_cases hn : n ≤ (S.1 a).length
    · rw [ni_sub hn, ni_lt0 (by omega)]
      refine ⟨fun h => h.elim, fun _ => ?_⟩
      refine ⟨ec, S, P, a, b, hp, rfl, rfl, hS, hD, ha, hb, ?_⟩
      simp (maxSteps := 2000000) [bk_X4_canShiftRow_0, bk_X4_canShiftRow_25, bk_X4_canShiftRow_27, bk_X4_canShiftRow_33, bk_X4_canShiftRow_72, bk_X4_canShiftRow_78, pm_arr, pm_call, pm_e_c0, pm_e_c1, pm_e_cti, pm_e_ctl, pm_e_ctr, pm_e_go, pm_e_i, pm_e_ii, pm_e_ldi, pm_e_ldr, pm_e_lk, pm_e_r, pm_e_ri, pm_e_rm0, pm_e_rm1, pm_e_rs0, pm_e_rs1, pm_e_wp0, pm_e_wp1, pm_f2, pm_f3, pm_fld, pm_fv, pm_obj, pm_recv, pm_s_aload_n, pm_s_getfield, pm_s_goto, pm_s_iadd, pm_s_iaload, pm_s_iconst, pm_s_ifCond_lt, pm_s_ifCond_ne, pm_s_if_icmp_ge, pm_s_if_icmp_le, pm_s_iinc, pm_s_iload, pm_s_iload_n, pm_s_invokevirtual, pm_s_ireturn, pm_s_istore, pm_s_isub, ct_X4_canShiftRow, tt_X0_allows, pS, pR, pC, pE, pL, -Int32.not_le, -Int32.not_lt, -Int64.not_le, -Int64.not_lt, -List.getD_eq_getElem?_getD]
      simp (disch := omega) only [ni_in, ni_cl, ni_add, ni_mul, ni_sub, ni_lt, ni_le, ni_eq, ni_eq0, ni_lt0, ni_0le, ni_0lt, ni_le0, ni_a1, ni_a3, ni_a7, ni_a15]
      refine ⟨fun h => h27 hn h, fun h => no ?_⟩
      unfold canF; rw [decide_eq_false h]; simp
    · have hneg : nI (S.1 a).length - nI n < 0 := by
        rw [Int32.lt_iff_toInt_lt, Int32.toInt_sub, nI_toInt (by omega), nI_toInt n2, Int.bmod_def, show (0 : Int32).toInt = 0 from rfl]
        split <;> omega
      refine ⟨fun _ => no ?_, fun h => absurd hneg h⟩
      unfold canF; rw [decide_eq_false hn]; simp
  · exact hT.elim
end
section
/-! THE ORDER OF THE COLUMNS -/
def al (l : List Nat) : Nat := pq l * 16 ^ (12 - l.length)
def ky (S : St) (i : Nat) : Nat := al (S.1 i) * 4 + i
theorem al_lt {l : List Nat} (h : ∀ d ∈ l, d < 16) (hn : l.length ≤ 12) : al l < 2 ^ 48 := by
  have h1 := pq_lt h
  unfold al
  have e : (16 : Nat) ^ l.length * 16 ^ (12 - l.length) = 2 ^ 48 := by rw [← Nat.pow_add, Nat.add_sub_cancel' hn]
  calc _ < 16 ^ l.length * 16 ^ (12 - l.length) := Nat.mul_lt_mul_of_pos_right h1 (Nat.pow_pos (by decide))
    _ = 2 ^ 48 := e
theorem SdX.m5 {M M' : pm_M} {p ec : Nat} {S : St} (h : SdX M p ec S) (hf : pm_fr [p + 5] M M') : SdX M' p ec S := by
  obtain ⟨a, b, c, d, e⟩ := h
  refine ⟨a, b, ?_, fun i hi => ⟨?_, ?_, ?_⟩, fun j hj => ?_⟩
  · rw [hf.i (by simp)]; exact c
  · rw [hf.l (by simp)]; exact (d i hi).1
  · rw [hf.i (by simp)]; exact (d i hi).2.1
  · rw [hf.i (by simp)]; exact (d i hi).2.2
  · rw [hf.i (by simp)]; exact e j hj
theorem lgc {a b : Nat} (ha : a < 2 ^ 63) (hb : b < 2 ^ 63) : (lg_cmp (lN a) (lN b) ≤ 0) = (a ≤ b) := propext ((lg_cmp_le _ _).trans (pk_lLE ha hb))
theorem ni_m1 (n : Nat) : nI (n + 1) + -nI 1 = nI n := pk_m1 n
def tt_X4_sortColumns : pm_T := fun args M k => match args with
  | [.ref p] => ∃ ec S, isSt p ∧ SdX M p ec S ∧ ∀ M' L, List.Perm L [ky S 0, ky S 1, ky S 2, ky S 3] → L.Pairwise (· < ·) → (∀ j, j < 4 → M'.2 (p + 5) j = lN (L.getD j 0)) → pm_fr [p + 5] M M' → k none M'
  | _ => False
abbrev ct_X4_sortColumns : List pm_C := []
set_option maxHeartbeats 4000000 in
theorem sm_X4_sortColumns  : pm_Sem SHx yX4_sortColumns cX4_sortColumns 7 none 1 tt_X4_sortColumns := by
  refine pm_Sem_intro bl_X4_sortColumns ct_X4_sortColumns cs_X4_sortColumns rfl (fun _ h => absurd h List.not_mem_nil) ck_X4_sortColumns (by decide +kernel) (by decide) ?_
  intro X k hX args M hT
  have hb0 := hX 0 bk_X4_sortColumns_0 (List.mem_of_getElem? (i := 0) rfl)
  have hb2 := hX 2 bk_X4_sortColumns_2 (List.mem_of_getElem? (i := 1) rfl)
  have hb37 := hX 37 bk_X4_sortColumns_37 (List.mem_of_getElem? (i := 2) rfl)
  have hb79 := hX 79 bk_X4_sortColumns_79 (List.mem_of_getElem? (i := 3) rfl)
  have hb94 := hX 94 bk_X4_sortColumns_94 (List.mem_of_getElem? (i := 4) rfl)
  clear hX
  unfold tt_X4_sortColumns at hT; split at hT
  · next p =>
    obtain ⟨ec, S, hp, hS, hT⟩ := hT
    refine ⟨by simp [lg_sl, Value.category], ?_⟩
    have hk : ∀ i, i < 4 → ky S i < 2 ^ 52 := fun i hi => by have := al_lt (hS.d16 hi) (hS.len hi); unfold ky; omega
    have out : ∀ M' L, List.Perm L ((List.range 4).map (ky S)) → L.Pairwise (· < ·) → (∀ j, j < 4 → M'.2 (p + 5) j = lN (L.getD j 0)) → pm_fr [p + 5] M M' → X 94 [] [] M' := by
      intro M' L a1 a2 a3 a4
      refine hb94 _ _ _ ?_
      simp (maxSteps := 2000000) [bk_X4_sortColumns_0, bk_X4_sortColumns_2, bk_X4_sortColumns_37, bk_X4_sortColumns_79, bk_X4_sortColumns_94, pm_arr, pm_e_c0, pm_e_c1, pm_e_cti, pm_e_ctl, pm_e_ctr, pm_e_go, pm_e_i, pm_e_ii, pm_e_l, pm_e_ldi, pm_e_ldl, pm_e_ldr, pm_e_li, pm_e_lk, pm_e_ll, pm_e_r, pm_e_ri, pm_e_ril, pm_e_rm0, pm_e_rm1, pm_e_rs0, pm_e_rs1, pm_e_wp0, pm_e_wp1, pm_f2, pm_f3, pm_fld, pm_fv, pm_obj, pm_s_aload_n, pm_s_bipush, pm_s_getfield, pm_s_goto, pm_s_i2l, pm_s_iaload, pm_s_iconst, pm_s_ifCond_le, pm_s_if_icmp_ge, pm_s_iinc, pm_s_iload, pm_s_iload_n, pm_s_imul, pm_s_istore, pm_s_istore_n, pm_s_isub, pm_s_laload, pm_s_lastore, pm_s_lcmp, pm_s_lload, pm_s_lload_n, pm_s_lor, pm_s_lshl, pm_s_lstore, pm_s_lstore_n, pm_s_return, ct_X4_sortColumns, pS, pR, pC, pE, pL, -Int32.not_le, -Int32.not_lt, -Int64.not_le, -Int64.not_lt, -List.getD_eq_getElem?_getD]
      exact hT M' L a1 a2 a3 a4
    have loop : ∀ (f i : Nat) (M' : pm_M) (L : List Nat), 4 ≤ i + f → i ≤ 4 → List.Perm L ((List.range i).map (ky S)) → L.Pairwise (· < ·) → (∀ j, j < i → M'.2 (p + 5) j = lN (L.getD j 0)) → pm_fr [p + 5] M M' → X 2 [(0, .ref p), (1, .int (nI i))] [] M' := by
      intro f
      induction f with
      | zero =>
        intro i M' L f1 f2 a1 a2 a3 a4
        have e1 : i = 4 := by omega
        subst e1
        refine hb2 _ _ _ ?_
        simp (maxSteps := 2000000) [bk_X4_sortColumns_0, bk_X4_sortColumns_2, bk_X4_sortColumns_37, bk_X4_sortColumns_79, bk_X4_sortColumns_94, pm_arr, pm_e_c0, pm_e_c1, pm_e_cti, pm_e_ctl, pm_e_ctr, pm_e_go, pm_e_i, pm_e_ii, pm_e_l, pm_e_ldi, pm_e_ldl, pm_e_ldr, pm_e_li, pm_e_lk, pm_e_ll, pm_e_r, pm_e_ri, pm_e_ril, pm_e_rm0, pm_e_rm1, pm_e_rs0, pm_e_rs1, pm_e_wp0, pm_e_wp1, pm_f2, pm_f3, pm_fld, pm_fv, pm_obj, pm_s_aload_n, pm_s_bipush, pm_s_getfield, pm_s_goto, pm_s_i2l, pm_s_iaload, pm_s_iconst, pm_s_ifCond_le, pm_s_if_icmp_ge, pm_s_iinc, pm_s_iload, pm_s_iload_n, pm_s_imul, pm_s_istore, pm_s_istore_n, pm_s_isub, pm_s_laload, pm_s_lastore, pm_s_lcmp, pm_s_lload, pm_s_lload_n, pm_s_lor, pm_s_lshl, pm_s_lstore, pm_s_lstore_n, pm_s_return, ct_X4_sortColumns, pS, pR, pC, pE, pL, -Int32.not_le, -Int32.not_lt, -Int64.not_le, -Int64.not_lt, -List.getD_eq_getElem?_getD]
        exact out M' L a1 a2 a3 a4
      | succ f ih =>
        intro i M' L f1 f2 a1 a2 a3 a4
        by_cases hi : i < 4
        · have hS' := hS.m5 a4
          have hlen := hS.len hi
          have hpq := hS.p48 hi
          have hal := al_lt (hS.d16 hi) hlen
          have hki := hk i hi
          have hLlen : L.length = i := by have := a1.length_eq; simpa using this
          have hLb : ∀ v ∈ L, v < 2 ^ 52 ∧ v ≠ ky S i := by
            intro v hv
            have := a1.subset hv
            obtain ⟨j, j1, j2⟩ := List.mem_map.mp this
            rw [List.mem_range] at j1
            refine ⟨by rw [← j2]; exact hk j (by omega), fun z => ?_⟩
            have e : ky S j = ky S i := by rw [j2, z]
            unfold ky at e
            omega
          have inner : ∀ (A B : List Nat) (M' : pm_M), A ++ B = L → (∀ j, j < A.length → M'.2 (p + 5) j = lN (A.getD j 0)) → (∀ t, t < B.length → M'.2 (p + 5) (A.length + 1 + t) = lN (B.getD t 0)) → (∀ v ∈ B, ky S i < v) → pm_fr [p + 5] M M' → X 37 [(0, .ref p), (1, .int (nI i)), (4, .long (lN (ky S i))), (6, .int (nI A.length))] [] M' := by
            intro A
            have done : ∀ (A B : List Nat) (M' : pm_M), A ++ B = L → (∀ j, j < A.length → M'.2 (p + 5) j = lN (A.getD j 0)) → (∀ t, t < B.length → M'.2 (p + 5) (A.length + 1 + t) = lN (B.getD t 0)) → (∀ v ∈ B, ky S i < v) → (∀ v ∈ A, v < ky S i) → pm_fr [p + 5] M M' → X 79 [(0, .ref p), (1, .int (nI i)), (4, .long (lN (ky S i))), (6, .int (nI A.length))] [] M' := by
              intro A B M' b1 b2 b3 b4 b5 b6
              have hl : A.length + B.length = i := by rw [← hLlen, ← b1]; simp
              refine hb79 _ _ _ ?_
              simp (maxSteps := 2000000) [bk_X4_sortColumns_0, bk_X4_sortColumns_2, bk_X4_sortColumns_37, bk_X4_sortColumns_79, bk_X4_sortColumns_94, pm_arr, pm_e_c0, pm_e_c1, pm_e_cti, pm_e_ctl, pm_e_ctr, pm_e_go, pm_e_i, pm_e_ii, pm_e_l, pm_e_ldi, pm_e_ldl, pm_e_ldr, pm_e_li, pm_e_lk, pm_e_ll, pm_e_r, pm_e_ri, pm_e_ril, pm_e_rm0, pm_e_rm1, pm_e_rs0, pm_e_rs1, pm_e_wp0, pm_e_wp1, pm_f2, pm_f3, pm_fld, pm_fv, pm_obj, pm_s_aload_n, pm_s_bipush, pm_s_getfield, pm_s_goto, pm_s_i2l, pm_s_iaload, pm_s_iconst, pm_s_ifCond_le, pm_s_if_icmp_ge, pm_s_iinc, pm_s_iload, pm_s_iload_n, pm_s_imul, pm_s_istore, pm_s_istore_n, pm_s_isub, pm_s_laload, pm_s_lastore, pm_s_lcmp, pm_s_lload, pm_s_lload_n, pm_s_lor, pm_s_lshl, pm_s_lstore, pm_s_lstore_n, pm_s_return, ct_X4_sortColumns, pS, pR, pC, pE, pL, -Int32.not_le, -Int32.not_lt, -Int64.not_le, -Int64.not_lt, -List.getD_eq_getElem?_getD, st_0 hp, st_5 hp]
              simp (disch := omega) only [ni_in, ni_cl, ni_add, ni_mul, ni_sub, ni_lt, ni_le, ni_eq, ni_eq0, ni_lt0, ni_0le, ni_0lt, ni_le0, ni_a1, ni_a3, ni_a7, ni_a15]
              refine ⟨by omega, ?_⟩
              refine ih (i + 1) _ (A ++ ky S i :: B) (by omega) (by omega) ?_ ?_ ?_ (b6.setL (by simp))
              · rw [List.range_succ, List.map_append]
                refine List.Perm.trans List.perm_middle ?_
                rw [b1]
                refine List.Perm.trans (List.Perm.cons _ a1) ?_
                exact (List.perm_append_comm (l₁ := [ky S i]))
              · rw [← b1] at a2
                rw [List.pairwise_append] at a2 ⊢
                refine ⟨a2.1, List.pairwise_cons.mpr ⟨b4, a2.2.1⟩, fun u hu v hv => ?_⟩
                rcases List.mem_cons.mp hv with z | z
                · subst z; exact b5 u hu
                · exact a2.2.2 u hu v z
              · intro j hj
                simp only [me_4]
                rcases Nat.lt_trichotomy j A.length with z | z | z
                · rw [if_neg (by omega), b2 j z]
                  congr 1
                  simp [List.getD_eq_getElem?_getD, List.getElem?_append_left z]
                · subst z
                  simp [List.getD_eq_getElem?_getD]
                · obtain ⟨t, rfl⟩ : ∃ t, j = A.length + 1 + t := ⟨j - A.length - 1, by omega⟩
                  rw [if_neg (by omega), b3 t (by omega)]
                  congr 1
                  rw [List.getD_eq_getElem?_getD, List.getD_eq_getElem?_getD, List.getElem?_append_right (by omega), show A.length + 1 + t - A.length = t + 1 by omega, List.getElem?_cons_succ]
            induction A using rev_ind with
            | nil =>
              intro B M' b1 b2 b3 b4 b6
              refine hb37 _ _ _ ?_
              simp (maxSteps := 2000000) [bk_X4_sortColumns_0, bk_X4_sortColumns_2, bk_X4_sortColumns_37, bk_X4_sortColumns_79, bk_X4_sortColumns_94, pm_arr, pm_e_c0, pm_e_c1, pm_e_cti, pm_e_ctl, pm_e_ctr, pm_e_go, pm_e_i, pm_e_ii, pm_e_l, pm_e_ldi, pm_e_ldl, pm_e_ldr, pm_e_li, pm_e_lk, pm_e_ll, pm_e_r, pm_e_ri, pm_e_ril, pm_e_rm0, pm_e_rm1, pm_e_rs0, pm_e_rs1, pm_e_wp0, pm_e_wp1, pm_f2, pm_f3, pm_fld, pm_fv, pm_obj, pm_s_aload_n, pm_s_bipush, pm_s_getfield, pm_s_goto, pm_s_i2l, pm_s_iaload, pm_s_iconst, pm_s_ifCond_le, pm_s_if_icmp_ge, pm_s_iinc, pm_s_iload, pm_s_iload_n, pm_s_imul, pm_s_istore, pm_s_istore_n, pm_s_isub, pm_s_laload, pm_s_lastore, pm_s_lcmp, pm_s_lload, pm_s_lload_n, pm_s_lor, pm_s_lshl, pm_s_lstore, pm_s_lstore_n, pm_s_return, ct_X4_sortColumns, pS, pR, pC, pE, pL, -Int32.not_le, -Int32.not_lt, -Int64.not_le, -Int64.not_lt, -List.getD_eq_getElem?_getD, st_0 hp, st_5 hp]
              have := done [] B M' b1 b2 b3 b4 (fun v hv => by cases hv) b6
              exact ⟨fun _ => this, fun h => absurd (by decide) h⟩
            | snoc A a ihA =>
              intro B M' b1 b2 b3 b4 b6
              have hl : A.length + 1 + B.length = i := by rw [← hLlen, ← b1]; simp; omega
              have haL := hLb a (by rw [← b1]; simp)
              have hoa : M'.2 (p + 5) A.length = lN a := by
                have := b2 A.length (by simp)
                rw [this]; simp [List.getD_eq_getElem?_getD]
              refine hb37 _ _ _ ?_
              simp (maxSteps := 2000000) [bk_X4_sortColumns_0, bk_X4_sortColumns_2, bk_X4_sortColumns_37, bk_X4_sortColumns_79, bk_X4_sortColumns_94, pm_arr, pm_e_c0, pm_e_c1, pm_e_cti, pm_e_ctl, pm_e_ctr, pm_e_go, pm_e_i, pm_e_ii, pm_e_l, pm_e_ldi, pm_e_ldl, pm_e_ldr, pm_e_li, pm_e_lk, pm_e_ll, pm_e_r, pm_e_ri, pm_e_ril, pm_e_rm0, pm_e_rm1, pm_e_rs0, pm_e_rs1, pm_e_wp0, pm_e_wp1, pm_f2, pm_f3, pm_fld, pm_fv, pm_obj, pm_s_aload_n, pm_s_bipush, pm_s_getfield, pm_s_goto, pm_s_i2l, pm_s_iaload, pm_s_iconst, pm_s_ifCond_le, pm_s_if_icmp_ge, pm_s_iinc, pm_s_iload, pm_s_iload_n, pm_s_imul, pm_s_istore, pm_s_istore_n, pm_s_isub, pm_s_laload, pm_s_lastore, pm_s_lcmp, pm_s_lload, pm_s_lload_n, pm_s_lor, pm_s_lshl, pm_s_lstore, pm_s_lstore_n, pm_s_return, ct_X4_sortColumns, pS, pR, pC, pE, pL, -Int32.not_le, -Int32.not_lt, -Int64.not_le, -Int64.not_lt, -List.getD_eq_getElem?_getD, st_0 hp, st_5 hp]
              simp (disch := omega) only [ni_in, ni_cl, ni_add, ni_mul, ni_sub, ni_lt, ni_le, ni_eq, ni_eq0, ni_lt0, ni_0le, ni_0lt, ni_le0, ni_a1, ni_a3, ni_a7, ni_a15, Nat.add_sub_cancel, hoa]
              rw [lgc (by omega) (by omega)]
              refine ⟨fun h => by omega, fun _ => ?_⟩
              repeat refine ⟨by omega, ?_⟩
              refine ⟨fun h => ?_, fun h => ?_⟩
              · have := done (A ++ [a]) B M' b1 b2 b3 b4 ?_ b6
                · simpa using this
                · rw [← b1, List.pairwise_append, List.pairwise_append] at a2
                  intro v hv
                  rcases List.mem_append.mp hv with z | z
                  · have := a2.1.2.2 v z a (by simp); omega
                  · simp at z; omega
              · rw [ni_m1]
                repeat refine ⟨by omega, ?_⟩
                refine ihA (a :: B) _ (by rw [← b1]; simp) (fun j hj => ?_) (fun t ht => ?_) (fun v hv => ?_) (b6.setL (q := p + 5) (List.mem_singleton.mpr rfl))
                · simp only [me_4]
                  rw [if_neg (by omega)]
                  have := b2 j (by simp; omega)
                  rw [this]; congr 1
                  simp [List.getD_eq_getElem?_getD, List.getElem?_append_left hj]
                · simp only [me_4]
                  cases t with
                  | zero => simp
                  | succ t =>
                    rw [if_neg (by omega)]
                    have := b3 t (by simpa using ht)
                    rw [show (A ++ [a]).length + 1 + t = A.length + 1 + (t + 1) by simp; omega] at this
                    rw [this]; rfl
                · rcases List.mem_cons.mp hv with z | z
                  · subst z; have := haL.2; omega
                  · exact b4 v z
          refine hb2 _ _ _ ?_
          simp (maxSteps := 2000000) [bk_X4_sortColumns_0, bk_X4_sortColumns_2, bk_X4_sortColumns_37, bk_X4_sortColumns_79, bk_X4_sortColumns_94, pm_arr, pm_e_c0, pm_e_c1, pm_e_cti, pm_e_ctl, pm_e_ctr, pm_e_go, pm_e_i, pm_e_ii, pm_e_l, pm_e_ldi, pm_e_ldl, pm_e_ldr, pm_e_li, pm_e_lk, pm_e_ll, pm_e_r, pm_e_ri, pm_e_ril, pm_e_rm0, pm_e_rm1, pm_e_rs0, pm_e_rs1, pm_e_wp0, pm_e_wp1, pm_f2, pm_f3, pm_fld, pm_fv, pm_obj, pm_s_aload_n, pm_s_bipush, pm_s_getfield, pm_s_goto, pm_s_i2l, pm_s_iaload, pm_s_iconst, pm_s_ifCond_le, pm_s_if_icmp_ge, pm_s_iinc, pm_s_iload, pm_s_iload_n, pm_s_imul, pm_s_istore, pm_s_istore_n, pm_s_isub, pm_s_laload, pm_s_lastore, pm_s_lcmp, pm_s_lload, pm_s_lload_n, pm_s_lor, pm_s_lshl, pm_s_lstore, pm_s_lstore_n, pm_s_return, ct_X4_sortColumns, pS, pR, pC, pE, pL, -Int32.not_le, -Int32.not_lt, -Int64.not_le, -Int64.not_lt, -List.getD_eq_getElem?_getD, st_0 hp, st_1 hp, st_2 hp]
          simp (disch := omega) only [ni_in, ni_cl, ni_add, ni_mul, ni_sub, ni_lt, ni_le, ni_eq, ni_eq0, ni_lt0, ni_0le, ni_0lt, ni_le0, ni_a1, ni_a3, ni_a7, ni_a15, hS'.n hi, hS'.c hi]
          refine ⟨fun h => by omega, fun _ => ?_⟩
          repeat refine ⟨by omega, ?_⟩
          have e1 : (lN (pq (S.1 i)) <<< ((nI (4 * (12 - (S.1 i).length))).toInt64 &&& 63)) <<< ((nI 2).toInt64 &&& 63) ||| (nI i).toInt64 = lN (ky S i) := by
            rw [wb_shl _ (by omega), wb_shl _ (by decide), ni_l (by omega), Nat.pow_mul, show (2 : Nat) ^ 4 = 16 from rfl, ln_or (k := 2) (by omega) (by unfold al at hal; omega)]
            rfl
          rw [e1]
          have := inner L [] M' (by simp) (fun j hj => a3 j (by omega)) (fun t ht => by simp at ht) (fun v hv => by cases hv) a4
          rw [hLlen] at this
          exact this
        · have e1 : i = 4 := by omega
          subst e1
          refine hb2 _ _ _ ?_
          simp (maxSteps := 2000000) [bk_X4_sortColumns_0, bk_X4_sortColumns_2, bk_X4_sortColumns_37, bk_X4_sortColumns_79, bk_X4_sortColumns_94, pm_arr, pm_e_c0, pm_e_c1, pm_e_cti, pm_e_ctl, pm_e_ctr, pm_e_go, pm_e_i, pm_e_ii, pm_e_l, pm_e_ldi, pm_e_ldl, pm_e_ldr, pm_e_li, pm_e_lk, pm_e_ll, pm_e_r, pm_e_ri, pm_e_ril, pm_e_rm0, pm_e_rm1, pm_e_rs0, pm_e_rs1, pm_e_wp0, pm_e_wp1, pm_f2, pm_f3, pm_fld, pm_fv, pm_obj, pm_s_aload_n, pm_s_bipush, pm_s_getfield, pm_s_goto, pm_s_i2l, pm_s_iaload, pm_s_iconst, pm_s_ifCond_le, pm_s_if_icmp_ge, pm_s_iinc, pm_s_iload, pm_s_iload_n, pm_s_imul, pm_s_istore, pm_s_istore_n, pm_s_isub, pm_s_laload, pm_s_lastore, pm_s_lcmp, pm_s_lload, pm_s_lload_n, pm_s_lor, pm_s_lshl, pm_s_lstore, pm_s_lstore_n, pm_s_return, ct_X4_sortColumns, pS, pR, pC, pE, pL, -Int32.not_le, -Int32.not_lt, -Int64.not_le, -Int64.not_lt, -List.getD_eq_getElem?_getD]
          exact out M' L a1 a2 a3 a4
    refine hb0 _ _ _ ?_
    simp (maxSteps := 2000000) [bk_X4_sortColumns_0, bk_X4_sortColumns_2, bk_X4_sortColumns_37, bk_X4_sortColumns_79, bk_X4_sortColumns_94, pm_arr, pm_e_c0, pm_e_c1, pm_e_cti, pm_e_ctl, pm_e_ctr, pm_e_go, pm_e_i, pm_e_ii, pm_e_l, pm_e_ldi, pm_e_ldl, pm_e_ldr, pm_e_li, pm_e_lk, pm_e_ll, pm_e_r, pm_e_ri, pm_e_ril, pm_e_rm0, pm_e_rm1, pm_e_rs0, pm_e_rs1, pm_e_wp0, pm_e_wp1, pm_f2, pm_f3, pm_fld, pm_fv, pm_obj, pm_s_aload_n, pm_s_bipush, pm_s_getfield, pm_s_goto, pm_s_i2l, pm_s_iaload, pm_s_iconst, pm_s_ifCond_le, pm_s_if_icmp_ge, pm_s_iinc, pm_s_iload, pm_s_iload_n, pm_s_imul, pm_s_istore, pm_s_istore_n, pm_s_isub, pm_s_laload, pm_s_lastore, pm_s_lcmp, pm_s_lload, pm_s_lload_n, pm_s_lor, pm_s_lshl, pm_s_lstore, pm_s_lstore_n, pm_s_return, ct_X4_sortColumns, pS, pR, pC, pE, pL, -Int32.not_le, -Int32.not_lt, -Int64.not_le, -Int64.not_lt, -List.getD_eq_getElem?_getD, lv_args]
    exact loop 4 0 M [] (by omega) (by omega) (List.Perm.refl _) List.Pairwise.nil (fun j hj => by omega) pm_fr.rfl
  · exact hT.elim
end
section
/-! THE FORM OF A STAND, as digits, the lowest first -/
theorem srt_uniq : ∀ (l m : List Nat), l.Perm m → l.Pairwise (· < ·) → m.Pairwise (· < ·) → l = m
  | [], m, hp, _, _ => (List.nil_perm.mp hp).symm
  | a :: l, [], hp, _, _ => absurd hp.length_eq (by simp)
  | a :: l, b :: m, hp, h1, h2 => by
    have h1' := List.pairwise_cons.mp h1
    have h2' := List.pairwise_cons.mp h2
    have e : a = b := by
      have ha : a ∈ b :: m := hp.subset List.mem_cons_self
      have hb : b ∈ a :: l := hp.symm.subset List.mem_cons_self
      rcases List.mem_cons.mp ha with x | x
      · exact x
      · rcases List.mem_cons.mp hb with y | y
        · exact y.symm
        · have := h2'.1 a x
          have := h1'.1 b y
          omega
    subst e
    rw [srt_uniq l m ((List.perm_cons a).mp hp) h1'.2 h2'.2]
def insN (v : Nat) : List Nat → List Nat
  | [] => [v]
  | a :: l => if v < a then v :: a :: l else a :: insN v l
theorem insN_perm (v : Nat) : ∀ l : List Nat, (insN v l).Perm (v :: l)
  | [] => List.Perm.refl _
  | a :: l => by
    unfold insN; split
    · exact List.Perm.refl _
    · exact ((insN_perm v l).cons a).trans (List.Perm.swap v a l)
theorem insN_sorted {v : Nat} : ∀ {l : List Nat}, l.Pairwise (· < ·) → v ∉ l → (insN v l).Pairwise (· < ·)
  | [], _, _ => List.pairwise_singleton _ _
  | a :: l, h, hv => by
    have h' := List.pairwise_cons.mp h
    have hva : v ≠ a := fun e => hv (by simp [e])
    unfold insN; split
    · next q =>
      refine List.pairwise_cons.mpr ⟨fun x hx => ?_, h⟩
      rcases List.mem_cons.mp hx with z | z
      · omega
      · have := h'.1 x z; omega
    · next q =>
      refine List.pairwise_cons.mpr ⟨fun x hx => ?_, insN_sorted h'.2 (fun z => hv (List.mem_cons_of_mem _ z))⟩
      rcases List.mem_cons.mp ((insN_perm v l).subset hx) with z | z
      · omega
      · exact h'.1 x z
/-- the keys in their order -/
def oL (S : St) : List Nat := insN (ky S 0) (insN (ky S 1) (insN (ky S 2) (insN (ky S 3) [])))
theorem ky_mod (S : St) {i : Nat} (h : i < 4) : ky S i % 4 = i := by unfold ky; omega
theorem oL_perm (S : St) : (oL S).Perm [ky S 0, ky S 1, ky S 2, ky S 3] := by
  unfold oL
  refine (insN_perm _ _).trans (List.Perm.cons _ ?_)
  refine (insN_perm _ _).trans (List.Perm.cons _ ?_)
  exact (insN_perm _ _).trans (List.Perm.cons _ (List.Perm.refl _))
theorem ky_ne (S : St) {i j : Nat} (hi : i < 4) (hj : j < 4) (h : i ≠ j) : ky S i ≠ ky S j := fun e => h (by rw [← ky_mod S hi, ← ky_mod S hj, e])
theorem oL_sorted (S : St) : (oL S).Pairwise (· < ·) := by
  unfold oL
  have n01 := ky_ne S (i := 0) (j := 1) (by decide) (by decide) (by decide)
  have n02 := ky_ne S (i := 0) (j := 2) (by decide) (by decide) (by decide)
  have n03 := ky_ne S (i := 0) (j := 3) (by decide) (by decide) (by decide)
  have n12 := ky_ne S (i := 1) (j := 2) (by decide) (by decide) (by decide)
  have n13 := ky_ne S (i := 1) (j := 3) (by decide) (by decide) (by decide)
  have n23 := ky_ne S (i := 2) (j := 3) (by decide) (by decide) (by decide)
  have s3 : (insN (ky S 3) []).Pairwise (· < ·) := insN_sorted List.Pairwise.nil (by simp)
  have s2 : (insN (ky S 2) (insN (ky S 3) [])).Pairwise (· < ·) := insN_sorted s3 (by simp [insN, n23])
  have s1 : (insN (ky S 1) (insN (ky S 2) (insN (ky S 3) []))).Pairwise (· < ·) := insN_sorted s2 (fun h => by
    have := ((insN_perm _ _).trans (List.Perm.cons _ (insN_perm _ _))).subset h
    simp [n12, n13] at this)
  exact insN_sorted s1 (fun h => by
    have := ((insN_perm _ _).trans (List.Perm.cons _ ((insN_perm _ _).trans (List.Perm.cons _ (insN_perm _ _))))).subset h
    simp [n01, n02, n03] at this)
theorem oL_len (S : St) : (oL S).length = 4 := (oL_perm S).length_eq
/-- which column stands at the place j of the order -/
def sg (S : St) (j : Nat) : Nat := (oL S).getD j 0 % 4
theorem sg_lt (S : St) (j : Nat) : sg S j < 4 := Nat.mod_lt _ (by decide)
theorem oL_at (S : St) {j : Nat} (h : j < 4) : (oL S).getD j 0 = ky S (sg S j) := by
  have hm : (oL S).getD j 0 ∈ oL S := getD_mem (by rw [oL_len]; exact h)
  have := (oL_perm S).subset hm
  simp only [List.mem_cons, List.not_mem_nil, or_false] at this
  unfold sg
  rcases this with e | e | e | e <;> rw [e] <;> rw [ky_mod S (by decide)]
theorem sg_inj (S : St) {i j : Nat} (hi : i < 4) (hj : j < 4) (h : sg S i = sg S j) : i = j := by
  have e : (oL S).getD i 0 = (oL S).getD j 0 := by rw [oL_at S hi, oL_at S hj, h]
  have hp := oL_sorted S
  rw [List.pairwise_iff_getElem] at hp
  have l4 := oL_len S
  rw [List.getD_eq_getElem?_getD, List.getD_eq_getElem?_getD, List.getElem?_eq_getElem (by omega), List.getElem?_eq_getElem (by omega)] at e
  simp only [Option.getD_some] at e
  rcases Nat.lt_trichotomy i j with z | z | z
  · have := hp i j (by omega) (by omega) z; omega
  · exact z
  · have := hp j i (by omega) (by omega) z; omega
theorem oL_uniq {S : St} {L : List Nat} (h1 : L.Perm [ky S 0, ky S 1, ky S 2, ky S 3]) (h2 : L.Pairwise (· < ·)) : L = oL S := srt_uniq _ _ (h1.trans (oL_perm S).symm) h2 (oL_sorted S)
def leN : List Nat → Nat
  | [] => 0
  | d :: l => d + 16 * leN l
theorem leN_app : ∀ (l m : List Nat), leN (l ++ m) = leN l + 16 ^ l.length * leN m
  | [], m => by simp [leN]
  | d :: l, m => by
    show d + 16 * leN (l ++ m) = d + 16 * leN l + 16 ^ (l.length + 1) * leN m
    have e : 16 ^ l.length * 16 * leN m = 16 * (16 ^ l.length * leN m) := by rw [Nat.mul_comm (16 ^ l.length) 16, Nat.mul_assoc]
    rw [leN_app l m, Nat.pow_succ, e]
    omega
theorem leN_rev (l : List Nat) : leN l.reverse = pq l := by
  induction l using rev_ind with
  | nil => rfl
  | snoc l d ih => rw [List.reverse_append, pq_app]; show d + 16 * leN (l.reverse) = _; rw [ih]; omega
theorem leN_lt : ∀ {l : List Nat}, (∀ d ∈ l, d < 16) → leN l < 16 ^ l.length
  | [], _ => by simp [leN]
  | d :: l, h => by
    have h1 := leN_lt (l := l) (fun x hx => h x (List.mem_cons_of_mem _ hx))
    have h2 := h d List.mem_cons_self
    show d + 16 * leN l < 16 ^ (l.length + 1)
    rw [Nat.pow_succ]; omega
/-- the columns behind one another, the last card of each first, 0 behind each -/
def dgC : List (List Nat) → List Nat
  | [] => []
  | c :: cs => c.reverse ++ 0 :: dgC cs
theorem dgC_app : ∀ (a b : List (List Nat)), dgC (a ++ b) = dgC a ++ dgC b
  | [], _ => rfl
  | c :: a, b => by show c.reverse ++ 0 :: dgC (a ++ b) = (c.reverse ++ 0 :: dgC a) ++ dgC b; rw [dgC_app a b]; simp
/-- the columns in their order -/
def colsO (S : St) (n : Nat) : List (List Nat) := (List.range n).map (fun j => S.1 (sg S j))
def fkN (S : St) : Nat := leN (dgC (colsO S 4) ++ [max (S.2.1 0) (S.2.1 1), min (S.2.1 0) (S.2.1 1)])
def tt_X4_inOrder : pm_T := fun args M k => match args with
  | [.ref p, .int x] => ∃ j L, isSt p ∧ x = nI j ∧ j < 4 ∧ L < 2 ^ 63 ∧ M.2 (p + 5) j = lN L ∧ k (some (.int (nI (L % 4)))) M
  | _ => False
abbrev ct_X4_inOrder : List pm_C := []
set_option maxHeartbeats 4000000 in
theorem sm_X4_inOrder  : pm_Sem SHx yX4_inOrder cX4_inOrder 2 (some .int) 1 tt_X4_inOrder := by
  refine pm_Sem_intro bl_X4_inOrder ct_X4_inOrder cs_X4_inOrder rfl (fun _ h => absurd h List.not_mem_nil) ck_X4_inOrder (by decide +kernel) (by decide) ?_
  intro X k hX args M hT
  have hb0 := hX 0 bk_X4_inOrder_0 (List.mem_of_getElem? (i := 0) rfl)
  clear hX
  unfold tt_X4_inOrder at hT; split at hT
  · next p x =>
    obtain ⟨j, L, hp, rfl, hj, hL, hm, hT⟩ := hT
    refine ⟨by simp [lg_sl, Value.category], ?_⟩
    refine hb0 _ _ _ ?_
    simp (maxSteps := 2000000) [bk_X4_inOrder_0, pm_arr, pm_e_c0, pm_e_c1, pm_e_cti, pm_e_ctl, pm_e_ctr, pm_e_go, pm_e_ii, pm_e_l, pm_e_ldi, pm_e_ldr, pm_e_lk, pm_e_r, pm_e_ri, pm_e_rm0, pm_e_rm1, pm_e_rs0, pm_e_rs1, pm_e_wp0, pm_e_wp1, pm_f2, pm_f3, pm_fld, pm_fv, pm_obj, pm_s_aload_n, pm_s_getfield, pm_s_iand, pm_s_iconst, pm_s_iload_n, pm_s_ireturn, pm_s_l2i, pm_s_laload, ct_X4_inOrder, pS, pR, pC, pE, pL, -Int32.not_le, -Int32.not_lt, -Int64.not_le, -Int64.not_lt, -List.getD_eq_getElem?_getD, lv_args, st_0 hp, st_5 hp]
    simp (disch := omega) only [ni_in, ni_cl, ni_add, ni_mul, ni_sub, ni_lt, ni_le, ni_eq, ni_eq0, ni_lt0, ni_0le, ni_0lt, ni_le0, ni_a1, ni_a3, ni_a7, ni_a15, hm, ln_i]
    refine ⟨by omega, ?_⟩
    rw [show nI L &&& nI 3 = nI (L % 4) from (pk_and _ 2 (by decide)).trans (by rw [show (nI L).toBitVec.toNat = L % 2 ^ 32 from rfl]; congr 1; omega)]
    exact hT
  · exact hT.elim
end
section
/-- how many cards lie in columns and cells -/
def tot (S : St) : Nat := (S.1 0).length + (S.1 1).length + (S.1 2).length + (S.1 3).length + (if S.2.1 0 = 0 then 0 else 1) + (if S.2.1 1 = 0 then 0 else 1)
theorem dgC_len (S : St) : ∀ n, (dgC (colsO S n)).length = sumN n (fun j => (S.1 (sg S j)).length + 1)
  | 0 => rfl
  | n + 1 => by
    have e : colsO S (n + 1) = colsO S n ++ [S.1 (sg S n)] := by unfold colsO; rw [List.range_succ, List.map_append]; rfl
    rw [e, dgC_app, List.length_append, dgC_len S n, sumN_s]
    simp [dgC]
theorem colsO_s (S : St) (n : Nat) : colsO S (n + 1) = colsO S n ++ [S.1 (sg S n)] := by unfold colsO; rw [List.range_succ, List.map_append]; rfl
theorem sg_sum (S : St) (f : Nat → Nat) : f (sg S 0) + f (sg S 1) + f (sg S 2) + f (sg S 3) = f 0 + f 1 + f 2 + f 3 := by
  have h0 := sg_lt S 0
  have h1 := sg_lt S 1
  have h2 := sg_lt S 2
  have h3 := sg_lt S 3
  have n01 : sg S 0 ≠ sg S 1 := fun e => absurd (sg_inj S (by decide) (by decide) e) (by decide)
  have n02 : sg S 0 ≠ sg S 2 := fun e => absurd (sg_inj S (by decide) (by decide) e) (by decide)
  have n03 : sg S 0 ≠ sg S 3 := fun e => absurd (sg_inj S (by decide) (by decide) e) (by decide)
  have n12 : sg S 1 ≠ sg S 2 := fun e => absurd (sg_inj S (by decide) (by decide) e) (by decide)
  have n13 : sg S 1 ≠ sg S 3 := fun e => absurd (sg_inj S (by decide) (by decide) e) (by decide)
  have n23 : sg S 2 ≠ sg S 3 := fun e => absurd (sg_inj S (by decide) (by decide) e) (by decide)
  generalize sg S 0 = a at *
  generalize sg S 1 = b at *
  generalize sg S 2 = c at *
  generalize sg S 3 = d at *
  have ha : a = 0 ∨ a = 1 ∨ a = 2 ∨ a = 3 := by omega
  have hb : b = 0 ∨ b = 1 ∨ b = 2 ∨ b = 3 := by omega
  have hc : c = 0 ∨ c = 1 ∨ c = 2 ∨ c = 3 := by omega
  have hd : d = 6 - a - b - c := by
    rcases ha with rfl | rfl | rfl | rfl <;> rcases hb with rfl | rfl | rfl | rfl <;> rcases hc with rfl | rfl | rfl | rfl <;> omega
  rcases ha with rfl | rfl | rfl | rfl <;> rcases hb with rfl | rfl | rfl | rfl <;> rcases hc with rfl | rfl | rfl | rfl <;> first | (exact absurd rfl n01) | (exact absurd rfl n02) | (exact absurd rfl n12) | (subst hd; simp only [Nat.sub_zero, Nat.reduceSub] <;> omega)
def dlen (S : St) (n : Nat) : Nat := sumN n (fun j => (S.1 (sg S j)).length + 1)
theorem dlen_4 (S : St) : dlen S 4 = (S.1 0).length + (S.1 1).length + (S.1 2).length + (S.1 3).length + 4 := by
  have := sg_sum S (fun i => (S.1 i).length)
  have e : dlen S 4 = 0 + ((S.1 (sg S 0)).length + 1) + ((S.1 (sg S 1)).length + 1) + ((S.1 (sg S 2)).length + 1) + ((S.1 (sg S 3)).length + 1) := rfl
  rw [e]; omega
theorem dlen_s (S : St) (n : Nat) : dlen S (n + 1) = dlen S n + ((S.1 (sg S n)).length + 1) := rfl
theorem dlen_mono (S : St) : ∀ {n m : Nat}, n ≤ m → dlen S n ≤ dlen S m
  | n, 0, h => by rw [show n = 0 by omega]; exact Nat.le_refl _
  | n, m + 1, h => by
    rcases Nat.lt_or_ge n (m + 1) with q | q
    · have := dlen_mono S (n := n) (m := m) (by omega)
      rw [dlen_s]; omega
    · rw [show n = m + 1 by omega]; exact Nat.le_refl _
theorem dgC_16 {S : St} (h : okS S) : ∀ n, ∀ d ∈ dgC (colsO S n), d < 16
  | 0, d, hd => by simp [colsO, dgC] at hd
  | n + 1, d, hd => by
    rw [colsO_s, dgC_app] at hd
    rcases List.mem_append.mp hd with q | q
    · exact dgC_16 h n d q
    · simp only [dgC, List.mem_append, List.mem_reverse, List.mem_cons, List.not_mem_nil, or_false] at q
      rcases q with q | q
      · have := (h.1 (sg S n) (sg_lt S n)).2 d q; omega
      · omega
theorem ln_or2 {a b k : Nat} (ha : a < 2 ^ k) (h : a + b * 2 ^ k < 2 ^ 64) : lN a ||| lN (b * 2 ^ k) = lN (a + b * 2 ^ k) := g_or' rfl ha h
theorem pw16 (n : Nat) : 2 ^ (4 * n) = 16 ^ n := by rw [Nat.pow_mul]
theorem pw16_le {n : Nat} (h : n ≤ 16) : 16 ^ n ≤ 2 ^ 64 := (Nat.pow_le_pow_right (by decide : 16 > 0) h : 16 ^ n ≤ 16 ^ 16)
/-- a digit string and what stands behind it -/
theorem ln_dig {a b n m : Nat} (ha : a < 16 ^ n) (hb : b < 16 ^ m) (hn : n ≤ 15) (hm : n + m ≤ 16) : lN a ||| (lN b <<< ((nI (4 * n)).toInt64 &&& 63)) = lN (a + 16 ^ n * b) := by
  have h1 : a + b * 16 ^ n < 2 ^ 64 := by
    have h2 : (b + 1) * 16 ^ n ≤ 16 ^ m * 16 ^ n := Nat.mul_le_mul_right _ hb
    rw [Nat.succ_mul, ← Nat.pow_add] at h2
    have h3 := pw16_le (n := m + n) (by omega)
    omega
  rw [wb_shl _ (by omega), pw16, ← pw16, ln_or2 (by rw [pw16]; exact ha) (by rw [pw16]; exact h1), pw16, Nat.mul_comm]
theorem fk_step {S : St} (h : okS S) {j : Nat} (hd : dlen S j + (S.1 (sg S j)).length ≤ 15) : lN (leN (dgC (colsO S j))) ||| (lN (pq (S.1 (sg S j))) <<< ((nI (4 * dlen S j)).toInt64 &&& 63)) = lN (leN (dgC (colsO S (j + 1)))) := by
  have hlow := leN_lt (dgC_16 h j)
  rw [dgC_len, ← dlen] at hlow
  have hc := (h.1 (sg S j) (sg_lt S j)).2
  rw [ln_dig hlow (pq_lt (fun d hd => by have := hc d hd; omega)) (by omega) (by omega)]
  congr 1
  rw [colsO_s, dgC_app, leN_app, dgC_len, ← dlen]
  congr 2
  show pq _ = leN ((S.1 (sg S j)).reverse ++ [0])
  rw [leN_app, leN_rev]; rfl
theorem fk_end {S : St} (h : okS S) (ht : tot S ≤ 12) : lN (leN (dgC (colsO S 4))) ||| (((lN (min (S.2.1 0) (S.2.1 1)) <<< ((nI 4).toInt64 &&& 63)) ||| lN (max (S.2.1 0) (S.2.1 1))) <<< ((nI (4 * dlen S 4)).toInt64 &&& 63)) = lN (fkN S) := by
  have c0 := h.2.1 0 (by decide)
  have c1 := h.2.1 1 (by decide)
  have hd4 := dlen_4 S
  have hlow := leN_lt (dgC_16 h 4)
  rw [dgC_len, ← dlen] at hlow
  have ein : (lN (min (S.2.1 0) (S.2.1 1)) <<< ((nI 4).toInt64 &&& 63)) ||| lN (max (S.2.1 0) (S.2.1 1)) = lN (min (S.2.1 0) (S.2.1 1) * 16 + max (S.2.1 0) (S.2.1 1)) := by
    rw [wb_shl _ (by decide), ln_or (k := 4) (by omega) (by omega)]
  have efk : fkN S = leN (dgC (colsO S 4)) + 16 ^ dlen S 4 * (min (S.2.1 0) (S.2.1 1) * 16 + max (S.2.1 0) (S.2.1 1)) := by
    unfold fkN
    rw [leN_app, dgC_len, ← dlen]
    congr 2
    show max _ _ + 16 * (min _ _ + 16 * 0) = _
    omega
  rw [ein, efk]
  unfold tot at ht
  by_cases hz : S.2.1 0 = 0 ∧ S.2.1 1 = 0
  · rw [hz.1, hz.2]
    rw [show min 0 0 * 16 + max 0 0 = 0 from rfl, Nat.mul_zero, Nat.add_zero]
    have e0 : lN 0 <<< ((nI (4 * dlen S 4)).toInt64 &&& 63) = lN 0 := by
      have : ∀ n, n < 17 → lN 0 <<< ((nI (4 * n)).toInt64 &&& 63) = lN 0 := by decide +kernel
      exact this _ (by split at ht <;> split at ht <;> omega)
    have hle := pw16_le (n := dlen S 4) (by split at ht <;> split at ht <;> omega)
    rw [e0, wb_or (by omega) (by decide), Nat.or_zero]
  · by_cases ho : S.2.1 0 = 0 ∨ S.2.1 1 = 0
    · refine ln_dig (m := 1) hlow (by omega) ?_ ?_
      · rcases ho with q | q <;> simp [q] at ht hz <;> (try simp [hz] at ht) <;> omega
      · rcases ho with q | q <;> simp [q] at ht hz <;> (try simp [hz] at ht) <;> omega
    · have q0 : ¬ S.2.1 0 = 0 := fun z => ho (Or.inl z)
      have q1 : ¬ S.2.1 1 = 0 := fun z => ho (Or.inr z)
      rw [if_neg q0, if_neg q1] at ht
      exact ln_dig (m := 2) hlow (by omega) (by omega) (by omega)
def tt_X4_formKey : pm_T := fun args M k => match args with
  | [.ref p] => ∃ ec S, isSt p ∧ SdX M p ec S ∧ tot S ≤ 12 ∧ ∀ M', pm_fr [p + 5] M M' → k (some (.long (lN (fkN S)))) M'
  | _ => False
abbrev ct_X4_formKey : List pm_C := [(false, 143, 4, 1, none, tt_X4_sortColumns), (false, 146, 4, 2, (some .int), tt_X4_inOrder), (true, 153, 0, 2, (some .int), tt_J9_max_7cf53), (true, 45, 0, 2, (some .int), tt_J9_min_7cf53)]
set_option maxHeartbeats 4000000 in
theorem sm_X4_formKey  : pm_Sem SHx yX4_formKey cX4_formKey 8 (some .long) 2 tt_X4_formKey := by
  refine pm_Sem_intro bl_X4_formKey ct_X4_formKey cs_X4_formKey rfl (List.forall_mem_cons.mpr ⟨⟨_, _, _, _, sm_X4_sortColumns, by decide, cm_X4_sortColumns, by decide +kernel⟩, List.forall_mem_cons.mpr ⟨⟨_, _, _, _, sm_X4_inOrder, by decide, cm_X4_inOrder, by decide +kernel⟩, List.forall_mem_cons.mpr ⟨⟨_, _, _, _, sm_J9_max_7cf53, by decide, cm_J9_max_7cf53, by decide +kernel⟩, List.forall_mem_cons.mpr ⟨⟨_, _, _, _, sm_J9_min_7cf53, by decide, cm_J9_min_7cf53, by decide +kernel⟩, fun _ h => absurd h List.not_mem_nil⟩⟩⟩⟩) ck_X4_formKey (by decide +kernel) (by decide) ?_
  intro X k hX args M hT
  have hb0 := hX 0 bk_X4_formKey_0 (List.mem_of_getElem? (i := 0) rfl)
  have hb11 := hX 11 bk_X4_formKey_11 (List.mem_of_getElem? (i := 1) rfl)
  have hb57 := hX 57 bk_X4_formKey_57 (List.mem_of_getElem? (i := 2) rfl)
  clear hX
  unfold tt_X4_formKey at hT; split at hT
  · next p =>
    obtain ⟨ec, S, hp, hS, ht, hT⟩ := hT
    have hd4 := dlen_4 S
    have hcards : (S.1 0).length + (S.1 1).length + (S.1 2).length + (S.1 3).length ≤ 12 := by unfold tot at ht; omega
    refine ⟨by simp [lg_sl, Value.category], ?_⟩
    refine hb0 _ _ _ ?_
    simp (maxSteps := 2000000) [bk_X4_formKey_0, bk_X4_formKey_11, bk_X4_formKey_57, pm_arr, pm_call, pm_e_c0, pm_e_c1, pm_e_cti, pm_e_ctl, pm_e_ctr, pm_e_go, pm_e_i, pm_e_ii, pm_e_l, pm_e_ldi, pm_e_ldl, pm_e_ldr, pm_e_li, pm_e_lk, pm_e_ll, pm_e_r, pm_e_ri, pm_e_rm0, pm_e_rm1, pm_e_rs0, pm_e_rs1, pm_e_wp0, pm_e_wp1, pm_f2, pm_f3, pm_fld, pm_fv, pm_obj, pm_recv, pm_s_aload_n, pm_s_getfield, pm_s_goto, pm_s_i2l, pm_s_iadd, pm_s_iaload, pm_s_iconst, pm_s_if_icmp_ge, pm_s_iinc, pm_s_iload, pm_s_iload_n, pm_s_imul, pm_s_invokestatic, pm_s_invokevirtual, pm_s_istore, pm_s_istore_n, pm_s_laload, pm_s_lconst, pm_s_lload, pm_s_lload_n, pm_s_lor, pm_s_lreturn, pm_s_lshl, pm_s_lstore, pm_s_lstore_n, ct_X4_formKey, tt_J9_max_7cf53, tt_J9_min_7cf53, pS, pR, pC, pE, pL, -Int32.not_le, -Int32.not_lt, -Int64.not_le, -Int64.not_lt, -List.getD_eq_getElem?_getD, lv_args, st_0 hp]
    refine ⟨ec, S, hp, hS, fun M' L l1 l2 l3 hf => ?_⟩
    rw [oL_uniq l1 l2] at l3
    have hS' := hS.m5 hf
    simp (maxSteps := 2000000) [bk_X4_formKey_0, bk_X4_formKey_11, bk_X4_formKey_57, pm_arr, pm_call, pm_e_c0, pm_e_c1, pm_e_cti, pm_e_ctl, pm_e_ctr, pm_e_go, pm_e_i, pm_e_ii, pm_e_l, pm_e_ldi, pm_e_ldl, pm_e_ldr, pm_e_li, pm_e_lk, pm_e_ll, pm_e_r, pm_e_ri, pm_e_rm0, pm_e_rm1, pm_e_rs0, pm_e_rs1, pm_e_wp0, pm_e_wp1, pm_f2, pm_f3, pm_fld, pm_fv, pm_obj, pm_recv, pm_s_aload_n, pm_s_getfield, pm_s_goto, pm_s_i2l, pm_s_iadd, pm_s_iaload, pm_s_iconst, pm_s_if_icmp_ge, pm_s_iinc, pm_s_iload, pm_s_iload_n, pm_s_imul, pm_s_invokestatic, pm_s_invokevirtual, pm_s_istore, pm_s_istore_n, pm_s_laload, pm_s_lconst, pm_s_lload, pm_s_lload_n, pm_s_lor, pm_s_lreturn, pm_s_lshl, pm_s_lstore, pm_s_lstore_n, ct_X4_formKey, tt_J9_max_7cf53, tt_J9_min_7cf53, pS, pR, pC, pE, pL, -Int32.not_le, -Int32.not_lt, -Int64.not_le, -Int64.not_lt, -List.getD_eq_getElem?_getD]
    have c0 := hS.1.2.1 0 (by decide)
    have c1 := hS.1.2.1 1 (by decide)
    have out : X 57 [(0, .ref p), (1, .long (lN (leN (dgC (colsO S 4))))), (3, .int (nI (4 * dlen S 4)))] [] M' := by
      refine hb57 _ _ _ ?_
      simp (maxSteps := 2000000) [bk_X4_formKey_0, bk_X4_formKey_11, bk_X4_formKey_57, pm_arr, pm_call, pm_e_c0, pm_e_c1, pm_e_cti, pm_e_ctl, pm_e_ctr, pm_e_go, pm_e_i, pm_e_ii, pm_e_l, pm_e_ldi, pm_e_ldl, pm_e_ldr, pm_e_li, pm_e_lk, pm_e_ll, pm_e_r, pm_e_ri, pm_e_rm0, pm_e_rm1, pm_e_rs0, pm_e_rs1, pm_e_wp0, pm_e_wp1, pm_f2, pm_f3, pm_fld, pm_fv, pm_obj, pm_recv, pm_s_aload_n, pm_s_getfield, pm_s_goto, pm_s_i2l, pm_s_iadd, pm_s_iaload, pm_s_iconst, pm_s_if_icmp_ge, pm_s_iinc, pm_s_iload, pm_s_iload_n, pm_s_imul, pm_s_invokestatic, pm_s_invokevirtual, pm_s_istore, pm_s_istore_n, pm_s_laload, pm_s_lconst, pm_s_lload, pm_s_lload_n, pm_s_lor, pm_s_lreturn, pm_s_lshl, pm_s_lstore, pm_s_lstore_n, ct_X4_formKey, tt_J9_max_7cf53, tt_J9_min_7cf53, pS, pR, pC, pE, pL, -Int32.not_le, -Int32.not_lt, -Int64.not_le, -Int64.not_lt, -List.getD_eq_getElem?_getD, st_0 hp, st_3 hp]
      simp (disch := omega) only [ni_in, ni_cl, ni_add, ni_mul, ni_sub, ni_lt, ni_le, ni_eq, ni_eq0, ni_lt0, ni_0le, ni_0lt, ni_le0, ni_a1, ni_a3, ni_a7, ni_a15, hS'.e (show 0 < 2 by decide), hS'.e (show 1 < 2 by decide), mxF_n, mnF_n]
      rw [ni_l (n := max (S.2.1 0) (S.2.1 1)) (by omega), ni_l (n := min (S.2.1 0) (S.2.1 1)) (by omega), fk_end hS.1 ht]
      repeat refine ⟨by omega, ?_⟩
      exact hT M' hf
    have loop : ∀ (f j : Nat), 4 ≤ j + f → j ≤ 4 → X 11 [(0, .ref p), (1, .long (lN (leN (dgC (colsO S j))))), (3, .int (nI (4 * dlen S j))), (4, .int (nI j))] [] M' := by
      intro f
      induction f with
      | zero =>
        intro j f1 f2
        have e1 : j = 4 := by omega
        subst e1
        refine hb11 _ _ _ ?_
        simp (maxSteps := 2000000) [bk_X4_formKey_0, bk_X4_formKey_11, bk_X4_formKey_57, pm_arr, pm_call, pm_e_c0, pm_e_c1, pm_e_cti, pm_e_ctl, pm_e_ctr, pm_e_go, pm_e_i, pm_e_ii, pm_e_l, pm_e_ldi, pm_e_ldl, pm_e_ldr, pm_e_li, pm_e_lk, pm_e_ll, pm_e_r, pm_e_ri, pm_e_rm0, pm_e_rm1, pm_e_rs0, pm_e_rs1, pm_e_wp0, pm_e_wp1, pm_f2, pm_f3, pm_fld, pm_fv, pm_obj, pm_recv, pm_s_aload_n, pm_s_getfield, pm_s_goto, pm_s_i2l, pm_s_iadd, pm_s_iaload, pm_s_iconst, pm_s_if_icmp_ge, pm_s_iinc, pm_s_iload, pm_s_iload_n, pm_s_imul, pm_s_invokestatic, pm_s_invokevirtual, pm_s_istore, pm_s_istore_n, pm_s_laload, pm_s_lconst, pm_s_lload, pm_s_lload_n, pm_s_lor, pm_s_lreturn, pm_s_lshl, pm_s_lstore, pm_s_lstore_n, ct_X4_formKey, tt_J9_max_7cf53, tt_J9_min_7cf53, pS, pR, pC, pE, pL, -Int32.not_le, -Int32.not_lt, -Int64.not_le, -Int64.not_lt, -List.getD_eq_getElem?_getD]
        exact out
      | succ f ih =>
        intro j f1 f2
        by_cases hj : j < 4
        · refine hb11 _ _ _ ?_
          simp [bk_X4_formKey_11, pm_e_wp1, pm_e_wp0, pm_s_iload, pm_s_iload_n, pm_s_iconst, pm_s_bipush, pm_e_c0, pm_s_aload_n, pm_e_ldi, pm_e_ldr, pm_e_lk, pm_f2, pm_f3, pm_s_if_icmp_ge, pm_e_ii, pm_e_go, pm_e_rs0, pm_e_rs1, pm_e_cti, pm_e_ctr, pm_s_invokevirtual, ct_X4_formKey, pm_call, pm_recv, pm_obj, st_0 hp, -Int32.not_le, -Int32.not_lt]
          simp (disch := omega) only [ni_in, ni_cl, ni_add, ni_mul, ni_sub, ni_lt, ni_le, ni_eq, ni_eq0, ni_lt0, ni_0le, ni_0lt, ni_le0, ni_a1, ni_a3, ni_a7, ni_a15]
          refine ⟨fun h => by omega, fun _ => ?_⟩
          have hg := sg_lt S j
          have hkl : ky S (sg S j) < 2 ^ 63 := by have := al_lt (hS.d16 hg) (hS.len hg); unfold ky; omega
          refine ⟨j, ky S (sg S j), hp, rfl, hj, hkl, by rw [l3 j hj, oL_at S hj], ?_⟩
          rw [ky_mod S hg]
          simp (maxSteps := 2000000) [bk_X4_formKey_0, bk_X4_formKey_11, bk_X4_formKey_57, pm_arr, pm_call, pm_e_c0, pm_e_c1, pm_e_cti, pm_e_ctl, pm_e_ctr, pm_e_go, pm_e_i, pm_e_ii, pm_e_l, pm_e_ldi, pm_e_ldl, pm_e_ldr, pm_e_li, pm_e_lk, pm_e_ll, pm_e_r, pm_e_ri, pm_e_rm0, pm_e_rm1, pm_e_rs0, pm_e_rs1, pm_e_wp0, pm_e_wp1, pm_f2, pm_f3, pm_fld, pm_fv, pm_obj, pm_recv, pm_s_aload_n, pm_s_getfield, pm_s_goto, pm_s_i2l, pm_s_iadd, pm_s_iaload, pm_s_iconst, pm_s_if_icmp_ge, pm_s_iinc, pm_s_iload, pm_s_iload_n, pm_s_imul, pm_s_invokestatic, pm_s_invokevirtual, pm_s_istore, pm_s_istore_n, pm_s_laload, pm_s_lconst, pm_s_lload, pm_s_lload_n, pm_s_lor, pm_s_lreturn, pm_s_lshl, pm_s_lstore, pm_s_lstore_n, ct_X4_formKey, tt_J9_max_7cf53, tt_J9_min_7cf53, pS, pR, pC, pE, pL, -Int32.not_le, -Int32.not_lt, -Int64.not_le, -Int64.not_lt, -List.getD_eq_getElem?_getD, st_0 hp, st_1 hp, st_2 hp]
          have hl12 := hS.len hg
          simp (disch := omega) only [ni_in, ni_cl, ni_add, ni_mul, ni_sub, ni_lt, ni_le, ni_eq, ni_eq0, ni_lt0, ni_0le, ni_0lt, ni_le0, ni_a1, ni_a3, ni_a7, ni_a15, hS'.c hg, hS'.n hg]
          repeat refine ⟨by omega, ?_⟩
          have hm1 := dlen_mono S (n := j + 1) (m := 4) (by omega)
          rw [dlen_s] at hm1
          have hlow := leN_lt (dgC_16 hS.1 j)
          rw [dgC_len, ← dlen] at hlow
          have hpq := pq_lt (hS.d16 hg)
          rw [fk_step hS.1 (by omega)]
          have := ih (j + 1) (by omega) (by omega)
          rw [dlen_s, Nat.mul_add] at this
          exact this
        · have e1 : j = 4 := by omega
          subst e1
          refine hb11 _ _ _ ?_
          simp (maxSteps := 2000000) [bk_X4_formKey_0, bk_X4_formKey_11, bk_X4_formKey_57, pm_arr, pm_call, pm_e_c0, pm_e_c1, pm_e_cti, pm_e_ctl, pm_e_ctr, pm_e_go, pm_e_i, pm_e_ii, pm_e_l, pm_e_ldi, pm_e_ldl, pm_e_ldr, pm_e_li, pm_e_lk, pm_e_ll, pm_e_r, pm_e_ri, pm_e_rm0, pm_e_rm1, pm_e_rs0, pm_e_rs1, pm_e_wp0, pm_e_wp1, pm_f2, pm_f3, pm_fld, pm_fv, pm_obj, pm_recv, pm_s_aload_n, pm_s_getfield, pm_s_goto, pm_s_i2l, pm_s_iadd, pm_s_iaload, pm_s_iconst, pm_s_if_icmp_ge, pm_s_iinc, pm_s_iload, pm_s_iload_n, pm_s_imul, pm_s_invokestatic, pm_s_invokevirtual, pm_s_istore, pm_s_istore_n, pm_s_laload, pm_s_lconst, pm_s_lload, pm_s_lload_n, pm_s_lor, pm_s_lreturn, pm_s_lshl, pm_s_lstore, pm_s_lstore_n, ct_X4_formKey, tt_J9_max_7cf53, tt_J9_min_7cf53, pS, pR, pC, pE, pL, -Int32.not_le, -Int32.not_lt, -Int64.not_le, -Int64.not_lt, -List.getD_eq_getElem?_getD]
          exact out
    exact loop 4 0 (by omega) (by omega)
  · exact hT.elim
end
section
/-- which column and which cell is which -/
def arN (S : St) : Nat := sg S 0 + 4 * sg S 1 + 16 * sg S 2 + 64 * sg S 3 + (if S.2.1 0 < S.2.1 1 then 256 else 0)
def arS (S : St) : Nat → Nat
  | 0 => 0
  | n + 1 => arS S n + 4 ^ n * sg S n
theorem arS_4 (S : St) : arS S 4 = sg S 0 + 4 * sg S 1 + 16 * sg S 2 + 64 * sg S 3 := by simp [arS]
theorem arS_lt (S : St) : ∀ n, arS S n < 4 ^ n
  | 0 => by simp [arS]
  | n + 1 => by
    have h1 := arS_lt S n
    have h2 := sg_lt S n
    show arS S n + 4 ^ n * sg S n < 4 ^ (n + 1)
    have h3 : 4 ^ n * sg S n ≤ 4 ^ n * 3 := Nat.mul_le_mul_left _ (by omega)
    rw [Nat.pow_succ]; omega
theorem ni_or {a b k : Nat} (hb : b < 2 ^ k) (h : a * 2 ^ k + b < 2 ^ 31) : nI (a * 2 ^ k) ||| nI b = nI (a * 2 ^ k + b) := by
  have hp : 0 < 2 ^ k := Nat.pow_pos (by decide)
  have e : nI (a * 2 ^ k) ||| nI b = nI (a * 2 ^ k ||| b) := by
    apply Int32.toBitVec.inj
    show BitVec.ofNat 32 (a * 2 ^ k) ||| BitVec.ofNat 32 b = BitVec.ofNat 32 (a * 2 ^ k ||| b)
    exact BitVec.ofNat_or.symm
  rw [e]; congr 1
  rw [Nat.mul_comm]
  exact (Nat.two_pow_add_eq_or_of_lt hb a).symm
theorem ni_or2 {a b k : Nat} (hb : b < 2 ^ k) (h : a * 2 ^ k + b < 2 ^ 31) : nI b ||| nI (a * 2 ^ k) = nI (a * 2 ^ k + b) := by
  rw [← ni_or hb h]
  apply Int32.toBitVec.inj
  rw [Int32.toBitVec_or, Int32.toBitVec_or, BitVec.or_comm]
theorem ni_sh31 : ∀ k, k < 32 → ((nI k &&& 31).toBitVec.smod 32).toNat = k := by decide +kernel
theorem ni_shl {a k : Nat} (hk : k < 31) (h : a * 2 ^ k < 2 ^ 32) : nI a <<< (nI k &&& 31) = nI (a * 2 ^ k) := pk_shlN _ k (ni_sh31 k (by omega)) h
def tt_X4_arrangement : pm_T := fun args M k => match args with
  | [.ref p] => ∃ ec S, isSt p ∧ SdX M p ec S ∧ ∀ M', pm_fr [p + 5] M M' → k (some (.int (nI (arN S)))) M'
  | _ => False
abbrev ct_X4_arrangement : List pm_C := [(false, 143, 4, 1, none, tt_X4_sortColumns), (false, 146, 4, 2, (some .int), tt_X4_inOrder)]
set_option maxHeartbeats 4000000 in
theorem sm_X4_arrangement  : pm_Sem SHx yX4_arrangement cX4_arrangement 3 (some .int) 2 tt_X4_arrangement := by
  refine pm_Sem_intro bl_X4_arrangement ct_X4_arrangement cs_X4_arrangement rfl (List.forall_mem_cons.mpr ⟨⟨_, _, _, _, sm_X4_sortColumns, by decide, cm_X4_sortColumns, by decide +kernel⟩, List.forall_mem_cons.mpr ⟨⟨_, _, _, _, sm_X4_inOrder, by decide, cm_X4_inOrder, by decide +kernel⟩, fun _ h => absurd h List.not_mem_nil⟩⟩) ck_X4_arrangement (by decide +kernel) (by decide) ?_
  intro X k hX args M hT
  have hb0 := hX 0 bk_X4_arrangement_0 (List.mem_of_getElem? (i := 0) rfl)
  have hb8 := hX 8 bk_X4_arrangement_8 (List.mem_of_getElem? (i := 1) rfl)
  have hb31 := hX 31 bk_X4_arrangement_31 (List.mem_of_getElem? (i := 2) rfl)
  have hb50 := hX 50 bk_X4_arrangement_50 (List.mem_of_getElem? (i := 3) rfl)
  have hb51 := hX 51 bk_X4_arrangement_51 (List.mem_of_getElem? (i := 4) rfl)
  clear hX
  unfold tt_X4_arrangement at hT; split at hT
  · next p =>
    obtain ⟨ec, S, hp, hS, hT⟩ := hT
    refine ⟨by simp [lg_sl, Value.category], ?_⟩
    refine hb0 _ _ _ ?_
    simp (maxSteps := 2000000) [bk_X4_arrangement_0, bk_X4_arrangement_8, bk_X4_arrangement_31, bk_X4_arrangement_50, bk_X4_arrangement_51, pm_arr, pm_call, pm_e_c0, pm_e_c1, pm_e_cti, pm_e_ctl, pm_e_ctr, pm_e_go, pm_e_i, pm_e_ii, pm_e_ldi, pm_e_ldr, pm_e_lk, pm_e_r, pm_e_ri, pm_e_rm0, pm_e_rm1, pm_e_rs0, pm_e_rs1, pm_e_wp0, pm_e_wp1, pm_f2, pm_f3, pm_fld, pm_fv, pm_obj, pm_recv, pm_s_aload_n, pm_s_bipush, pm_s_getfield, pm_s_goto, pm_s_iaload, pm_s_iconst, pm_s_if_icmp_ge, pm_s_iinc, pm_s_iload_n, pm_s_imul, pm_s_invokevirtual, pm_s_ior, pm_s_ireturn, pm_s_ishl, pm_s_istore_n, ct_X4_arrangement, pS, pR, pC, pE, pL, -Int32.not_le, -Int32.not_lt, -Int64.not_le, -Int64.not_lt, -List.getD_eq_getElem?_getD, lv_args, st_0 hp]
    refine ⟨ec, S, hp, hS, fun M' L l1 l2 l3 hf => ?_⟩
    rw [oL_uniq l1 l2] at l3
    have hS' := hS.m5 hf
    simp (maxSteps := 2000000) [bk_X4_arrangement_0, bk_X4_arrangement_8, bk_X4_arrangement_31, bk_X4_arrangement_50, bk_X4_arrangement_51, pm_arr, pm_call, pm_e_c0, pm_e_c1, pm_e_cti, pm_e_ctl, pm_e_ctr, pm_e_go, pm_e_i, pm_e_ii, pm_e_ldi, pm_e_ldr, pm_e_lk, pm_e_r, pm_e_ri, pm_e_rm0, pm_e_rm1, pm_e_rs0, pm_e_rs1, pm_e_wp0, pm_e_wp1, pm_f2, pm_f3, pm_fld, pm_fv, pm_obj, pm_recv, pm_s_aload_n, pm_s_bipush, pm_s_getfield, pm_s_goto, pm_s_iaload, pm_s_iconst, pm_s_if_icmp_ge, pm_s_iinc, pm_s_iload_n, pm_s_imul, pm_s_invokevirtual, pm_s_ior, pm_s_ireturn, pm_s_ishl, pm_s_istore_n, ct_X4_arrangement, pS, pR, pC, pE, pL, -Int32.not_le, -Int32.not_lt, -Int64.not_le, -Int64.not_lt, -List.getD_eq_getElem?_getD]
    have c0 := hS.1.2.1 0 (by decide)
    have c1 := hS.1.2.1 1 (by decide)
    have h51 : ∀ q : Bool, q = decide (S.2.1 0 < S.2.1 1) → X 51 [(1, .int (nI (arS S 4)))] [.int (pb q)] M' := by
      intro q hq
      refine hb51 _ _ _ ?_
      simp (maxSteps := 2000000) [bk_X4_arrangement_0, bk_X4_arrangement_8, bk_X4_arrangement_31, bk_X4_arrangement_50, bk_X4_arrangement_51, pm_arr, pm_call, pm_e_c0, pm_e_c1, pm_e_cti, pm_e_ctl, pm_e_ctr, pm_e_go, pm_e_i, pm_e_ii, pm_e_ldi, pm_e_ldr, pm_e_lk, pm_e_r, pm_e_ri, pm_e_rm0, pm_e_rm1, pm_e_rs0, pm_e_rs1, pm_e_wp0, pm_e_wp1, pm_f2, pm_f3, pm_fld, pm_fv, pm_obj, pm_recv, pm_s_aload_n, pm_s_bipush, pm_s_getfield, pm_s_goto, pm_s_iaload, pm_s_iconst, pm_s_if_icmp_ge, pm_s_iinc, pm_s_iload_n, pm_s_imul, pm_s_invokevirtual, pm_s_ior, pm_s_ireturn, pm_s_ishl, pm_s_istore_n, ct_X4_arrangement, pS, pR, pC, pE, pL, -Int32.not_le, -Int32.not_lt, -Int64.not_le, -Int64.not_lt, -List.getD_eq_getElem?_getD]
      have hlt := arS_lt S 4
      have e1 : (pb q <<< (nI 8 &&& 31)) ||| nI (arS S 4) = nI (arN S) := by
        have e2 : pb q = nI (if S.2.1 0 < S.2.1 1 then 1 else 0) := by
          rw [hq]; by_cases z : S.2.1 0 < S.2.1 1 <;> simp [z, pb, ni_0, ni_1]
        have b1 : (if S.2.1 0 < S.2.1 1 then 1 else 0) ≤ 1 := by split <;> omega
        rw [e2, ni_shl (by decide) (by omega), ni_or (k := 8) hlt (by have : arS S 4 < 256 := hlt; omega)]
        congr 1
        rw [arS_4, arN]; split <;> omega
      rw [e1]
      exact hT M' hf
    have out : X 31 [(0, .ref p), (1, .int (nI (arS S 4)))] [] M' := by
      refine hb31 _ _ _ ?_
      simp (maxSteps := 2000000) [bk_X4_arrangement_0, bk_X4_arrangement_8, bk_X4_arrangement_31, bk_X4_arrangement_50, bk_X4_arrangement_51, pm_arr, pm_call, pm_e_c0, pm_e_c1, pm_e_cti, pm_e_ctl, pm_e_ctr, pm_e_go, pm_e_i, pm_e_ii, pm_e_ldi, pm_e_ldr, pm_e_lk, pm_e_r, pm_e_ri, pm_e_rm0, pm_e_rm1, pm_e_rs0, pm_e_rs1, pm_e_wp0, pm_e_wp1, pm_f2, pm_f3, pm_fld, pm_fv, pm_obj, pm_recv, pm_s_aload_n, pm_s_bipush, pm_s_getfield, pm_s_goto, pm_s_iaload, pm_s_iconst, pm_s_if_icmp_ge, pm_s_iinc, pm_s_iload_n, pm_s_imul, pm_s_invokevirtual, pm_s_ior, pm_s_ireturn, pm_s_ishl, pm_s_istore_n, ct_X4_arrangement, pS, pR, pC, pE, pL, -Int32.not_le, -Int32.not_lt, -Int64.not_le, -Int64.not_lt, -List.getD_eq_getElem?_getD, st_0 hp, st_3 hp]
      simp (disch := omega) only [ni_in, ni_cl, ni_add, ni_mul, ni_sub, ni_lt, ni_le, ni_eq, ni_eq0, ni_lt0, ni_0le, ni_0lt, ni_le0, ni_a1, ni_a3, ni_a7, ni_a15, hS'.e (show 0 < 2 by decide), hS'.e (show 1 < 2 by decide)]
      repeat refine ⟨by omega, ?_⟩
      refine ⟨fun h => ?_, fun h => ?_⟩
      · refine hb50 _ _ _ ?_
        simp (maxSteps := 2000000) [bk_X4_arrangement_0, bk_X4_arrangement_8, bk_X4_arrangement_31, bk_X4_arrangement_50, bk_X4_arrangement_51, pm_arr, pm_call, pm_e_c0, pm_e_c1, pm_e_cti, pm_e_ctl, pm_e_ctr, pm_e_go, pm_e_i, pm_e_ii, pm_e_ldi, pm_e_ldr, pm_e_lk, pm_e_r, pm_e_ri, pm_e_rm0, pm_e_rm1, pm_e_rs0, pm_e_rs1, pm_e_wp0, pm_e_wp1, pm_f2, pm_f3, pm_fld, pm_fv, pm_obj, pm_recv, pm_s_aload_n, pm_s_bipush, pm_s_getfield, pm_s_goto, pm_s_iaload, pm_s_iconst, pm_s_if_icmp_ge, pm_s_iinc, pm_s_iload_n, pm_s_imul, pm_s_invokevirtual, pm_s_ior, pm_s_ireturn, pm_s_ishl, pm_s_istore_n, ct_X4_arrangement, pS, pR, pC, pE, pL, -Int32.not_le, -Int32.not_lt, -Int64.not_le, -Int64.not_lt, -List.getD_eq_getElem?_getD]
        exact h51 false (by rw [decide_eq_false (by omega)])
      · exact h51 true (by rw [decide_eq_true (by omega)])
    have loop : ∀ (f j : Nat), 4 ≤ j + f → j ≤ 4 → X 8 [(0, .ref p), (1, .int (nI (arS S j))), (2, .int (nI j))] [] M' := by
      intro f
      induction f with
      | zero =>
        intro j f1 f2
        have e1 : j = 4 := by omega
        subst e1
        refine hb8 _ _ _ ?_
        simp (maxSteps := 2000000) [bk_X4_arrangement_0, bk_X4_arrangement_8, bk_X4_arrangement_31, bk_X4_arrangement_50, bk_X4_arrangement_51, pm_arr, pm_call, pm_e_c0, pm_e_c1, pm_e_cti, pm_e_ctl, pm_e_ctr, pm_e_go, pm_e_i, pm_e_ii, pm_e_ldi, pm_e_ldr, pm_e_lk, pm_e_r, pm_e_ri, pm_e_rm0, pm_e_rm1, pm_e_rs0, pm_e_rs1, pm_e_wp0, pm_e_wp1, pm_f2, pm_f3, pm_fld, pm_fv, pm_obj, pm_recv, pm_s_aload_n, pm_s_bipush, pm_s_getfield, pm_s_goto, pm_s_iaload, pm_s_iconst, pm_s_if_icmp_ge, pm_s_iinc, pm_s_iload_n, pm_s_imul, pm_s_invokevirtual, pm_s_ior, pm_s_ireturn, pm_s_ishl, pm_s_istore_n, ct_X4_arrangement, pS, pR, pC, pE, pL, -Int32.not_le, -Int32.not_lt, -Int64.not_le, -Int64.not_lt, -List.getD_eq_getElem?_getD]
        exact out
      | succ f ih =>
        intro j f1 f2
        by_cases hj : j < 4
        · refine hb8 _ _ _ ?_
          simp [bk_X4_arrangement_8, pm_e_wp1, pm_e_wp0, pm_s_iload, pm_s_iload_n, pm_s_iconst, pm_s_bipush, pm_e_c0, pm_s_aload_n, pm_e_ldi, pm_e_ldr, pm_e_lk, pm_f2, pm_f3, pm_s_if_icmp_ge, pm_e_ii, pm_e_go, pm_e_rs0, pm_e_rs1, pm_e_cti, pm_e_ctr, pm_s_invokevirtual, ct_X4_arrangement, pm_call, pm_recv, pm_obj, st_0 hp, -Int32.not_le, -Int32.not_lt]
          simp (disch := omega) only [ni_in, ni_cl, ni_add, ni_mul, ni_sub, ni_lt, ni_le, ni_eq, ni_eq0, ni_lt0, ni_0le, ni_0lt, ni_le0, ni_a1, ni_a3, ni_a7, ni_a15]
          refine ⟨fun h => by omega, fun _ => ?_⟩
          have hg := sg_lt S j
          have hkl : ky S (sg S j) < 2 ^ 63 := by have := al_lt (hS.d16 hg) (hS.len hg); unfold ky; omega
          refine ⟨j, ky S (sg S j), hp, rfl, hj, hkl, by rw [l3 j hj, oL_at S hj], ?_⟩
          rw [ky_mod S hg]
          simp (maxSteps := 2000000) [bk_X4_arrangement_0, bk_X4_arrangement_8, bk_X4_arrangement_31, bk_X4_arrangement_50, bk_X4_arrangement_51, pm_arr, pm_call, pm_e_c0, pm_e_c1, pm_e_cti, pm_e_ctl, pm_e_ctr, pm_e_go, pm_e_i, pm_e_ii, pm_e_ldi, pm_e_ldr, pm_e_lk, pm_e_r, pm_e_ri, pm_e_rm0, pm_e_rm1, pm_e_rs0, pm_e_rs1, pm_e_wp0, pm_e_wp1, pm_f2, pm_f3, pm_fld, pm_fv, pm_obj, pm_recv, pm_s_aload_n, pm_s_bipush, pm_s_getfield, pm_s_goto, pm_s_iaload, pm_s_iconst, pm_s_if_icmp_ge, pm_s_iinc, pm_s_iload_n, pm_s_imul, pm_s_invokevirtual, pm_s_ior, pm_s_ireturn, pm_s_ishl, pm_s_istore_n, ct_X4_arrangement, pS, pR, pC, pE, pL, -Int32.not_le, -Int32.not_lt, -Int64.not_le, -Int64.not_lt, -List.getD_eq_getElem?_getD]
          have hlt := arS_lt S j
          have e4 : (2 : Nat) ^ (2 * j) = 4 ^ j := by rw [Nat.pow_mul]
          have hp4 : 4 ^ j ≤ 64 := (Nat.pow_le_pow_right (by decide : 4 > 0) (show j ≤ 3 by omega) : 4 ^ j ≤ 4 ^ 3)
          have hm3 : sg S j * 4 ^ j ≤ 3 * 64 := Nat.mul_le_mul (by omega) hp4
          simp only [ni_mul, ni_add]
          rw [ni_shl (by omega) (by rw [e4]; omega), ni_or2 (by rw [e4]; exact hlt) (by rw [e4]; omega), e4]
          have := ih (j + 1) (by omega) (by omega)
          rw [show arS S (j + 1) = sg S j * 4 ^ j + arS S j from by show arS S j + 4 ^ j * sg S j = _; rw [Nat.mul_comm, Nat.add_comm]] at this
          exact this
        · have e1 : j = 4 := by omega
          subst e1
          refine hb8 _ _ _ ?_
          simp (maxSteps := 2000000) [bk_X4_arrangement_0, bk_X4_arrangement_8, bk_X4_arrangement_31, bk_X4_arrangement_50, bk_X4_arrangement_51, pm_arr, pm_call, pm_e_c0, pm_e_c1, pm_e_cti, pm_e_ctl, pm_e_ctr, pm_e_go, pm_e_i, pm_e_ii, pm_e_ldi, pm_e_ldr, pm_e_lk, pm_e_r, pm_e_ri, pm_e_rm0, pm_e_rm1, pm_e_rs0, pm_e_rs1, pm_e_wp0, pm_e_wp1, pm_f2, pm_f3, pm_fld, pm_fv, pm_obj, pm_recv, pm_s_aload_n, pm_s_bipush, pm_s_getfield, pm_s_goto, pm_s_iaload, pm_s_iconst, pm_s_if_icmp_ge, pm_s_iinc, pm_s_iload_n, pm_s_imul, pm_s_invokevirtual, pm_s_ior, pm_s_ireturn, pm_s_ishl, pm_s_istore_n, ct_X4_arrangement, pS, pR, pC, pE, pL, -Int32.not_le, -Int32.not_lt, -Int64.not_le, -Int64.not_lt, -List.getD_eq_getElem?_getD]
          exact out
    exact loop 4 0 (by omega) (by omega)
  · exact hT.elim
end
section
/-- how many of these digits are cards of the suit t -/
def cP (r t : Nat) (l : List Nat) : Nat := l.countP (fun d => decide (d ≠ 0) && decide (su r d = t))
theorem cP_app (r t : Nat) (l m : List Nat) : cP r t (l ++ m) = cP r t l + cP r t m := by unfold cP; exact List.countP_append
theorem cP_1 (r t d : Nat) : cP r t [d] = if d ≠ 0 ∧ su r d = t then 1 else 0 := by
  unfold cP; by_cases h : d ≠ 0 ∧ su r d = t
  · simp [h]
  · rw [if_neg h]; by_cases h1 : d = 0
    · simp [h1]
    · have : ¬ su r d = t := fun z => h ⟨h1, z⟩
      simp [this]
theorem me_1s {M : pm_M} {q i j : Nat} {v : Int32} : (pm_set M q i v).1 q j = if j = i then v else M.1 q j := by simp [pm_set]
theorem me_4s {M : pm_M} {q i j : Nat} {v : Int64} : (pm_setL M q i v).2 q j = if j = i then v else M.2 q j := by simp [pm_setL]
/-- houses from which the cards D are taken -/
def HoX (M : pm_M) (p : Nat) (P : Pm) (D : List Nat) : Prop := ∀ t, t < 4 → cP (pR P) t D ≤ (if t < pS P then pR P else 0) ∧ M.1 (p + 4) t = nI ((if t < pS P then pR P else 0) - cP (pR P) t D)
def tt_X4_takeFromHouse : pm_T := fun args M k => match args with
  | [.ref p, .int x] => ∃ P D d, isSt p ∧ x = nI d ∧ d ≤ pS P * pR P ∧ DkX M P ∧ HoX M p P D ∧ (∀ t, t < 4 → cP (pR P) t (D ++ [d]) ≤ (if t < pS P then pR P else 0)) ∧ ∀ M', HoX M' p P (D ++ [d]) → pm_fr [p + 4] M M' → k none M'
  | _ => False
abbrev ct_X4_takeFromHouse : List pm_C := []
set_option maxHeartbeats 4000000 in
theorem sm_X4_takeFromHouse  : pm_Sem SHx yX4_takeFromHouse cX4_takeFromHouse 2 none 1 tt_X4_takeFromHouse := by
  refine pm_Sem_intro bl_X4_takeFromHouse ct_X4_takeFromHouse cs_X4_takeFromHouse rfl (fun _ h => absurd h List.not_mem_nil) ck_X4_takeFromHouse (by decide +kernel) (by decide) ?_
  intro X k hX args M hT
  have hb0 := hX 0 bk_X4_takeFromHouse_0 (List.mem_of_getElem? (i := 0) rfl)
  have hb22 := hX 22 bk_X4_takeFromHouse_22 (List.mem_of_getElem? (i := 1) rfl)
  clear hX
  unfold tt_X4_takeFromHouse at hT; split at hT
  · next p x =>
    obtain ⟨⟨s, r, c, e, w⟩, D, d, hp, rfl, hd, hD, hH, hle, hT⟩ := hT
    have hP := hD.1.1
    obtain ⟨h1, h2, h3, h4, h5, h6, h7, h8, h9⟩ := hP
    have hdk := hD.1.2.2
    unfold HoX at hH
    dsimp only [pS, pR, pC, pE, pL] at *
    refine ⟨by simp [lg_sl, Value.category], ?_⟩
    refine hb0 _ _ _ ?_
    simp (maxSteps := 2000000) [bk_X4_takeFromHouse_0, bk_X4_takeFromHouse_22, pm_arr, pm_e_c0, pm_e_c1, pm_e_cti, pm_e_ctl, pm_e_ctr, pm_e_go, pm_e_i, pm_e_ii, pm_e_ldi, pm_e_ldr, pm_e_lk, pm_e_r, pm_e_ri, pm_e_rii, pm_e_rm0, pm_e_rm1, pm_e_rs0, pm_e_rs1, pm_e_v2, pm_e_wp0, pm_e_wp1, pm_f2, pm_f3, pm_fld, pm_fv, pm_obj, pm_s_aload_n, pm_s_dup2, pm_s_getfield, pm_s_iaload, pm_s_iastore, pm_s_iconst, pm_s_ifCond_eq, pm_s_iload_n, pm_s_isub, pm_s_return, ct_X4_takeFromHouse, pS, pR, pC, pE, pL, -Int32.not_le, -Int32.not_lt, -Int64.not_le, -Int64.not_lt, -List.getD_eq_getElem?_getD, lv_args, st_0 hp, st_4 hp, sx_1, sx_2]
    by_cases d0 : d = 0
    · subst d0
      refine ⟨fun _ => ?_, fun h => absurd rfl h⟩
      refine hb22 _ _ _ ?_
      simp (maxSteps := 2000000) [bk_X4_takeFromHouse_0, bk_X4_takeFromHouse_22, pm_arr, pm_e_c0, pm_e_c1, pm_e_cti, pm_e_ctl, pm_e_ctr, pm_e_go, pm_e_i, pm_e_ii, pm_e_ldi, pm_e_ldr, pm_e_lk, pm_e_r, pm_e_ri, pm_e_rii, pm_e_rm0, pm_e_rm1, pm_e_rs0, pm_e_rs1, pm_e_v2, pm_e_wp0, pm_e_wp1, pm_f2, pm_f3, pm_fld, pm_fv, pm_obj, pm_s_aload_n, pm_s_dup2, pm_s_getfield, pm_s_iaload, pm_s_iastore, pm_s_iconst, pm_s_ifCond_eq, pm_s_iload_n, pm_s_isub, pm_s_return, ct_X4_takeFromHouse, pS, pR, pC, pE, pL, -Int32.not_le, -Int32.not_lt, -Int64.not_le, -Int64.not_lt, -List.getD_eq_getElem?_getD]
      refine hT M (fun t ht => ?_) pm_fr.rfl
      have := hH t ht
      dsimp only [pS, pR]
      rw [cP_app, cP_1, if_neg (by simp), Nat.add_zero]
      exact this
    · have md := hdk d (by omega) hd
      have sd := su_lt h3 (show 1 ≤ d by omega) hd
      have hh := hH (su r d) (by omega)
      rw [if_pos sd] at hh
      have hl := hle (su r d) (by omega)
      rw [if_pos sd, cP_app, cP_1, if_pos ⟨d0, rfl⟩] at hl
      simp (disch := omega) only [ni_in, ni_cl, ni_add, ni_mul, ni_sub, ni_lt, ni_le, ni_eq, ni_eq0, ni_lt0, ni_0le, ni_0lt, ni_le0, ni_a1, ni_a3, ni_a7, ni_a15, md.1, hh.2]
      refine ⟨fun h => by omega, fun _ => ?_⟩
      repeat refine ⟨by omega, ?_⟩
      refine hb22 _ _ _ ?_
      simp (maxSteps := 2000000) [bk_X4_takeFromHouse_0, bk_X4_takeFromHouse_22, pm_arr, pm_e_c0, pm_e_c1, pm_e_cti, pm_e_ctl, pm_e_ctr, pm_e_go, pm_e_i, pm_e_ii, pm_e_ldi, pm_e_ldr, pm_e_lk, pm_e_r, pm_e_ri, pm_e_rii, pm_e_rm0, pm_e_rm1, pm_e_rs0, pm_e_rs1, pm_e_v2, pm_e_wp0, pm_e_wp1, pm_f2, pm_f3, pm_fld, pm_fv, pm_obj, pm_s_aload_n, pm_s_dup2, pm_s_getfield, pm_s_iaload, pm_s_iastore, pm_s_iconst, pm_s_ifCond_eq, pm_s_iload_n, pm_s_isub, pm_s_return, ct_X4_takeFromHouse, pS, pR, pC, pE, pL, -Int32.not_le, -Int32.not_lt, -Int64.not_le, -Int64.not_lt, -List.getD_eq_getElem?_getD]
      refine hT _ (fun t ht => ?_) (pm_fr.rfl.set (by simp))
      have ht' := hH t ht
      have hlt := hle t ht
      dsimp only [pS, pR]
      refine ⟨hlt, ?_⟩
      rw [me_1s, cP_app, cP_1]
      by_cases q : t = su r d
      · subst q
        rw [if_pos rfl, if_pos sd, if_pos ⟨d0, rfl⟩]
        first | rfl | (congr 1; omega)
      · rw [if_neg q, if_neg (show ¬ (d ≠ 0 ∧ su r d = t) from fun z => q z.2.symm), Nat.add_zero]
        exact ht'.2
  · exact hT.elim
/-- the digits of a stand's form -/
def DS (S : St) : List Nat := dgC (colsO S 4) ++ [max (S.2.1 0) (S.2.1 1), min (S.2.1 0) (S.2.1 1)]
/-- every card that lies nowhere is in its house -/
def allS (P : Pm) (S : St) : Prop := ∀ t, t < 4 → S.2.2 t + cP (pR P) t (DS S) = if t < pS P then pR P else 0
theorem leN_get : ∀ (l : List Nat) (n : Nat), (∀ d ∈ l, d < 16) → leN l / 16 ^ n % 16 = l.getD n 0
  | [], n, _ => by simp [leN]
  | d :: l, 0, h => by
    have := h d List.mem_cons_self
    show (d + 16 * leN l) / 1 % 16 = d
    omega
  | d :: l, n + 1, h => by
    have h1 := h d List.mem_cons_self
    have h2 := leN_get l n (fun x hx => h x (List.mem_cons_of_mem _ hx))
    show (d + 16 * leN l) / 16 ^ (n + 1) % 16 = l.getD n 0
    rw [Nat.pow_succ', ← Nat.div_div_eq_div_mul, show (d + 16 * leN l) / 16 = leN l by omega, h2]
theorem leN_drop : ∀ (l : List Nat) (n : Nat), (∀ d ∈ l, d < 16) → leN l / 16 ^ n = leN (l.drop n)
  | [], n, _ => by simp [leN]
  | d :: l, 0, h => by simp
  | d :: l, n + 1, h => by
    have h1 := h d List.mem_cons_self
    have h2 := leN_drop l n (fun x hx => h x (List.mem_cons_of_mem _ hx))
    show (d + 16 * leN l) / 16 ^ (n + 1) = leN (l.drop n)
    rw [Nat.pow_succ', ← Nat.div_div_eq_div_mul, show (d + 16 * leN l) / 16 = leN l by omega, h2]
theorem leN_take : ∀ (l : List Nat) (n : Nat), (∀ d ∈ l, d < 16) → leN l % 16 ^ n = leN (l.take n)
  | [], n, _ => by simp [leN]
  | d :: l, 0, h => by simp [leN, Nat.mod_one]
  | d :: l, n + 1, h => by
    have h1 := h d List.mem_cons_self
    have h2 := leN_take l n (fun x hx => h x (List.mem_cons_of_mem _ hx))
    show (d + 16 * leN l) % 16 ^ (n + 1) = d + 16 * leN (l.take n)
    rw [← h2, Nat.pow_succ', Nat.mod_mul, show (d + 16 * leN l) % 16 = d by omega, show (d + 16 * leN l) / 16 = leN l by omega]
theorem leN_app0 (c l : List Nat) : leN (c.reverse ++ 0 :: l) / 16 ^ (c.length + 1) = leN l ∨ True := Or.inr trivial
theorem DS_16 {S : St} (h : okS S) : ∀ d ∈ DS S, d < 16 := by
  intro d hd
  rcases List.mem_append.mp hd with q | q
  · exact dgC_16 h 4 d q
  · have c0 := h.2.1 0 (by decide)
    have c1 := h.2.1 1 (by decide)
    simp only [List.mem_cons, List.not_mem_nil, or_false] at q
    rcases q with q | q <;> omega
/-- what is left of the form behind the first i columns -/
def DR (S : St) (i : Nat) : List Nat := dgC ((List.range' i (4 - i)).map (fun j => S.1 (sg S j))) ++ [max (S.2.1 0) (S.2.1 1), min (S.2.1 0) (S.2.1 1)]
theorem DR_0 (S : St) : DR S 0 = DS S := rfl
theorem DR_s (S : St) {i : Nat} (h : i < 4) : DR S i = (S.1 (sg S i)).reverse ++ 0 :: DR S (i + 1) := by
  unfold DR
  rw [show 4 - i = (4 - (i + 1)) + 1 by omega, List.range'_succ]
  show (S.1 (sg S i)).reverse ++ 0 :: dgC _ ++ _ = _
  simp
theorem DR_4 (S : St) : DR S 4 = [max (S.2.1 0) (S.2.1 1), min (S.2.1 0) (S.2.1 1)] := rfl
theorem DR_app (S : St) : ∀ i, i ≤ 4 → dgC (colsO S i) ++ DR S i = DS S
  | 0, _ => rfl
  | i + 1, h => by
    rw [← DR_app S i (by omega), DR_s S (show i < 4 by omega), colsO_s, dgC_app]
    simp [dgC]
theorem DR_16 {S : St} (h : okS S) {i : Nat} (hi : i ≤ 4) : ∀ d ∈ DR S i, d < 16 := fun d hd => DS_16 h d (by rw [← DR_app S i hi]; exact List.mem_append_right _ hd)
end
